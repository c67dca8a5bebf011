/-! the class's functions once more: what is kept of LONG stays right (by program, wip/tool/mksimk.py) -/
abbrev P_X11_tapeNumber_1Y (r0 : z_M) : z_V → z_M → Prop := fun v s' => z_CI s' ∧ z_Fr R_X11_tapeNumber_1 r0 s' ∧ (s' 1 12 = r0 1 12 + 4) ∧ (y_V3 s') ∧ (y_Y4 s') ∧ (v = vN)
theorem sl_X11_tapeNumber_1Y_L3 {fu : Nat} (hfu : 8589934592 ≤ fu) (r0 : z_M) (a1 : Int) (b1 : -2147483648 ≤ a1 ∧ a1 ≤ 2147483647) (q0 : r0 1 12 ≤ 296) {k : z_M → z_O} (hk : ∀ (s' : z_M), z_CI s' → z_Fr R_X11_tapeNumber_1 r0 s' → (8 * s' 1 12 = 8 * r0 1 12 + 32) → (y_V3 s') → (y_Y4 s') → z_T (k s') (P_X11_tapeNumber_1Y r0)) : ∀ (F : Nat) (s : z_M) (a2 : Int), z_CI s → z_Fr R_X11_tapeNumber_1 r0 s → ((-8) ≤ a2 ∧ a2 ≤ 24) → (8 * s 1 12 + a2 = 8 * r0 1 12 + 24) → (y_V3 s) → (y_Y4 s) → (a2 + 2147483648 < (F : Int)) → z_T (fX11_tapeNumber_L3 fu 1 a1 F s a2 k) (P_X11_tapeNumber_1Y r0) := by
  intro F
  induction F with
  | zero =>
    intro s a2 c f b2 i0 i1 i2 hm
    have u42 := CI_b c (k := 1) (j := 12) bd_1_12
    have u43 := CI_b c (k := 1) (j := 16) bd_1_16
    exfalso; omega
  | succ F ih =>
    intro s a2 c f b2 i0 i1 i2 hm
    refine T_of (fX11_tapeNumber_L3.eq_2 ..) ?_
    have u1 := CI_b c (k := 1) (j := 12) bd_1_12
    have u2 := CI_b c (k := 1) (j := 16) bd_1_16
    refine T_ite (fun h3 => ?_) (fun h3 => ?_)
    · exact hk s c f (by omega) i1 i2
    · refine T_if1 (by decide +kernel) ?_
      refine T_let 4 (by decide +kernel) ?_
      refine T_if1 (by decide +kernel) ?_
      refine T_leq (fun x4 e5 => ?_)
      have u6 := CI_b c (k := 1) (j := 12) bd_1_12
      refine T_leq (fun x7 e8 => ?_)
      have w9 : -2147483648 ≤ x7 ∧ x7 ≤ 2147483647 := by rw [← e8]; exact z_i32b _
      refine T_leq (fun x10 e11 => ?_)
      have w12 : -2147483648 ≤ x10 ∧ x10 ≤ 2147483647 := by rw [← e11]; exact z_i32b _
      refine T_if1 (by decide +kernel) ?_
      refine T_put (by decide +kernel) (c := 5) (by decide +kernel) bdr_5 (by omega) c (fun s13 e16 c14 g17 => ?_)
      have f15 := z_Fr.up (R := R_X11_tapeNumber_1) f g17 (fun _ => (Or.inl (⟨by decide, by decide⟩)))
      have t18 : s13 1 12 = s 1 12 := g17 1 12 (by decide)
      have t19 : s13 1 16 = s 1 16 := g17 1 16 (by decide)
      have r20 := y_V3.fr i1 (g17 1 16 (by decide)) (g17 1 17 (by decide)) (g17 191 16 (by decide)) (g17 6 6 (by decide)) (g17 191 17 (by decide)) (g17 191 18 (by decide)) (fun b => g17 3 b (by decide)) (fun b => g17 8 b (by decide)) (fun b => g17 12 b (by decide)) (fun b => g17 14 b (by decide)) (fun b => g17 16 b (by decide)) (fun b => g17 18 b (by decide)) (fun b => g17 193 b (by decide)) (fun b => g17 195 b (by decide)) (fun b => g17 197 b (by decide)) (fun b => g17 199 b (by decide)) (fun b => g17 201 b (by decide)) (fun b => g17 203 b (by decide)) (fun b => g17 205 b (by decide)) (fun b => g17 207 b (by decide)) (fun b => g17 209 b (by decide)) (fun b => g17 211 b (by decide)) (fun b => g17 213 b (by decide)) (fun b => g17 215 b (by decide)) (fun b => g17 217 b (by decide)) (fun b => g17 219 b (by decide)) (fun b => g17 222 b (by decide)) (g17 240 6 (by decide)) (fun b => g17 248 b (by decide))
      have r21 := y_Y4.fr i2 (g17 1 16 (by decide)) (g17 1 17 (by decide)) (g17 191 16 (by decide)) (g17 6 6 (by decide)) (g17 191 17 (by decide)) (g17 191 18 (by decide)) (fun b => g17 3 b (by decide)) (fun b => g17 8 b (by decide)) (fun b => g17 12 b (by decide)) (fun b => g17 14 b (by decide)) (fun b => g17 16 b (by decide)) (fun b => g17 18 b (by decide)) (fun b => g17 193 b (by decide)) (fun b => g17 195 b (by decide)) (fun b => g17 197 b (by decide)) (fun b => g17 199 b (by decide)) (fun b => g17 201 b (by decide)) (fun b => g17 203 b (by decide)) (fun b => g17 205 b (by decide)) (fun b => g17 207 b (by decide)) (fun b => g17 209 b (by decide)) (fun b => g17 211 b (by decide)) (fun b => g17 213 b (by decide)) (fun b => g17 215 b (by decide)) (fun b => g17 217 b (by decide)) (fun b => g17 219 b (by decide)) (g17 240 6 (by decide)) (fun b => g17 248 b (by decide)) (fun b => g17 260 b (by decide)) (fun b => g17 262 b (by decide)) (fun b => g17 264 b (by decide)) (fun b => g17 266 b (by decide)) (fun b => g17 268 b (by decide)) (fun b => g17 270 b (by decide)) (fun b => g17 272 b (by decide)) (fun b => g17 274 b (by decide)) (fun b => g17 276 b (by decide)) (fun b => g17 278 b (by decide)) (g17 279 9 (by decide)) (fun b => g17 281 b (by decide)) (fun b => g17 283 b (by decide)) (fun b => g17 285 b (by decide)) (fun b => g17 287 b (by decide)) (fun b => g17 289 b (by decide)) (fun b => g17 291 b (by decide)) (fun b => g17 293 b (by decide)) (fun b => g17 295 b (by decide))
      have r22 := y_B0.fr i1.1.1 (g17 211 0 (by decide)) (g17 213 0 (by decide))
      refine T_if1 (by decide +kernel) ?_
      refine T_leq (fun x23 e24 => ?_)
      have u25 := CI_b c14 (k := 1) (j := 12) bd_1_12
      refine T_leq (fun x26 e27 => ?_)
      have w28 := z_wb e27
      refine T_if1 (by decide +kernel) ?_
      refine T_upg c14 bd_1_12 (by omega) (fun s29 c30 g32 g33 e34 => ?_)
      have f31 := z_Fr.upf (R := R_X11_tapeNumber_1) f15 g32 g33 (Or.inr (⟨rfl, by decide⟩))
      have t35 : s29 1 16 = s13 1 16 := g33 16 (by decide)
      have r36 := y_V3.fr r20 (g33 16 (by decide)) (g33 17 (by decide)) (g32 191 16 (by decide)) (g32 6 6 (by decide)) (g32 191 17 (by decide)) (g32 191 18 (by decide)) (fun b => g32 3 b (by decide)) (fun b => g32 8 b (by decide)) (fun b => g32 12 b (by decide)) (fun b => g32 14 b (by decide)) (fun b => g32 16 b (by decide)) (fun b => g32 18 b (by decide)) (fun b => g32 193 b (by decide)) (fun b => g32 195 b (by decide)) (fun b => g32 197 b (by decide)) (fun b => g32 199 b (by decide)) (fun b => g32 201 b (by decide)) (fun b => g32 203 b (by decide)) (fun b => g32 205 b (by decide)) (fun b => g32 207 b (by decide)) (fun b => g32 209 b (by decide)) (fun b => g32 211 b (by decide)) (fun b => g32 213 b (by decide)) (fun b => g32 215 b (by decide)) (fun b => g32 217 b (by decide)) (fun b => g32 219 b (by decide)) (fun b => g32 222 b (by decide)) (g32 240 6 (by decide)) (fun b => g32 248 b (by decide))
      have r37 := y_Y4.fr r21 (g33 16 (by decide)) (g33 17 (by decide)) (g32 191 16 (by decide)) (g32 6 6 (by decide)) (g32 191 17 (by decide)) (g32 191 18 (by decide)) (fun b => g32 3 b (by decide)) (fun b => g32 8 b (by decide)) (fun b => g32 12 b (by decide)) (fun b => g32 14 b (by decide)) (fun b => g32 16 b (by decide)) (fun b => g32 18 b (by decide)) (fun b => g32 193 b (by decide)) (fun b => g32 195 b (by decide)) (fun b => g32 197 b (by decide)) (fun b => g32 199 b (by decide)) (fun b => g32 201 b (by decide)) (fun b => g32 203 b (by decide)) (fun b => g32 205 b (by decide)) (fun b => g32 207 b (by decide)) (fun b => g32 209 b (by decide)) (fun b => g32 211 b (by decide)) (fun b => g32 213 b (by decide)) (fun b => g32 215 b (by decide)) (fun b => g32 217 b (by decide)) (fun b => g32 219 b (by decide)) (g32 240 6 (by decide)) (fun b => g32 248 b (by decide)) (fun b => g32 260 b (by decide)) (fun b => g32 262 b (by decide)) (fun b => g32 264 b (by decide)) (fun b => g32 266 b (by decide)) (fun b => g32 268 b (by decide)) (fun b => g32 270 b (by decide)) (fun b => g32 272 b (by decide)) (fun b => g32 274 b (by decide)) (fun b => g32 276 b (by decide)) (fun b => g32 278 b (by decide)) (g32 279 9 (by decide)) (fun b => g32 281 b (by decide)) (fun b => g32 283 b (by decide)) (fun b => g32 285 b (by decide)) (fun b => g32 287 b (by decide)) (fun b => g32 289 b (by decide)) (fun b => g32 291 b (by decide)) (fun b => g32 293 b (by decide)) (fun b => g32 295 b (by decide))
      have r38 := y_B0.fr r22 (g32 211 0 (by decide)) (g32 213 0 (by decide))
      refine T_leq (fun x39 e40 => ?_)
      have w41 := z_wb e40
      exact ih s29 x39 c30 f31 (by omega) (by omega) r36 r37 (by omega)
theorem sf_X11_tapeNumber_1Y {fu : Nat} (hfu : 8589934592 ≤ fu) (r0 : z_M) (c0 : z_CI r0) (a1 : Int) (b1 : -2147483648 ≤ a1 ∧ a1 ≤ 2147483647) (p0 : r0 1 12 ≤ 296) (p1 : y_V3 r0) (p2 : y_Y4 r0) : z_T (fX11_tapeNumber fu r0 1 a1) (P_X11_tapeNumber_1Y r0) := by
  refine T_of (fX11_tapeNumber.eq_1 ..) ?_
  refine sl_X11_tapeNumber_1Y_L3 hfu r0 a1 (by omega) (by omega) (fun s1 c2 f3 g4 g5 g6 => ?_) fu r0 24 c0 z_Fr.rf (by omega) (by omega) p1 p2 (by omega)
  have u7 := CI_b c2 (k := 1) (j := 12) bd_1_12
  have u8 := CI_b c2 (k := 1) (j := 16) bd_1_16
  exact T_ret ⟨c2, f3, by omega, g5, g6, rfl⟩
abbrev P_X11_feed_1Y (r0 : z_M) : z_V → z_M → Prop := fun v s' => z_CI s' ∧ z_Fr R_X11_feed_1 r0 s' ∧ (y_V3 s') ∧ (y_Y4 s') ∧ (∃ x, v = vI x ∧ -2147483648 ≤ x ∧ x ≤ 2147483647 ∧ ((r0 1 12 ≤ 280 ∧ s' 1 12 = r0 1 12 + 20 ∧ x = r0 1 12 + 20) ∨ (280 < r0 1 12 ∧ x = -1 ∧ s' 1 12 = r0 1 12)))
theorem nr_X11_tapeNumber_1__260 (b : Int) : ¬ R_X11_tapeNumber_1 260 b := by
  unfold R_X11_tapeNumber_1; omega
theorem nr_X11_tapeNumber_1__262 (b : Int) : ¬ R_X11_tapeNumber_1 262 b := by
  unfold R_X11_tapeNumber_1; omega
theorem nr_X11_tapeNumber_1__264 (b : Int) : ¬ R_X11_tapeNumber_1 264 b := by
  unfold R_X11_tapeNumber_1; omega
theorem nr_X11_tapeNumber_1__266 (b : Int) : ¬ R_X11_tapeNumber_1 266 b := by
  unfold R_X11_tapeNumber_1; omega
theorem nr_X11_tapeNumber_1__268 (b : Int) : ¬ R_X11_tapeNumber_1 268 b := by
  unfold R_X11_tapeNumber_1; omega
theorem nr_X11_tapeNumber_1__270 (b : Int) : ¬ R_X11_tapeNumber_1 270 b := by
  unfold R_X11_tapeNumber_1; omega
theorem nr_X11_tapeNumber_1__272 (b : Int) : ¬ R_X11_tapeNumber_1 272 b := by
  unfold R_X11_tapeNumber_1; omega
theorem nr_X11_tapeNumber_1__274 (b : Int) : ¬ R_X11_tapeNumber_1 274 b := by
  unfold R_X11_tapeNumber_1; omega
theorem nr_X11_tapeNumber_1__276 (b : Int) : ¬ R_X11_tapeNumber_1 276 b := by
  unfold R_X11_tapeNumber_1; omega
theorem nr_X11_tapeNumber_1__278 (b : Int) : ¬ R_X11_tapeNumber_1 278 b := by
  unfold R_X11_tapeNumber_1; omega
theorem nr_X11_tapeNumber_1__281 (b : Int) : ¬ R_X11_tapeNumber_1 281 b := by
  unfold R_X11_tapeNumber_1; omega
theorem nr_X11_tapeNumber_1__283 (b : Int) : ¬ R_X11_tapeNumber_1 283 b := by
  unfold R_X11_tapeNumber_1; omega
theorem nr_X11_tapeNumber_1__285 (b : Int) : ¬ R_X11_tapeNumber_1 285 b := by
  unfold R_X11_tapeNumber_1; omega
theorem nr_X11_tapeNumber_1__287 (b : Int) : ¬ R_X11_tapeNumber_1 287 b := by
  unfold R_X11_tapeNumber_1; omega
theorem nr_X11_tapeNumber_1__289 (b : Int) : ¬ R_X11_tapeNumber_1 289 b := by
  unfold R_X11_tapeNumber_1; omega
theorem nr_X11_tapeNumber_1__291 (b : Int) : ¬ R_X11_tapeNumber_1 291 b := by
  unfold R_X11_tapeNumber_1; omega
theorem nr_X11_tapeNumber_1__293 (b : Int) : ¬ R_X11_tapeNumber_1 293 b := by
  unfold R_X11_tapeNumber_1; omega
theorem nr_X11_tapeNumber_1__295 (b : Int) : ¬ R_X11_tapeNumber_1 295 b := by
  unfold R_X11_tapeNumber_1; omega
set_option maxHeartbeats 4000000 in
theorem sf_X11_feed_1Y {fu : Nat} (hfu : 8589934592 ≤ fu) (r0 : z_M) (c0 : z_CI r0) (a1 : Int) (a2 : Int) (a3 : Int) (a4 : Int) (a5 : Int) (b1 : -2147483648 ≤ a1 ∧ a1 ≤ 2147483647) (b2 : -2147483648 ≤ a2 ∧ a2 ≤ 2147483647) (b3 : -2147483648 ≤ a3 ∧ a3 ≤ 2147483647) (b4 : -2147483648 ≤ a4 ∧ a4 ≤ 2147483647) (b5 : -2147483648 ≤ a5 ∧ a5 ≤ 2147483647) (p0 : y_V3 r0) (p1 : y_Y4 r0) : z_T (fX11_feed fu r0 1 a1 a2 a3 a4 a5) (P_X11_feed_1Y r0) := by
  refine T_of (fX11_feed.eq_1 ..) ?_
  refine T_if1 (by decide +kernel) ?_
  refine T_leq (fun x1 e2 => ?_)
  have u3 := CI_b c0 (k := 1) (j := 12) bd_1_12
  refine T_ite (fun h4 => ?_) (fun h4 => ?_)
  · refine T_if1 (by decide +kernel) ?_
    refine T_useN (sf_X11_tapeNumber_1Y hfu r0 c0 a1 (by omega) (by omega) p0 p1) (fun v10 s5 hq => ?_)
    obtain ⟨c6, f7, o11, o12, o13, rfl⟩ := hq
    refine T_vN ?_
    have f8 := z_Fr.tr (R := R_X11_feed_1) z_Fr.rf f7 rs_X11_tapeNumber_1__X11_feed_1
    have u16 := CI_b c6 (k := 1) (j := 12) bd_1_12
    have r17 := y_V3.fr p0 (f7 1 16 (by decide)) (f7 1 17 (by decide)) (f7 191 16 (by decide)) (f7 6 6 (by decide)) (f7 191 17 (by decide)) (f7 191 18 (by decide)) (fun b => f7 3 b (nr_X11_tapeNumber_1__3 b)) (fun b => f7 8 b (nr_X11_tapeNumber_1__8 b)) (fun b => f7 12 b (nr_X11_tapeNumber_1__12 b)) (fun b => f7 14 b (nr_X11_tapeNumber_1__14 b)) (fun b => f7 16 b (nr_X11_tapeNumber_1__16 b)) (fun b => f7 18 b (nr_X11_tapeNumber_1__18 b)) (fun b => f7 193 b (nr_X11_tapeNumber_1__193 b)) (fun b => f7 195 b (nr_X11_tapeNumber_1__195 b)) (fun b => f7 197 b (nr_X11_tapeNumber_1__197 b)) (fun b => f7 199 b (nr_X11_tapeNumber_1__199 b)) (fun b => f7 201 b (nr_X11_tapeNumber_1__201 b)) (fun b => f7 203 b (nr_X11_tapeNumber_1__203 b)) (fun b => f7 205 b (nr_X11_tapeNumber_1__205 b)) (fun b => f7 207 b (nr_X11_tapeNumber_1__207 b)) (fun b => f7 209 b (nr_X11_tapeNumber_1__209 b)) (fun b => f7 211 b (nr_X11_tapeNumber_1__211 b)) (fun b => f7 213 b (nr_X11_tapeNumber_1__213 b)) (fun b => f7 215 b (nr_X11_tapeNumber_1__215 b)) (fun b => f7 217 b (nr_X11_tapeNumber_1__217 b)) (fun b => f7 219 b (nr_X11_tapeNumber_1__219 b)) (fun b => f7 222 b (nr_X11_tapeNumber_1__222 b)) (f7 240 6 (by decide)) (fun b => f7 248 b (nr_X11_tapeNumber_1__248 b))
    have r18 := y_Y4.fr p1 (f7 1 16 (by decide)) (f7 1 17 (by decide)) (f7 191 16 (by decide)) (f7 6 6 (by decide)) (f7 191 17 (by decide)) (f7 191 18 (by decide)) (fun b => f7 3 b (nr_X11_tapeNumber_1__3 b)) (fun b => f7 8 b (nr_X11_tapeNumber_1__8 b)) (fun b => f7 12 b (nr_X11_tapeNumber_1__12 b)) (fun b => f7 14 b (nr_X11_tapeNumber_1__14 b)) (fun b => f7 16 b (nr_X11_tapeNumber_1__16 b)) (fun b => f7 18 b (nr_X11_tapeNumber_1__18 b)) (fun b => f7 193 b (nr_X11_tapeNumber_1__193 b)) (fun b => f7 195 b (nr_X11_tapeNumber_1__195 b)) (fun b => f7 197 b (nr_X11_tapeNumber_1__197 b)) (fun b => f7 199 b (nr_X11_tapeNumber_1__199 b)) (fun b => f7 201 b (nr_X11_tapeNumber_1__201 b)) (fun b => f7 203 b (nr_X11_tapeNumber_1__203 b)) (fun b => f7 205 b (nr_X11_tapeNumber_1__205 b)) (fun b => f7 207 b (nr_X11_tapeNumber_1__207 b)) (fun b => f7 209 b (nr_X11_tapeNumber_1__209 b)) (fun b => f7 211 b (nr_X11_tapeNumber_1__211 b)) (fun b => f7 213 b (nr_X11_tapeNumber_1__213 b)) (fun b => f7 215 b (nr_X11_tapeNumber_1__215 b)) (fun b => f7 217 b (nr_X11_tapeNumber_1__217 b)) (fun b => f7 219 b (nr_X11_tapeNumber_1__219 b)) (f7 240 6 (by decide)) (fun b => f7 248 b (nr_X11_tapeNumber_1__248 b)) (fun b => f7 260 b (nr_X11_tapeNumber_1__260 b)) (fun b => f7 262 b (nr_X11_tapeNumber_1__262 b)) (fun b => f7 264 b (nr_X11_tapeNumber_1__264 b)) (fun b => f7 266 b (nr_X11_tapeNumber_1__266 b)) (fun b => f7 268 b (nr_X11_tapeNumber_1__268 b)) (fun b => f7 270 b (nr_X11_tapeNumber_1__270 b)) (fun b => f7 272 b (nr_X11_tapeNumber_1__272 b)) (fun b => f7 274 b (nr_X11_tapeNumber_1__274 b)) (fun b => f7 276 b (nr_X11_tapeNumber_1__276 b)) (fun b => f7 278 b (nr_X11_tapeNumber_1__278 b)) (f7 279 9 (by decide)) (fun b => f7 281 b (nr_X11_tapeNumber_1__281 b)) (fun b => f7 283 b (nr_X11_tapeNumber_1__283 b)) (fun b => f7 285 b (nr_X11_tapeNumber_1__285 b)) (fun b => f7 287 b (nr_X11_tapeNumber_1__287 b)) (fun b => f7 289 b (nr_X11_tapeNumber_1__289 b)) (fun b => f7 291 b (nr_X11_tapeNumber_1__291 b)) (fun b => f7 293 b (nr_X11_tapeNumber_1__293 b)) (fun b => f7 295 b (nr_X11_tapeNumber_1__295 b))
    have r19 := y_B0.fr p0.1.1 (f7 211 0 (by decide)) (f7 213 0 (by decide))
    refine T_if1 (by decide +kernel) ?_
    refine T_useN (sf_X11_tapeNumber_1Y hfu s5 c6 a2 (by omega) (by omega) o12 o13) (fun v25 s20 hq => ?_)
    obtain ⟨c21, f22, o26, o27, o28, rfl⟩ := hq
    refine T_vN ?_
    have f23 := z_Fr.tr (R := R_X11_feed_1) f8 f22 rs_X11_tapeNumber_1__X11_feed_1
    have u31 := CI_b c21 (k := 1) (j := 12) bd_1_12
    have r32 := y_V3.fr o12 (f22 1 16 (by decide)) (f22 1 17 (by decide)) (f22 191 16 (by decide)) (f22 6 6 (by decide)) (f22 191 17 (by decide)) (f22 191 18 (by decide)) (fun b => f22 3 b (nr_X11_tapeNumber_1__3 b)) (fun b => f22 8 b (nr_X11_tapeNumber_1__8 b)) (fun b => f22 12 b (nr_X11_tapeNumber_1__12 b)) (fun b => f22 14 b (nr_X11_tapeNumber_1__14 b)) (fun b => f22 16 b (nr_X11_tapeNumber_1__16 b)) (fun b => f22 18 b (nr_X11_tapeNumber_1__18 b)) (fun b => f22 193 b (nr_X11_tapeNumber_1__193 b)) (fun b => f22 195 b (nr_X11_tapeNumber_1__195 b)) (fun b => f22 197 b (nr_X11_tapeNumber_1__197 b)) (fun b => f22 199 b (nr_X11_tapeNumber_1__199 b)) (fun b => f22 201 b (nr_X11_tapeNumber_1__201 b)) (fun b => f22 203 b (nr_X11_tapeNumber_1__203 b)) (fun b => f22 205 b (nr_X11_tapeNumber_1__205 b)) (fun b => f22 207 b (nr_X11_tapeNumber_1__207 b)) (fun b => f22 209 b (nr_X11_tapeNumber_1__209 b)) (fun b => f22 211 b (nr_X11_tapeNumber_1__211 b)) (fun b => f22 213 b (nr_X11_tapeNumber_1__213 b)) (fun b => f22 215 b (nr_X11_tapeNumber_1__215 b)) (fun b => f22 217 b (nr_X11_tapeNumber_1__217 b)) (fun b => f22 219 b (nr_X11_tapeNumber_1__219 b)) (fun b => f22 222 b (nr_X11_tapeNumber_1__222 b)) (f22 240 6 (by decide)) (fun b => f22 248 b (nr_X11_tapeNumber_1__248 b))
    have r33 := y_Y4.fr o13 (f22 1 16 (by decide)) (f22 1 17 (by decide)) (f22 191 16 (by decide)) (f22 6 6 (by decide)) (f22 191 17 (by decide)) (f22 191 18 (by decide)) (fun b => f22 3 b (nr_X11_tapeNumber_1__3 b)) (fun b => f22 8 b (nr_X11_tapeNumber_1__8 b)) (fun b => f22 12 b (nr_X11_tapeNumber_1__12 b)) (fun b => f22 14 b (nr_X11_tapeNumber_1__14 b)) (fun b => f22 16 b (nr_X11_tapeNumber_1__16 b)) (fun b => f22 18 b (nr_X11_tapeNumber_1__18 b)) (fun b => f22 193 b (nr_X11_tapeNumber_1__193 b)) (fun b => f22 195 b (nr_X11_tapeNumber_1__195 b)) (fun b => f22 197 b (nr_X11_tapeNumber_1__197 b)) (fun b => f22 199 b (nr_X11_tapeNumber_1__199 b)) (fun b => f22 201 b (nr_X11_tapeNumber_1__201 b)) (fun b => f22 203 b (nr_X11_tapeNumber_1__203 b)) (fun b => f22 205 b (nr_X11_tapeNumber_1__205 b)) (fun b => f22 207 b (nr_X11_tapeNumber_1__207 b)) (fun b => f22 209 b (nr_X11_tapeNumber_1__209 b)) (fun b => f22 211 b (nr_X11_tapeNumber_1__211 b)) (fun b => f22 213 b (nr_X11_tapeNumber_1__213 b)) (fun b => f22 215 b (nr_X11_tapeNumber_1__215 b)) (fun b => f22 217 b (nr_X11_tapeNumber_1__217 b)) (fun b => f22 219 b (nr_X11_tapeNumber_1__219 b)) (f22 240 6 (by decide)) (fun b => f22 248 b (nr_X11_tapeNumber_1__248 b)) (fun b => f22 260 b (nr_X11_tapeNumber_1__260 b)) (fun b => f22 262 b (nr_X11_tapeNumber_1__262 b)) (fun b => f22 264 b (nr_X11_tapeNumber_1__264 b)) (fun b => f22 266 b (nr_X11_tapeNumber_1__266 b)) (fun b => f22 268 b (nr_X11_tapeNumber_1__268 b)) (fun b => f22 270 b (nr_X11_tapeNumber_1__270 b)) (fun b => f22 272 b (nr_X11_tapeNumber_1__272 b)) (fun b => f22 274 b (nr_X11_tapeNumber_1__274 b)) (fun b => f22 276 b (nr_X11_tapeNumber_1__276 b)) (fun b => f22 278 b (nr_X11_tapeNumber_1__278 b)) (f22 279 9 (by decide)) (fun b => f22 281 b (nr_X11_tapeNumber_1__281 b)) (fun b => f22 283 b (nr_X11_tapeNumber_1__283 b)) (fun b => f22 285 b (nr_X11_tapeNumber_1__285 b)) (fun b => f22 287 b (nr_X11_tapeNumber_1__287 b)) (fun b => f22 289 b (nr_X11_tapeNumber_1__289 b)) (fun b => f22 291 b (nr_X11_tapeNumber_1__291 b)) (fun b => f22 293 b (nr_X11_tapeNumber_1__293 b)) (fun b => f22 295 b (nr_X11_tapeNumber_1__295 b))
    have r34 := y_B0.fr o12.1.1 (f22 211 0 (by decide)) (f22 213 0 (by decide))
    refine T_if1 (by decide +kernel) ?_
    refine T_useN (sf_X11_tapeNumber_1Y hfu s20 c21 a3 (by omega) (by omega) o27 o28) (fun v40 s35 hq => ?_)
    obtain ⟨c36, f37, o41, o42, o43, rfl⟩ := hq
    refine T_vN ?_
    have f38 := z_Fr.tr (R := R_X11_feed_1) f23 f37 rs_X11_tapeNumber_1__X11_feed_1
    have u46 := CI_b c36 (k := 1) (j := 12) bd_1_12
    have r47 := y_V3.fr o27 (f37 1 16 (by decide)) (f37 1 17 (by decide)) (f37 191 16 (by decide)) (f37 6 6 (by decide)) (f37 191 17 (by decide)) (f37 191 18 (by decide)) (fun b => f37 3 b (nr_X11_tapeNumber_1__3 b)) (fun b => f37 8 b (nr_X11_tapeNumber_1__8 b)) (fun b => f37 12 b (nr_X11_tapeNumber_1__12 b)) (fun b => f37 14 b (nr_X11_tapeNumber_1__14 b)) (fun b => f37 16 b (nr_X11_tapeNumber_1__16 b)) (fun b => f37 18 b (nr_X11_tapeNumber_1__18 b)) (fun b => f37 193 b (nr_X11_tapeNumber_1__193 b)) (fun b => f37 195 b (nr_X11_tapeNumber_1__195 b)) (fun b => f37 197 b (nr_X11_tapeNumber_1__197 b)) (fun b => f37 199 b (nr_X11_tapeNumber_1__199 b)) (fun b => f37 201 b (nr_X11_tapeNumber_1__201 b)) (fun b => f37 203 b (nr_X11_tapeNumber_1__203 b)) (fun b => f37 205 b (nr_X11_tapeNumber_1__205 b)) (fun b => f37 207 b (nr_X11_tapeNumber_1__207 b)) (fun b => f37 209 b (nr_X11_tapeNumber_1__209 b)) (fun b => f37 211 b (nr_X11_tapeNumber_1__211 b)) (fun b => f37 213 b (nr_X11_tapeNumber_1__213 b)) (fun b => f37 215 b (nr_X11_tapeNumber_1__215 b)) (fun b => f37 217 b (nr_X11_tapeNumber_1__217 b)) (fun b => f37 219 b (nr_X11_tapeNumber_1__219 b)) (fun b => f37 222 b (nr_X11_tapeNumber_1__222 b)) (f37 240 6 (by decide)) (fun b => f37 248 b (nr_X11_tapeNumber_1__248 b))
    have r48 := y_Y4.fr o28 (f37 1 16 (by decide)) (f37 1 17 (by decide)) (f37 191 16 (by decide)) (f37 6 6 (by decide)) (f37 191 17 (by decide)) (f37 191 18 (by decide)) (fun b => f37 3 b (nr_X11_tapeNumber_1__3 b)) (fun b => f37 8 b (nr_X11_tapeNumber_1__8 b)) (fun b => f37 12 b (nr_X11_tapeNumber_1__12 b)) (fun b => f37 14 b (nr_X11_tapeNumber_1__14 b)) (fun b => f37 16 b (nr_X11_tapeNumber_1__16 b)) (fun b => f37 18 b (nr_X11_tapeNumber_1__18 b)) (fun b => f37 193 b (nr_X11_tapeNumber_1__193 b)) (fun b => f37 195 b (nr_X11_tapeNumber_1__195 b)) (fun b => f37 197 b (nr_X11_tapeNumber_1__197 b)) (fun b => f37 199 b (nr_X11_tapeNumber_1__199 b)) (fun b => f37 201 b (nr_X11_tapeNumber_1__201 b)) (fun b => f37 203 b (nr_X11_tapeNumber_1__203 b)) (fun b => f37 205 b (nr_X11_tapeNumber_1__205 b)) (fun b => f37 207 b (nr_X11_tapeNumber_1__207 b)) (fun b => f37 209 b (nr_X11_tapeNumber_1__209 b)) (fun b => f37 211 b (nr_X11_tapeNumber_1__211 b)) (fun b => f37 213 b (nr_X11_tapeNumber_1__213 b)) (fun b => f37 215 b (nr_X11_tapeNumber_1__215 b)) (fun b => f37 217 b (nr_X11_tapeNumber_1__217 b)) (fun b => f37 219 b (nr_X11_tapeNumber_1__219 b)) (f37 240 6 (by decide)) (fun b => f37 248 b (nr_X11_tapeNumber_1__248 b)) (fun b => f37 260 b (nr_X11_tapeNumber_1__260 b)) (fun b => f37 262 b (nr_X11_tapeNumber_1__262 b)) (fun b => f37 264 b (nr_X11_tapeNumber_1__264 b)) (fun b => f37 266 b (nr_X11_tapeNumber_1__266 b)) (fun b => f37 268 b (nr_X11_tapeNumber_1__268 b)) (fun b => f37 270 b (nr_X11_tapeNumber_1__270 b)) (fun b => f37 272 b (nr_X11_tapeNumber_1__272 b)) (fun b => f37 274 b (nr_X11_tapeNumber_1__274 b)) (fun b => f37 276 b (nr_X11_tapeNumber_1__276 b)) (fun b => f37 278 b (nr_X11_tapeNumber_1__278 b)) (f37 279 9 (by decide)) (fun b => f37 281 b (nr_X11_tapeNumber_1__281 b)) (fun b => f37 283 b (nr_X11_tapeNumber_1__283 b)) (fun b => f37 285 b (nr_X11_tapeNumber_1__285 b)) (fun b => f37 287 b (nr_X11_tapeNumber_1__287 b)) (fun b => f37 289 b (nr_X11_tapeNumber_1__289 b)) (fun b => f37 291 b (nr_X11_tapeNumber_1__291 b)) (fun b => f37 293 b (nr_X11_tapeNumber_1__293 b)) (fun b => f37 295 b (nr_X11_tapeNumber_1__295 b))
    have r49 := y_B0.fr o27.1.1 (f37 211 0 (by decide)) (f37 213 0 (by decide))
    refine T_if1 (by decide +kernel) ?_
    refine T_useN (sf_X11_tapeNumber_1Y hfu s35 c36 a4 (by omega) (by omega) o42 o43) (fun v55 s50 hq => ?_)
    obtain ⟨c51, f52, o56, o57, o58, rfl⟩ := hq
    refine T_vN ?_
    have f53 := z_Fr.tr (R := R_X11_feed_1) f38 f52 rs_X11_tapeNumber_1__X11_feed_1
    have u61 := CI_b c51 (k := 1) (j := 12) bd_1_12
    have r62 := y_V3.fr o42 (f52 1 16 (by decide)) (f52 1 17 (by decide)) (f52 191 16 (by decide)) (f52 6 6 (by decide)) (f52 191 17 (by decide)) (f52 191 18 (by decide)) (fun b => f52 3 b (nr_X11_tapeNumber_1__3 b)) (fun b => f52 8 b (nr_X11_tapeNumber_1__8 b)) (fun b => f52 12 b (nr_X11_tapeNumber_1__12 b)) (fun b => f52 14 b (nr_X11_tapeNumber_1__14 b)) (fun b => f52 16 b (nr_X11_tapeNumber_1__16 b)) (fun b => f52 18 b (nr_X11_tapeNumber_1__18 b)) (fun b => f52 193 b (nr_X11_tapeNumber_1__193 b)) (fun b => f52 195 b (nr_X11_tapeNumber_1__195 b)) (fun b => f52 197 b (nr_X11_tapeNumber_1__197 b)) (fun b => f52 199 b (nr_X11_tapeNumber_1__199 b)) (fun b => f52 201 b (nr_X11_tapeNumber_1__201 b)) (fun b => f52 203 b (nr_X11_tapeNumber_1__203 b)) (fun b => f52 205 b (nr_X11_tapeNumber_1__205 b)) (fun b => f52 207 b (nr_X11_tapeNumber_1__207 b)) (fun b => f52 209 b (nr_X11_tapeNumber_1__209 b)) (fun b => f52 211 b (nr_X11_tapeNumber_1__211 b)) (fun b => f52 213 b (nr_X11_tapeNumber_1__213 b)) (fun b => f52 215 b (nr_X11_tapeNumber_1__215 b)) (fun b => f52 217 b (nr_X11_tapeNumber_1__217 b)) (fun b => f52 219 b (nr_X11_tapeNumber_1__219 b)) (fun b => f52 222 b (nr_X11_tapeNumber_1__222 b)) (f52 240 6 (by decide)) (fun b => f52 248 b (nr_X11_tapeNumber_1__248 b))
    have r63 := y_Y4.fr o43 (f52 1 16 (by decide)) (f52 1 17 (by decide)) (f52 191 16 (by decide)) (f52 6 6 (by decide)) (f52 191 17 (by decide)) (f52 191 18 (by decide)) (fun b => f52 3 b (nr_X11_tapeNumber_1__3 b)) (fun b => f52 8 b (nr_X11_tapeNumber_1__8 b)) (fun b => f52 12 b (nr_X11_tapeNumber_1__12 b)) (fun b => f52 14 b (nr_X11_tapeNumber_1__14 b)) (fun b => f52 16 b (nr_X11_tapeNumber_1__16 b)) (fun b => f52 18 b (nr_X11_tapeNumber_1__18 b)) (fun b => f52 193 b (nr_X11_tapeNumber_1__193 b)) (fun b => f52 195 b (nr_X11_tapeNumber_1__195 b)) (fun b => f52 197 b (nr_X11_tapeNumber_1__197 b)) (fun b => f52 199 b (nr_X11_tapeNumber_1__199 b)) (fun b => f52 201 b (nr_X11_tapeNumber_1__201 b)) (fun b => f52 203 b (nr_X11_tapeNumber_1__203 b)) (fun b => f52 205 b (nr_X11_tapeNumber_1__205 b)) (fun b => f52 207 b (nr_X11_tapeNumber_1__207 b)) (fun b => f52 209 b (nr_X11_tapeNumber_1__209 b)) (fun b => f52 211 b (nr_X11_tapeNumber_1__211 b)) (fun b => f52 213 b (nr_X11_tapeNumber_1__213 b)) (fun b => f52 215 b (nr_X11_tapeNumber_1__215 b)) (fun b => f52 217 b (nr_X11_tapeNumber_1__217 b)) (fun b => f52 219 b (nr_X11_tapeNumber_1__219 b)) (f52 240 6 (by decide)) (fun b => f52 248 b (nr_X11_tapeNumber_1__248 b)) (fun b => f52 260 b (nr_X11_tapeNumber_1__260 b)) (fun b => f52 262 b (nr_X11_tapeNumber_1__262 b)) (fun b => f52 264 b (nr_X11_tapeNumber_1__264 b)) (fun b => f52 266 b (nr_X11_tapeNumber_1__266 b)) (fun b => f52 268 b (nr_X11_tapeNumber_1__268 b)) (fun b => f52 270 b (nr_X11_tapeNumber_1__270 b)) (fun b => f52 272 b (nr_X11_tapeNumber_1__272 b)) (fun b => f52 274 b (nr_X11_tapeNumber_1__274 b)) (fun b => f52 276 b (nr_X11_tapeNumber_1__276 b)) (fun b => f52 278 b (nr_X11_tapeNumber_1__278 b)) (f52 279 9 (by decide)) (fun b => f52 281 b (nr_X11_tapeNumber_1__281 b)) (fun b => f52 283 b (nr_X11_tapeNumber_1__283 b)) (fun b => f52 285 b (nr_X11_tapeNumber_1__285 b)) (fun b => f52 287 b (nr_X11_tapeNumber_1__287 b)) (fun b => f52 289 b (nr_X11_tapeNumber_1__289 b)) (fun b => f52 291 b (nr_X11_tapeNumber_1__291 b)) (fun b => f52 293 b (nr_X11_tapeNumber_1__293 b)) (fun b => f52 295 b (nr_X11_tapeNumber_1__295 b))
    have r64 := y_B0.fr o42.1.1 (f52 211 0 (by decide)) (f52 213 0 (by decide))
    refine T_if1 (by decide +kernel) ?_
    refine T_useN (sf_X11_tapeNumber_1Y hfu s50 c51 a5 (by omega) (by omega) o57 o58) (fun v70 s65 hq => ?_)
    obtain ⟨c66, f67, o71, o72, o73, rfl⟩ := hq
    refine T_vN ?_
    have f68 := z_Fr.tr (R := R_X11_feed_1) f53 f67 rs_X11_tapeNumber_1__X11_feed_1
    have u76 := CI_b c66 (k := 1) (j := 12) bd_1_12
    have r77 := y_V3.fr o57 (f67 1 16 (by decide)) (f67 1 17 (by decide)) (f67 191 16 (by decide)) (f67 6 6 (by decide)) (f67 191 17 (by decide)) (f67 191 18 (by decide)) (fun b => f67 3 b (nr_X11_tapeNumber_1__3 b)) (fun b => f67 8 b (nr_X11_tapeNumber_1__8 b)) (fun b => f67 12 b (nr_X11_tapeNumber_1__12 b)) (fun b => f67 14 b (nr_X11_tapeNumber_1__14 b)) (fun b => f67 16 b (nr_X11_tapeNumber_1__16 b)) (fun b => f67 18 b (nr_X11_tapeNumber_1__18 b)) (fun b => f67 193 b (nr_X11_tapeNumber_1__193 b)) (fun b => f67 195 b (nr_X11_tapeNumber_1__195 b)) (fun b => f67 197 b (nr_X11_tapeNumber_1__197 b)) (fun b => f67 199 b (nr_X11_tapeNumber_1__199 b)) (fun b => f67 201 b (nr_X11_tapeNumber_1__201 b)) (fun b => f67 203 b (nr_X11_tapeNumber_1__203 b)) (fun b => f67 205 b (nr_X11_tapeNumber_1__205 b)) (fun b => f67 207 b (nr_X11_tapeNumber_1__207 b)) (fun b => f67 209 b (nr_X11_tapeNumber_1__209 b)) (fun b => f67 211 b (nr_X11_tapeNumber_1__211 b)) (fun b => f67 213 b (nr_X11_tapeNumber_1__213 b)) (fun b => f67 215 b (nr_X11_tapeNumber_1__215 b)) (fun b => f67 217 b (nr_X11_tapeNumber_1__217 b)) (fun b => f67 219 b (nr_X11_tapeNumber_1__219 b)) (fun b => f67 222 b (nr_X11_tapeNumber_1__222 b)) (f67 240 6 (by decide)) (fun b => f67 248 b (nr_X11_tapeNumber_1__248 b))
    have r78 := y_Y4.fr o58 (f67 1 16 (by decide)) (f67 1 17 (by decide)) (f67 191 16 (by decide)) (f67 6 6 (by decide)) (f67 191 17 (by decide)) (f67 191 18 (by decide)) (fun b => f67 3 b (nr_X11_tapeNumber_1__3 b)) (fun b => f67 8 b (nr_X11_tapeNumber_1__8 b)) (fun b => f67 12 b (nr_X11_tapeNumber_1__12 b)) (fun b => f67 14 b (nr_X11_tapeNumber_1__14 b)) (fun b => f67 16 b (nr_X11_tapeNumber_1__16 b)) (fun b => f67 18 b (nr_X11_tapeNumber_1__18 b)) (fun b => f67 193 b (nr_X11_tapeNumber_1__193 b)) (fun b => f67 195 b (nr_X11_tapeNumber_1__195 b)) (fun b => f67 197 b (nr_X11_tapeNumber_1__197 b)) (fun b => f67 199 b (nr_X11_tapeNumber_1__199 b)) (fun b => f67 201 b (nr_X11_tapeNumber_1__201 b)) (fun b => f67 203 b (nr_X11_tapeNumber_1__203 b)) (fun b => f67 205 b (nr_X11_tapeNumber_1__205 b)) (fun b => f67 207 b (nr_X11_tapeNumber_1__207 b)) (fun b => f67 209 b (nr_X11_tapeNumber_1__209 b)) (fun b => f67 211 b (nr_X11_tapeNumber_1__211 b)) (fun b => f67 213 b (nr_X11_tapeNumber_1__213 b)) (fun b => f67 215 b (nr_X11_tapeNumber_1__215 b)) (fun b => f67 217 b (nr_X11_tapeNumber_1__217 b)) (fun b => f67 219 b (nr_X11_tapeNumber_1__219 b)) (f67 240 6 (by decide)) (fun b => f67 248 b (nr_X11_tapeNumber_1__248 b)) (fun b => f67 260 b (nr_X11_tapeNumber_1__260 b)) (fun b => f67 262 b (nr_X11_tapeNumber_1__262 b)) (fun b => f67 264 b (nr_X11_tapeNumber_1__264 b)) (fun b => f67 266 b (nr_X11_tapeNumber_1__266 b)) (fun b => f67 268 b (nr_X11_tapeNumber_1__268 b)) (fun b => f67 270 b (nr_X11_tapeNumber_1__270 b)) (fun b => f67 272 b (nr_X11_tapeNumber_1__272 b)) (fun b => f67 274 b (nr_X11_tapeNumber_1__274 b)) (fun b => f67 276 b (nr_X11_tapeNumber_1__276 b)) (fun b => f67 278 b (nr_X11_tapeNumber_1__278 b)) (f67 279 9 (by decide)) (fun b => f67 281 b (nr_X11_tapeNumber_1__281 b)) (fun b => f67 283 b (nr_X11_tapeNumber_1__283 b)) (fun b => f67 285 b (nr_X11_tapeNumber_1__285 b)) (fun b => f67 287 b (nr_X11_tapeNumber_1__287 b)) (fun b => f67 289 b (nr_X11_tapeNumber_1__289 b)) (fun b => f67 291 b (nr_X11_tapeNumber_1__291 b)) (fun b => f67 293 b (nr_X11_tapeNumber_1__293 b)) (fun b => f67 295 b (nr_X11_tapeNumber_1__295 b))
    have r79 := y_B0.fr o57.1.1 (f67 211 0 (by decide)) (f67 213 0 (by decide))
    refine T_if1 (by decide +kernel) ?_
    refine T_leq (fun x80 e81 => ?_)
    have u82 := CI_b c66 (k := 1) (j := 12) bd_1_12
    exact T_ret ⟨c66, f68, o72, o73, ⟨x80, rfl, by omega, by omega, by omega⟩⟩
  · exact T_ret ⟨c0, z_Fr.rf, p0, p1, ⟨(-1), rfl, by omega, by omega, by omega⟩⟩
abbrev P_X11_readTape_1Y (r0 : z_M) : z_V → z_M → Prop := fun v s' => z_CI s' ∧ z_Fr R_X11_readTape_1 r0 s' ∧ (y_V3 s') ∧ (s' 1 12 = 0) ∧ (y_Y4 s') ∧ (∃ x, v = vI x ∧ -2147483648 ≤ x ∧ x ≤ 2147483647)
theorem nr_X6_read_32_4__260 (b : Int) : ¬ R_X6_read_32_4 260 b := by
  unfold R_X6_read_32_4; omega
theorem nr_X6_read_32_4__262 (b : Int) : ¬ R_X6_read_32_4 262 b := by
  unfold R_X6_read_32_4; omega
theorem nr_X6_read_32_4__264 (b : Int) : ¬ R_X6_read_32_4 264 b := by
  unfold R_X6_read_32_4; omega
theorem nr_X6_read_32_4__266 (b : Int) : ¬ R_X6_read_32_4 266 b := by
  unfold R_X6_read_32_4; omega
theorem nr_X6_read_32_4__268 (b : Int) : ¬ R_X6_read_32_4 268 b := by
  unfold R_X6_read_32_4; omega
theorem nr_X6_read_32_4__270 (b : Int) : ¬ R_X6_read_32_4 270 b := by
  unfold R_X6_read_32_4; omega
theorem nr_X6_read_32_4__272 (b : Int) : ¬ R_X6_read_32_4 272 b := by
  unfold R_X6_read_32_4; omega
theorem nr_X6_read_32_4__274 (b : Int) : ¬ R_X6_read_32_4 274 b := by
  unfold R_X6_read_32_4; omega
theorem nr_X6_read_32_4__276 (b : Int) : ¬ R_X6_read_32_4 276 b := by
  unfold R_X6_read_32_4; omega
theorem nr_X6_read_32_4__278 (b : Int) : ¬ R_X6_read_32_4 278 b := by
  unfold R_X6_read_32_4; omega
theorem nr_X6_read_32_4__281 (b : Int) : ¬ R_X6_read_32_4 281 b := by
  unfold R_X6_read_32_4; omega
theorem nr_X6_read_32_4__283 (b : Int) : ¬ R_X6_read_32_4 283 b := by
  unfold R_X6_read_32_4; omega
theorem nr_X6_read_32_4__285 (b : Int) : ¬ R_X6_read_32_4 285 b := by
  unfold R_X6_read_32_4; omega
theorem nr_X6_read_32_4__287 (b : Int) : ¬ R_X6_read_32_4 287 b := by
  unfold R_X6_read_32_4; omega
theorem nr_X6_read_32_4__289 (b : Int) : ¬ R_X6_read_32_4 289 b := by
  unfold R_X6_read_32_4; omega
theorem nr_X6_read_32_4__291 (b : Int) : ¬ R_X6_read_32_4 291 b := by
  unfold R_X6_read_32_4; omega
theorem nr_X6_read_32_4__293 (b : Int) : ¬ R_X6_read_32_4 293 b := by
  unfold R_X6_read_32_4; omega
theorem nr_X6_read_32_4__295 (b : Int) : ¬ R_X6_read_32_4 295 b := by
  unfold R_X6_read_32_4; omega
theorem sj_X11_readTape_1Y_J68 {fu : Nat} (hfu : 8589934592 ≤ fu) (r0 s : z_M) (c : z_CI s) (f : z_Fr R_X11_readTape_1 r0 s) (a2 : Int) (b2 : -2147483648 ≤ a2 ∧ a2 ≤ 2147483647) (p0 : s 1 12 = 0) (p1 : y_V3 s) (p2 : y_Y4 s) : z_T (fX11_readTape_J68 fu s a2) (P_X11_readTape_1Y r0) := by
  refine T_of (fX11_readTape_J68.eq_1 ..) ?_
  have u1 := CI_b c (k := 1) (j := 12) bd_1_12
  have u2 := CI_b c (k := 32) (j := 7) bd_32_7
  exact T_ret ⟨c, f, p1, by omega, p2, ⟨a2, rfl, by omega, by omega⟩⟩
theorem nr_X2_keep_33_6__260 (b : Int) : ¬ R_X2_keep_33_6 260 b := by
  unfold R_X2_keep_33_6; omega
theorem nr_X2_keep_33_6__262 (b : Int) : ¬ R_X2_keep_33_6 262 b := by
  unfold R_X2_keep_33_6; omega
theorem nr_X2_keep_33_6__264 (b : Int) : ¬ R_X2_keep_33_6 264 b := by
  unfold R_X2_keep_33_6; omega
theorem nr_X2_keep_33_6__266 (b : Int) : ¬ R_X2_keep_33_6 266 b := by
  unfold R_X2_keep_33_6; omega
theorem nr_X2_keep_33_6__268 (b : Int) : ¬ R_X2_keep_33_6 268 b := by
  unfold R_X2_keep_33_6; omega
theorem nr_X2_keep_33_6__270 (b : Int) : ¬ R_X2_keep_33_6 270 b := by
  unfold R_X2_keep_33_6; omega
theorem nr_X2_keep_33_6__272 (b : Int) : ¬ R_X2_keep_33_6 272 b := by
  unfold R_X2_keep_33_6; omega
theorem nr_X2_keep_33_6__274 (b : Int) : ¬ R_X2_keep_33_6 274 b := by
  unfold R_X2_keep_33_6; omega
theorem nr_X2_keep_33_6__276 (b : Int) : ¬ R_X2_keep_33_6 276 b := by
  unfold R_X2_keep_33_6; omega
theorem nr_X2_keep_33_6__278 (b : Int) : ¬ R_X2_keep_33_6 278 b := by
  unfold R_X2_keep_33_6; omega
theorem nr_X2_keep_33_6__281 (b : Int) : ¬ R_X2_keep_33_6 281 b := by
  unfold R_X2_keep_33_6; omega
theorem nr_X2_keep_33_6__283 (b : Int) : ¬ R_X2_keep_33_6 283 b := by
  unfold R_X2_keep_33_6; omega
theorem nr_X2_keep_33_6__285 (b : Int) : ¬ R_X2_keep_33_6 285 b := by
  unfold R_X2_keep_33_6; omega
theorem nr_X2_keep_33_6__287 (b : Int) : ¬ R_X2_keep_33_6 287 b := by
  unfold R_X2_keep_33_6; omega
theorem nr_X2_keep_33_6__289 (b : Int) : ¬ R_X2_keep_33_6 289 b := by
  unfold R_X2_keep_33_6; omega
theorem nr_X2_keep_33_6__291 (b : Int) : ¬ R_X2_keep_33_6 291 b := by
  unfold R_X2_keep_33_6; omega
theorem nr_X2_keep_33_6__293 (b : Int) : ¬ R_X2_keep_33_6 293 b := by
  unfold R_X2_keep_33_6; omega
theorem nr_X2_keep_33_6__295 (b : Int) : ¬ R_X2_keep_33_6 295 b := by
  unfold R_X2_keep_33_6; omega
theorem nr_X9_copyFrom_6_19__260 (b : Int) : ¬ R_X9_copyFrom_6_19 260 b := by
  unfold R_X9_copyFrom_6_19; omega
theorem nr_X9_copyFrom_6_19__262 (b : Int) : ¬ R_X9_copyFrom_6_19 262 b := by
  unfold R_X9_copyFrom_6_19; omega
theorem nr_X9_copyFrom_6_19__264 (b : Int) : ¬ R_X9_copyFrom_6_19 264 b := by
  unfold R_X9_copyFrom_6_19; omega
theorem nr_X9_copyFrom_6_19__266 (b : Int) : ¬ R_X9_copyFrom_6_19 266 b := by
  unfold R_X9_copyFrom_6_19; omega
theorem nr_X9_copyFrom_6_19__268 (b : Int) : ¬ R_X9_copyFrom_6_19 268 b := by
  unfold R_X9_copyFrom_6_19; omega
theorem nr_X9_copyFrom_6_19__270 (b : Int) : ¬ R_X9_copyFrom_6_19 270 b := by
  unfold R_X9_copyFrom_6_19; omega
theorem nr_X9_copyFrom_6_19__272 (b : Int) : ¬ R_X9_copyFrom_6_19 272 b := by
  unfold R_X9_copyFrom_6_19; omega
theorem nr_X9_copyFrom_6_19__274 (b : Int) : ¬ R_X9_copyFrom_6_19 274 b := by
  unfold R_X9_copyFrom_6_19; omega
theorem nr_X9_copyFrom_6_19__276 (b : Int) : ¬ R_X9_copyFrom_6_19 276 b := by
  unfold R_X9_copyFrom_6_19; omega
theorem nr_X9_copyFrom_6_19__278 (b : Int) : ¬ R_X9_copyFrom_6_19 278 b := by
  unfold R_X9_copyFrom_6_19; omega
theorem nr_X9_copyFrom_6_19__281 (b : Int) : ¬ R_X9_copyFrom_6_19 281 b := by
  unfold R_X9_copyFrom_6_19; omega
theorem nr_X9_copyFrom_6_19__283 (b : Int) : ¬ R_X9_copyFrom_6_19 283 b := by
  unfold R_X9_copyFrom_6_19; omega
theorem nr_X9_copyFrom_6_19__285 (b : Int) : ¬ R_X9_copyFrom_6_19 285 b := by
  unfold R_X9_copyFrom_6_19; omega
theorem nr_X9_copyFrom_6_19__287 (b : Int) : ¬ R_X9_copyFrom_6_19 287 b := by
  unfold R_X9_copyFrom_6_19; omega
theorem nr_X9_copyFrom_6_19__289 (b : Int) : ¬ R_X9_copyFrom_6_19 289 b := by
  unfold R_X9_copyFrom_6_19; omega
theorem nr_X9_copyFrom_6_19__291 (b : Int) : ¬ R_X9_copyFrom_6_19 291 b := by
  unfold R_X9_copyFrom_6_19; omega
theorem nr_X9_copyFrom_6_19__293 (b : Int) : ¬ R_X9_copyFrom_6_19 293 b := by
  unfold R_X9_copyFrom_6_19; omega
theorem nr_X9_copyFrom_6_19__295 (b : Int) : ¬ R_X9_copyFrom_6_19 295 b := by
  unfold R_X9_copyFrom_6_19; omega
set_option maxHeartbeats 4000000 in
theorem sj_X11_readTape_1Y_J29 {fu : Nat} (hfu : 8589934592 ≤ fu) (r0 s : z_M) (c : z_CI s) (f : z_Fr R_X11_readTape_1 r0 s) (a2 : Int) (t1 : Int) (b2 : -2147483648 ≤ a2 ∧ a2 ≤ 2147483647) (d1 : -2147483648 ≤ t1 ∧ t1 ≤ 2147483647) (p0 : y_V3 s) (p1 : y_Y4 s) : z_T (fX11_readTape_J29 fu s 1 a2 1 t1) (P_X11_readTape_1Y r0) := by
  refine T_of (fX11_readTape_J29.eq_1 ..) ?_
  have u1 := CI_b c (k := 1) (j := 12) bd_1_12
  have u2 := CI_b c (k := 32) (j := 7) bd_32_7
  refine T_if1 (by decide +kernel) ?_
  refine T_upg c bd_1_13 (by omega) (fun s3 c4 g6 g7 e8 => ?_)
  have f5 := z_Fr.upf (R := R_X11_readTape_1) f g6 g7 (Or.inr (Or.inr (Or.inl (⟨rfl, by decide⟩))))
  have t9 : s3 1 12 = s 1 12 := g7 12 (by decide)
  have t10 : s3 32 7 = s 32 7 := g6 32 7 (by decide)
  have r11 := y_V3.fr p0 (g7 16 (by decide)) (g7 17 (by decide)) (g6 191 16 (by decide)) (g6 6 6 (by decide)) (g6 191 17 (by decide)) (g6 191 18 (by decide)) (fun b => g6 3 b (by decide)) (fun b => g6 8 b (by decide)) (fun b => g6 12 b (by decide)) (fun b => g6 14 b (by decide)) (fun b => g6 16 b (by decide)) (fun b => g6 18 b (by decide)) (fun b => g6 193 b (by decide)) (fun b => g6 195 b (by decide)) (fun b => g6 197 b (by decide)) (fun b => g6 199 b (by decide)) (fun b => g6 201 b (by decide)) (fun b => g6 203 b (by decide)) (fun b => g6 205 b (by decide)) (fun b => g6 207 b (by decide)) (fun b => g6 209 b (by decide)) (fun b => g6 211 b (by decide)) (fun b => g6 213 b (by decide)) (fun b => g6 215 b (by decide)) (fun b => g6 217 b (by decide)) (fun b => g6 219 b (by decide)) (fun b => g6 222 b (by decide)) (g6 240 6 (by decide)) (fun b => g6 248 b (by decide))
  have r12 := y_Y4.fr p1 (g7 16 (by decide)) (g7 17 (by decide)) (g6 191 16 (by decide)) (g6 6 6 (by decide)) (g6 191 17 (by decide)) (g6 191 18 (by decide)) (fun b => g6 3 b (by decide)) (fun b => g6 8 b (by decide)) (fun b => g6 12 b (by decide)) (fun b => g6 14 b (by decide)) (fun b => g6 16 b (by decide)) (fun b => g6 18 b (by decide)) (fun b => g6 193 b (by decide)) (fun b => g6 195 b (by decide)) (fun b => g6 197 b (by decide)) (fun b => g6 199 b (by decide)) (fun b => g6 201 b (by decide)) (fun b => g6 203 b (by decide)) (fun b => g6 205 b (by decide)) (fun b => g6 207 b (by decide)) (fun b => g6 209 b (by decide)) (fun b => g6 211 b (by decide)) (fun b => g6 213 b (by decide)) (fun b => g6 215 b (by decide)) (fun b => g6 217 b (by decide)) (fun b => g6 219 b (by decide)) (g6 240 6 (by decide)) (fun b => g6 248 b (by decide)) (fun b => g6 260 b (by decide)) (fun b => g6 262 b (by decide)) (fun b => g6 264 b (by decide)) (fun b => g6 266 b (by decide)) (fun b => g6 268 b (by decide)) (fun b => g6 270 b (by decide)) (fun b => g6 272 b (by decide)) (fun b => g6 274 b (by decide)) (fun b => g6 276 b (by decide)) (fun b => g6 278 b (by decide)) (g6 279 9 (by decide)) (fun b => g6 281 b (by decide)) (fun b => g6 283 b (by decide)) (fun b => g6 285 b (by decide)) (fun b => g6 287 b (by decide)) (fun b => g6 289 b (by decide)) (fun b => g6 291 b (by decide)) (fun b => g6 293 b (by decide)) (fun b => g6 295 b (by decide))
  have r13 := y_B0.fr p0.1.1 (g6 211 0 (by decide)) (g6 213 0 (by decide))
  refine T_if1 (by decide +kernel) ?_
  refine T_upg c4 bd_1_12 (by omega) (fun s14 c15 g17 g18 e19 => ?_)
  have f16 := z_Fr.upf (R := R_X11_readTape_1) f5 g17 g18 (Or.inr (Or.inr (Or.inl (⟨rfl, by decide⟩))))
  have t20 : s14 32 7 = s3 32 7 := g17 32 7 (by decide)
  have r21 := y_V3.fr r11 (g18 16 (by decide)) (g18 17 (by decide)) (g17 191 16 (by decide)) (g17 6 6 (by decide)) (g17 191 17 (by decide)) (g17 191 18 (by decide)) (fun b => g17 3 b (by decide)) (fun b => g17 8 b (by decide)) (fun b => g17 12 b (by decide)) (fun b => g17 14 b (by decide)) (fun b => g17 16 b (by decide)) (fun b => g17 18 b (by decide)) (fun b => g17 193 b (by decide)) (fun b => g17 195 b (by decide)) (fun b => g17 197 b (by decide)) (fun b => g17 199 b (by decide)) (fun b => g17 201 b (by decide)) (fun b => g17 203 b (by decide)) (fun b => g17 205 b (by decide)) (fun b => g17 207 b (by decide)) (fun b => g17 209 b (by decide)) (fun b => g17 211 b (by decide)) (fun b => g17 213 b (by decide)) (fun b => g17 215 b (by decide)) (fun b => g17 217 b (by decide)) (fun b => g17 219 b (by decide)) (fun b => g17 222 b (by decide)) (g17 240 6 (by decide)) (fun b => g17 248 b (by decide))
  have r22 := y_Y4.fr r12 (g18 16 (by decide)) (g18 17 (by decide)) (g17 191 16 (by decide)) (g17 6 6 (by decide)) (g17 191 17 (by decide)) (g17 191 18 (by decide)) (fun b => g17 3 b (by decide)) (fun b => g17 8 b (by decide)) (fun b => g17 12 b (by decide)) (fun b => g17 14 b (by decide)) (fun b => g17 16 b (by decide)) (fun b => g17 18 b (by decide)) (fun b => g17 193 b (by decide)) (fun b => g17 195 b (by decide)) (fun b => g17 197 b (by decide)) (fun b => g17 199 b (by decide)) (fun b => g17 201 b (by decide)) (fun b => g17 203 b (by decide)) (fun b => g17 205 b (by decide)) (fun b => g17 207 b (by decide)) (fun b => g17 209 b (by decide)) (fun b => g17 211 b (by decide)) (fun b => g17 213 b (by decide)) (fun b => g17 215 b (by decide)) (fun b => g17 217 b (by decide)) (fun b => g17 219 b (by decide)) (g17 240 6 (by decide)) (fun b => g17 248 b (by decide)) (fun b => g17 260 b (by decide)) (fun b => g17 262 b (by decide)) (fun b => g17 264 b (by decide)) (fun b => g17 266 b (by decide)) (fun b => g17 268 b (by decide)) (fun b => g17 270 b (by decide)) (fun b => g17 272 b (by decide)) (fun b => g17 274 b (by decide)) (fun b => g17 276 b (by decide)) (fun b => g17 278 b (by decide)) (g17 279 9 (by decide)) (fun b => g17 281 b (by decide)) (fun b => g17 283 b (by decide)) (fun b => g17 285 b (by decide)) (fun b => g17 287 b (by decide)) (fun b => g17 289 b (by decide)) (fun b => g17 291 b (by decide)) (fun b => g17 293 b (by decide)) (fun b => g17 295 b (by decide))
  have r23 := y_B0.fr r13 (g17 211 0 (by decide)) (g17 213 0 (by decide))
  refine T_ite (fun h24 => ?_) (fun h24 => ?_)
  · exact sj_X11_readTape_1Y_J68 hfu r0 s14 c15 f16 a2 (by omega) (by omega) r21 r22
  · refine T_if1 (by decide +kernel) ?_
    refine T_let 33 (by decide +kernel) ?_
    refine T_if1 (by decide +kernel) ?_
    refine T_let 6 (by decide +kernel) ?_
    refine T_if1 (by decide +kernel) ?_
    refine T_useN (sf_X2_keep_33_6 hfu s14 c15) (fun v30 s25 hq => ?_)
    obtain ⟨c26, f27, rfl⟩ := hq
    refine T_vN ?_
    have f28 := z_Fr.tr (R := R_X11_readTape_1) f16 f27 rs_X2_keep_33_6__X11_readTape_1
    have t33 : s25 1 12 = s14 1 12 := f27 1 12 (by decide)
    have t34 : s25 32 7 = s14 32 7 := f27 32 7 (by decide)
    have r35 := y_V3.fr r21 (f27 1 16 (by decide)) (f27 1 17 (by decide)) (f27 191 16 (by decide)) (f27 6 6 (by decide)) (f27 191 17 (by decide)) (f27 191 18 (by decide)) (fun b => f27 3 b (nr_X2_keep_33_6__3 b)) (fun b => f27 8 b (nr_X2_keep_33_6__8 b)) (fun b => f27 12 b (nr_X2_keep_33_6__12 b)) (fun b => f27 14 b (nr_X2_keep_33_6__14 b)) (fun b => f27 16 b (nr_X2_keep_33_6__16 b)) (fun b => f27 18 b (nr_X2_keep_33_6__18 b)) (fun b => f27 193 b (nr_X2_keep_33_6__193 b)) (fun b => f27 195 b (nr_X2_keep_33_6__195 b)) (fun b => f27 197 b (nr_X2_keep_33_6__197 b)) (fun b => f27 199 b (nr_X2_keep_33_6__199 b)) (fun b => f27 201 b (nr_X2_keep_33_6__201 b)) (fun b => f27 203 b (nr_X2_keep_33_6__203 b)) (fun b => f27 205 b (nr_X2_keep_33_6__205 b)) (fun b => f27 207 b (nr_X2_keep_33_6__207 b)) (fun b => f27 209 b (nr_X2_keep_33_6__209 b)) (fun b => f27 211 b (nr_X2_keep_33_6__211 b)) (fun b => f27 213 b (nr_X2_keep_33_6__213 b)) (fun b => f27 215 b (nr_X2_keep_33_6__215 b)) (fun b => f27 217 b (nr_X2_keep_33_6__217 b)) (fun b => f27 219 b (nr_X2_keep_33_6__219 b)) (fun b => f27 222 b (nr_X2_keep_33_6__222 b)) (f27 240 6 (by decide)) (fun b => f27 248 b (nr_X2_keep_33_6__248 b))
    have r36 := y_Y4.fr r22 (f27 1 16 (by decide)) (f27 1 17 (by decide)) (f27 191 16 (by decide)) (f27 6 6 (by decide)) (f27 191 17 (by decide)) (f27 191 18 (by decide)) (fun b => f27 3 b (nr_X2_keep_33_6__3 b)) (fun b => f27 8 b (nr_X2_keep_33_6__8 b)) (fun b => f27 12 b (nr_X2_keep_33_6__12 b)) (fun b => f27 14 b (nr_X2_keep_33_6__14 b)) (fun b => f27 16 b (nr_X2_keep_33_6__16 b)) (fun b => f27 18 b (nr_X2_keep_33_6__18 b)) (fun b => f27 193 b (nr_X2_keep_33_6__193 b)) (fun b => f27 195 b (nr_X2_keep_33_6__195 b)) (fun b => f27 197 b (nr_X2_keep_33_6__197 b)) (fun b => f27 199 b (nr_X2_keep_33_6__199 b)) (fun b => f27 201 b (nr_X2_keep_33_6__201 b)) (fun b => f27 203 b (nr_X2_keep_33_6__203 b)) (fun b => f27 205 b (nr_X2_keep_33_6__205 b)) (fun b => f27 207 b (nr_X2_keep_33_6__207 b)) (fun b => f27 209 b (nr_X2_keep_33_6__209 b)) (fun b => f27 211 b (nr_X2_keep_33_6__211 b)) (fun b => f27 213 b (nr_X2_keep_33_6__213 b)) (fun b => f27 215 b (nr_X2_keep_33_6__215 b)) (fun b => f27 217 b (nr_X2_keep_33_6__217 b)) (fun b => f27 219 b (nr_X2_keep_33_6__219 b)) (f27 240 6 (by decide)) (fun b => f27 248 b (nr_X2_keep_33_6__248 b)) (fun b => f27 260 b (nr_X2_keep_33_6__260 b)) (fun b => f27 262 b (nr_X2_keep_33_6__262 b)) (fun b => f27 264 b (nr_X2_keep_33_6__264 b)) (fun b => f27 266 b (nr_X2_keep_33_6__266 b)) (fun b => f27 268 b (nr_X2_keep_33_6__268 b)) (fun b => f27 270 b (nr_X2_keep_33_6__270 b)) (fun b => f27 272 b (nr_X2_keep_33_6__272 b)) (fun b => f27 274 b (nr_X2_keep_33_6__274 b)) (fun b => f27 276 b (nr_X2_keep_33_6__276 b)) (fun b => f27 278 b (nr_X2_keep_33_6__278 b)) (f27 279 9 (by decide)) (fun b => f27 281 b (nr_X2_keep_33_6__281 b)) (fun b => f27 283 b (nr_X2_keep_33_6__283 b)) (fun b => f27 285 b (nr_X2_keep_33_6__285 b)) (fun b => f27 287 b (nr_X2_keep_33_6__287 b)) (fun b => f27 289 b (nr_X2_keep_33_6__289 b)) (fun b => f27 291 b (nr_X2_keep_33_6__291 b)) (fun b => f27 293 b (nr_X2_keep_33_6__293 b)) (fun b => f27 295 b (nr_X2_keep_33_6__295 b))
    have r37 := y_B0.fr r23 (f27 211 0 (by decide)) (f27 213 0 (by decide))
    refine T_if1 (by decide +kernel) ?_
    refine T_let 6 (by decide +kernel) ?_
    refine T_if1 (by decide +kernel) ?_
    refine T_let 19 (by decide +kernel) ?_
    refine T_if1 (by decide +kernel) ?_
    refine T_useN (sf_X9_copyFrom_6_19 hfu s25 c26) (fun v43 s38 hq => ?_)
    obtain ⟨c39, f40, rfl⟩ := hq
    refine T_vN ?_
    have f41 := z_Fr.tr (R := R_X11_readTape_1) f28 f40 rs_X9_copyFrom_6_19__X11_readTape_1
    have t46 : s38 1 12 = s25 1 12 := f40 1 12 (by decide)
    have t47 : s38 32 7 = s25 32 7 := f40 32 7 (by decide)
    have r48 := y_B0.fr r37 (f40 211 0 (by decide)) (f40 213 0 (by decide))
    refine T_if1 ⟨(by decide +kernel), by unfold z_bl; omega⟩ ?_
    refine T_upg c39 bd_1_16 (by omega) (fun s49 c50 g52 g53 e54 => ?_)
    have f51 := z_Fr.upf (R := R_X11_readTape_1) f41 g52 g53 (Or.inr (Or.inr (Or.inl (⟨rfl, by decide⟩))))
    have t55 : s49 1 12 = s38 1 12 := g53 12 (by decide)
    have t56 : s49 32 7 = s38 32 7 := g52 32 7 (by decide)
    have r57 := y_B0.fr r48 (g52 211 0 (by decide)) (g52 213 0 (by decide))
    exact sj_X11_readTape_1Y_J68 hfu r0 s49 c50 f51 a2 (by omega) (by omega) (y_V3.z r57 (by omega)) (by first | exact y_Y4.z (by omega) | exact y_Y4.z7 (by omega))
theorem sf_X11_readTape_1Y {fu : Nat} (hfu : 8589934592 ≤ fu) (r0 : z_M) (c0 : z_CI r0) (a1 : Int) (b1 : -2147483648 ≤ a1 ∧ a1 ≤ 2147483647) (p0 : y_V3 r0) (p1 : y_Y4 r0) : z_T (fX11_readTape fu r0 1 a1) (P_X11_readTape_1Y r0) := by
  refine T_of (fX11_readTape.eq_1 ..) ?_
  refine T_if1 (by decide +kernel) ?_
  refine T_let 32 (by decide +kernel) ?_
  refine T_if1 (by decide +kernel) ?_
  refine T_let 4 (by decide +kernel) ?_
  refine T_if1 (by decide +kernel) ?_
  refine T_useI (sf_X6_read_32_4 hfu r0 c0 a1 (by omega)) (fun v6 s1 hq => ?_)
  obtain ⟨c2, f3, ⟨x5, rfl, b7, b8⟩⟩ := hq
  refine T_vI ?_
  have f4 := z_Fr.tr (R := R_X11_readTape_1) z_Fr.rf f3 rs_X6_read_32_4__X11_readTape_1
  have t9 : s1 1 12 = r0 1 12 := f3 1 12 (by decide)
  have u10 := CI_b c2 (k := 32) (j := 7) bd_32_7
  have r11 := y_V3.fr p0 (f3 1 16 (by decide)) (f3 1 17 (by decide)) (f3 191 16 (by decide)) (f3 6 6 (by decide)) (f3 191 17 (by decide)) (f3 191 18 (by decide)) (fun b => f3 3 b (nr_X6_read_32_4__3 b)) (fun b => f3 8 b (nr_X6_read_32_4__8 b)) (fun b => f3 12 b (nr_X6_read_32_4__12 b)) (fun b => f3 14 b (nr_X6_read_32_4__14 b)) (fun b => f3 16 b (nr_X6_read_32_4__16 b)) (fun b => f3 18 b (nr_X6_read_32_4__18 b)) (fun b => f3 193 b (nr_X6_read_32_4__193 b)) (fun b => f3 195 b (nr_X6_read_32_4__195 b)) (fun b => f3 197 b (nr_X6_read_32_4__197 b)) (fun b => f3 199 b (nr_X6_read_32_4__199 b)) (fun b => f3 201 b (nr_X6_read_32_4__201 b)) (fun b => f3 203 b (nr_X6_read_32_4__203 b)) (fun b => f3 205 b (nr_X6_read_32_4__205 b)) (fun b => f3 207 b (nr_X6_read_32_4__207 b)) (fun b => f3 209 b (nr_X6_read_32_4__209 b)) (fun b => f3 211 b (nr_X6_read_32_4__211 b)) (fun b => f3 213 b (nr_X6_read_32_4__213 b)) (fun b => f3 215 b (nr_X6_read_32_4__215 b)) (fun b => f3 217 b (nr_X6_read_32_4__217 b)) (fun b => f3 219 b (nr_X6_read_32_4__219 b)) (fun b => f3 222 b (nr_X6_read_32_4__222 b)) (f3 240 6 (by decide)) (fun b => f3 248 b (nr_X6_read_32_4__248 b))
  have r12 := y_Y4.fr p1 (f3 1 16 (by decide)) (f3 1 17 (by decide)) (f3 191 16 (by decide)) (f3 6 6 (by decide)) (f3 191 17 (by decide)) (f3 191 18 (by decide)) (fun b => f3 3 b (nr_X6_read_32_4__3 b)) (fun b => f3 8 b (nr_X6_read_32_4__8 b)) (fun b => f3 12 b (nr_X6_read_32_4__12 b)) (fun b => f3 14 b (nr_X6_read_32_4__14 b)) (fun b => f3 16 b (nr_X6_read_32_4__16 b)) (fun b => f3 18 b (nr_X6_read_32_4__18 b)) (fun b => f3 193 b (nr_X6_read_32_4__193 b)) (fun b => f3 195 b (nr_X6_read_32_4__195 b)) (fun b => f3 197 b (nr_X6_read_32_4__197 b)) (fun b => f3 199 b (nr_X6_read_32_4__199 b)) (fun b => f3 201 b (nr_X6_read_32_4__201 b)) (fun b => f3 203 b (nr_X6_read_32_4__203 b)) (fun b => f3 205 b (nr_X6_read_32_4__205 b)) (fun b => f3 207 b (nr_X6_read_32_4__207 b)) (fun b => f3 209 b (nr_X6_read_32_4__209 b)) (fun b => f3 211 b (nr_X6_read_32_4__211 b)) (fun b => f3 213 b (nr_X6_read_32_4__213 b)) (fun b => f3 215 b (nr_X6_read_32_4__215 b)) (fun b => f3 217 b (nr_X6_read_32_4__217 b)) (fun b => f3 219 b (nr_X6_read_32_4__219 b)) (f3 240 6 (by decide)) (fun b => f3 248 b (nr_X6_read_32_4__248 b)) (fun b => f3 260 b (nr_X6_read_32_4__260 b)) (fun b => f3 262 b (nr_X6_read_32_4__262 b)) (fun b => f3 264 b (nr_X6_read_32_4__264 b)) (fun b => f3 266 b (nr_X6_read_32_4__266 b)) (fun b => f3 268 b (nr_X6_read_32_4__268 b)) (fun b => f3 270 b (nr_X6_read_32_4__270 b)) (fun b => f3 272 b (nr_X6_read_32_4__272 b)) (fun b => f3 274 b (nr_X6_read_32_4__274 b)) (fun b => f3 276 b (nr_X6_read_32_4__276 b)) (fun b => f3 278 b (nr_X6_read_32_4__278 b)) (f3 279 9 (by decide)) (fun b => f3 281 b (nr_X6_read_32_4__281 b)) (fun b => f3 283 b (nr_X6_read_32_4__283 b)) (fun b => f3 285 b (nr_X6_read_32_4__285 b)) (fun b => f3 287 b (nr_X6_read_32_4__287 b)) (fun b => f3 289 b (nr_X6_read_32_4__289 b)) (fun b => f3 291 b (nr_X6_read_32_4__291 b)) (fun b => f3 293 b (nr_X6_read_32_4__293 b)) (fun b => f3 295 b (nr_X6_read_32_4__295 b))
  have r13 := y_B0.fr p0.1.1 (f3 211 0 (by decide)) (f3 213 0 (by decide))
  refine T_ite (fun h14 => ?_) (fun h14 => ?_)
  · refine T_if1 (by decide +kernel) ?_
    refine T_let 32 (by decide +kernel) ?_
    refine T_if1 (by decide +kernel) ?_
    refine T_leq (fun x15 e16 => ?_)
    have u17 := CI_b c2 (k := 32) (j := 7) bd_32_7
    exact sj_X11_readTape_1Y_J29 hfu r0 s1 c2 f4 x5 x15 (by omega) (by omega) r11 r12
  · exact sj_X11_readTape_1Y_J29 hfu r0 s1 c2 f4 x5 (-1) (by omega) (by omega) r11 r12
abbrev P_X11_text_1Y (r0 : z_M) (a1 : Int) : z_V → z_M → Prop := fun v s' => z_CI s' ∧ z_Fr R_X11_text_1 r0 s' ∧ (y_V3 s') ∧ ((0 ≤ a1 ∧ a1 ≤ r0 1 12 ∧ s' 1 12 = 0) ∨ ((a1 < 0 ∨ r0 1 12 < a1) ∧ s' 1 12 = r0 1 12)) ∧ (y_Y4 s') ∧ ((∃ x, v = vI x ∧ -2147483648 ≤ x ∧ x ≤ 2147483647) ∨ v = vX 1)
theorem nr_X9_clear_19__260 (b : Int) : ¬ R_X9_clear_19 260 b := by
  unfold R_X9_clear_19; omega
theorem nr_X9_clear_19__262 (b : Int) : ¬ R_X9_clear_19 262 b := by
  unfold R_X9_clear_19; omega
theorem nr_X9_clear_19__264 (b : Int) : ¬ R_X9_clear_19 264 b := by
  unfold R_X9_clear_19; omega
theorem nr_X9_clear_19__266 (b : Int) : ¬ R_X9_clear_19 266 b := by
  unfold R_X9_clear_19; omega
theorem nr_X9_clear_19__268 (b : Int) : ¬ R_X9_clear_19 268 b := by
  unfold R_X9_clear_19; omega
theorem nr_X9_clear_19__270 (b : Int) : ¬ R_X9_clear_19 270 b := by
  unfold R_X9_clear_19; omega
theorem nr_X9_clear_19__272 (b : Int) : ¬ R_X9_clear_19 272 b := by
  unfold R_X9_clear_19; omega
theorem nr_X9_clear_19__274 (b : Int) : ¬ R_X9_clear_19 274 b := by
  unfold R_X9_clear_19; omega
theorem nr_X9_clear_19__276 (b : Int) : ¬ R_X9_clear_19 276 b := by
  unfold R_X9_clear_19; omega
theorem nr_X9_clear_19__278 (b : Int) : ¬ R_X9_clear_19 278 b := by
  unfold R_X9_clear_19; omega
theorem nr_X9_clear_19__281 (b : Int) : ¬ R_X9_clear_19 281 b := by
  unfold R_X9_clear_19; omega
theorem nr_X9_clear_19__283 (b : Int) : ¬ R_X9_clear_19 283 b := by
  unfold R_X9_clear_19; omega
theorem nr_X9_clear_19__285 (b : Int) : ¬ R_X9_clear_19 285 b := by
  unfold R_X9_clear_19; omega
theorem nr_X9_clear_19__287 (b : Int) : ¬ R_X9_clear_19 287 b := by
  unfold R_X9_clear_19; omega
theorem nr_X9_clear_19__289 (b : Int) : ¬ R_X9_clear_19 289 b := by
  unfold R_X9_clear_19; omega
theorem nr_X9_clear_19__291 (b : Int) : ¬ R_X9_clear_19 291 b := by
  unfold R_X9_clear_19; omega
theorem nr_X9_clear_19__293 (b : Int) : ¬ R_X9_clear_19 293 b := by
  unfold R_X9_clear_19; omega
theorem nr_X9_clear_19__295 (b : Int) : ¬ R_X9_clear_19 295 b := by
  unfold R_X9_clear_19; omega
theorem nr_X11_readTape_1__260 (b : Int) : ¬ R_X11_readTape_1 260 b := by
  unfold R_X11_readTape_1; omega
theorem nr_X11_readTape_1__262 (b : Int) : ¬ R_X11_readTape_1 262 b := by
  unfold R_X11_readTape_1; omega
theorem nr_X11_readTape_1__264 (b : Int) : ¬ R_X11_readTape_1 264 b := by
  unfold R_X11_readTape_1; omega
theorem nr_X11_readTape_1__266 (b : Int) : ¬ R_X11_readTape_1 266 b := by
  unfold R_X11_readTape_1; omega
theorem nr_X11_readTape_1__268 (b : Int) : ¬ R_X11_readTape_1 268 b := by
  unfold R_X11_readTape_1; omega
theorem nr_X11_readTape_1__270 (b : Int) : ¬ R_X11_readTape_1 270 b := by
  unfold R_X11_readTape_1; omega
theorem nr_X11_readTape_1__272 (b : Int) : ¬ R_X11_readTape_1 272 b := by
  unfold R_X11_readTape_1; omega
theorem nr_X11_readTape_1__274 (b : Int) : ¬ R_X11_readTape_1 274 b := by
  unfold R_X11_readTape_1; omega
theorem nr_X11_readTape_1__276 (b : Int) : ¬ R_X11_readTape_1 276 b := by
  unfold R_X11_readTape_1; omega
theorem nr_X11_readTape_1__278 (b : Int) : ¬ R_X11_readTape_1 278 b := by
  unfold R_X11_readTape_1; omega
theorem nr_X11_readTape_1__281 (b : Int) : ¬ R_X11_readTape_1 281 b := by
  unfold R_X11_readTape_1; omega
theorem nr_X11_readTape_1__283 (b : Int) : ¬ R_X11_readTape_1 283 b := by
  unfold R_X11_readTape_1; omega
theorem nr_X11_readTape_1__285 (b : Int) : ¬ R_X11_readTape_1 285 b := by
  unfold R_X11_readTape_1; omega
theorem nr_X11_readTape_1__287 (b : Int) : ¬ R_X11_readTape_1 287 b := by
  unfold R_X11_readTape_1; omega
theorem nr_X11_readTape_1__289 (b : Int) : ¬ R_X11_readTape_1 289 b := by
  unfold R_X11_readTape_1; omega
theorem nr_X11_readTape_1__291 (b : Int) : ¬ R_X11_readTape_1 291 b := by
  unfold R_X11_readTape_1; omega
theorem nr_X11_readTape_1__293 (b : Int) : ¬ R_X11_readTape_1 293 b := by
  unfold R_X11_readTape_1; omega
theorem nr_X11_readTape_1__295 (b : Int) : ¬ R_X11_readTape_1 295 b := by
  unfold R_X11_readTape_1; omega
theorem sj_X11_text_1Y_J45 {fu : Nat} (hfu : 8589934592 ≤ fu) (r0 s : z_M) (c : z_CI s) (f : z_Fr R_X11_text_1 r0 s) (t0 : Int) (a1 : Int) (d0 : -2147483648 ≤ t0 ∧ t0 ≤ 2147483647) (p0 : y_V3 s) (p1 : 0 ≤ a1 ∧ a1 ≤ r0 1 12 ∧ s 1 12 = 0) (p2 : y_Y4 s) : z_T (fX11_text_J45 fu s t0) (P_X11_text_1Y r0 a1) := by
  refine T_of (fX11_text_J45.eq_1 ..) ?_
  have u1 := CI_b c (k := 1) (j := 12) bd_1_12
  have u2 := CI_b c (k := 191) (j := 16) bd_191_16
  exact T_ret ⟨c, f, p0, by omega, p2, Or.inl (⟨t0, rfl, by omega, by omega⟩)⟩
theorem sf_X11_text_1Y {fu : Nat} (hfu : 8589934592 ≤ fu) (r0 : z_M) (c0 : z_CI r0) (a1 : Int) (b1 : -2147483648 ≤ a1 ∧ a1 ≤ 2147483647) (p0 : y_V3 r0) (p1 : y_Y4 r0) : z_T (fX11_text fu r0 1 a1) (P_X11_text_1Y r0 a1) := by
  refine T_of (fX11_text.eq_1 ..) ?_
  refine T_if1 (by decide +kernel) ?_
  refine T_leq (fun x1 e2 => ?_)
  have u3 := CI_b c0 (k := 1) (j := 12) bd_1_12
  refine T_if1 (by decide +kernel) ?_
  refine T_nwn (fun hn => ?_) (fun h4 h5 => ?_)
  · exact T_ret ⟨CI_up c0 bd_1_15 (z_wb rfl).1, z_Fr.upf (R := R_X11_text_1) z_Fr.rf (fun a b h => z_up_k h) (fun b h => z_up_j h) (Or.inr (Or.inr (Or.inr (Or.inr (Or.inr (Or.inr (Or.inr (Or.inr (Or.inr (Or.inl (⟨rfl, by decide⟩))))))))))), y_V3.fr p0 (z_up_j (by decide)) (z_up_j (by decide)) (z_up_k (by decide)) (z_up_k (by decide)) (z_up_k (by decide)) (z_up_k (by decide)) (fun _ => z_up_k (by decide)) (fun _ => z_up_k (by decide)) (fun _ => z_up_k (by decide)) (fun _ => z_up_k (by decide)) (fun _ => z_up_k (by decide)) (fun _ => z_up_k (by decide)) (fun _ => z_up_k (by decide)) (fun _ => z_up_k (by decide)) (fun _ => z_up_k (by decide)) (fun _ => z_up_k (by decide)) (fun _ => z_up_k (by decide)) (fun _ => z_up_k (by decide)) (fun _ => z_up_k (by decide)) (fun _ => z_up_k (by decide)) (fun _ => z_up_k (by decide)) (fun _ => z_up_k (by decide)) (fun _ => z_up_k (by decide)) (fun _ => z_up_k (by decide)) (fun _ => z_up_k (by decide)) (fun _ => z_up_k (by decide)) (fun _ => z_up_k (by decide)) (z_up_k (by decide)) (fun _ => z_up_k (by decide)), by rw [show z_up r0 1 15 _ 1 12 = r0 1 12 from z_up_j (by decide)]; omega, y_Y4.fr p1 (z_up_j (by decide)) (z_up_j (by decide)) (z_up_k (by decide)) (z_up_k (by decide)) (z_up_k (by decide)) (z_up_k (by decide)) (fun _ => z_up_k (by decide)) (fun _ => z_up_k (by decide)) (fun _ => z_up_k (by decide)) (fun _ => z_up_k (by decide)) (fun _ => z_up_k (by decide)) (fun _ => z_up_k (by decide)) (fun _ => z_up_k (by decide)) (fun _ => z_up_k (by decide)) (fun _ => z_up_k (by decide)) (fun _ => z_up_k (by decide)) (fun _ => z_up_k (by decide)) (fun _ => z_up_k (by decide)) (fun _ => z_up_k (by decide)) (fun _ => z_up_k (by decide)) (fun _ => z_up_k (by decide)) (fun _ => z_up_k (by decide)) (fun _ => z_up_k (by decide)) (fun _ => z_up_k (by decide)) (fun _ => z_up_k (by decide)) (fun _ => z_up_k (by decide)) (z_up_k (by decide)) (fun _ => z_up_k (by decide)) (fun _ => z_up_k (by decide)) (fun _ => z_up_k (by decide)) (fun _ => z_up_k (by decide)) (fun _ => z_up_k (by decide)) (fun _ => z_up_k (by decide)) (fun _ => z_up_k (by decide)) (fun _ => z_up_k (by decide)) (fun _ => z_up_k (by decide)) (fun _ => z_up_k (by decide)) (fun _ => z_up_k (by decide)) (z_up_k (by decide)) (fun _ => z_up_k (by decide)) (fun _ => z_up_k (by decide)) (fun _ => z_up_k (by decide)) (fun _ => z_up_k (by decide)) (fun _ => z_up_k (by decide)) (fun _ => z_up_k (by decide)) (fun _ => z_up_k (by decide)) (fun _ => z_up_k (by decide)), Or.inr rfl⟩
  refine T_if1 (by decide +kernel) ?_
  refine T_let 19 (by decide +kernel) ?_
  refine T_if1 (by decide +kernel) ?_
  refine T_useN (sf_X9_clear_19 hfu r0 c0) (fun v11 s6 hq => ?_)
  obtain ⟨c7, f8, rfl⟩ := hq
  refine T_vN ?_
  have f9 := z_Fr.tr (R := R_X11_text_1) z_Fr.rf f8 rs_X9_clear_19__X11_text_1
  have t14 : s6 1 12 = r0 1 12 := f8 1 12 (by decide)
  have t15 : s6 191 16 = r0 191 16 := f8 191 16 (by decide)
  have r16 := y_V3.fr p0 (f8 1 16 (by decide)) (f8 1 17 (by decide)) (f8 191 16 (by decide)) (f8 6 6 (by decide)) (f8 191 17 (by decide)) (f8 191 18 (by decide)) (fun b => f8 3 b (nr_X9_clear_19__3 b)) (fun b => f8 8 b (nr_X9_clear_19__8 b)) (fun b => f8 12 b (nr_X9_clear_19__12 b)) (fun b => f8 14 b (nr_X9_clear_19__14 b)) (fun b => f8 16 b (nr_X9_clear_19__16 b)) (fun b => f8 18 b (nr_X9_clear_19__18 b)) (fun b => f8 193 b (nr_X9_clear_19__193 b)) (fun b => f8 195 b (nr_X9_clear_19__195 b)) (fun b => f8 197 b (nr_X9_clear_19__197 b)) (fun b => f8 199 b (nr_X9_clear_19__199 b)) (fun b => f8 201 b (nr_X9_clear_19__201 b)) (fun b => f8 203 b (nr_X9_clear_19__203 b)) (fun b => f8 205 b (nr_X9_clear_19__205 b)) (fun b => f8 207 b (nr_X9_clear_19__207 b)) (fun b => f8 209 b (nr_X9_clear_19__209 b)) (fun b => f8 211 b (nr_X9_clear_19__211 b)) (fun b => f8 213 b (nr_X9_clear_19__213 b)) (fun b => f8 215 b (nr_X9_clear_19__215 b)) (fun b => f8 217 b (nr_X9_clear_19__217 b)) (fun b => f8 219 b (nr_X9_clear_19__219 b)) (fun b => f8 222 b (nr_X9_clear_19__222 b)) (f8 240 6 (by decide)) (fun b => f8 248 b (nr_X9_clear_19__248 b))
  have r17 := y_Y4.fr p1 (f8 1 16 (by decide)) (f8 1 17 (by decide)) (f8 191 16 (by decide)) (f8 6 6 (by decide)) (f8 191 17 (by decide)) (f8 191 18 (by decide)) (fun b => f8 3 b (nr_X9_clear_19__3 b)) (fun b => f8 8 b (nr_X9_clear_19__8 b)) (fun b => f8 12 b (nr_X9_clear_19__12 b)) (fun b => f8 14 b (nr_X9_clear_19__14 b)) (fun b => f8 16 b (nr_X9_clear_19__16 b)) (fun b => f8 18 b (nr_X9_clear_19__18 b)) (fun b => f8 193 b (nr_X9_clear_19__193 b)) (fun b => f8 195 b (nr_X9_clear_19__195 b)) (fun b => f8 197 b (nr_X9_clear_19__197 b)) (fun b => f8 199 b (nr_X9_clear_19__199 b)) (fun b => f8 201 b (nr_X9_clear_19__201 b)) (fun b => f8 203 b (nr_X9_clear_19__203 b)) (fun b => f8 205 b (nr_X9_clear_19__205 b)) (fun b => f8 207 b (nr_X9_clear_19__207 b)) (fun b => f8 209 b (nr_X9_clear_19__209 b)) (fun b => f8 211 b (nr_X9_clear_19__211 b)) (fun b => f8 213 b (nr_X9_clear_19__213 b)) (fun b => f8 215 b (nr_X9_clear_19__215 b)) (fun b => f8 217 b (nr_X9_clear_19__217 b)) (fun b => f8 219 b (nr_X9_clear_19__219 b)) (f8 240 6 (by decide)) (fun b => f8 248 b (nr_X9_clear_19__248 b)) (fun b => f8 260 b (nr_X9_clear_19__260 b)) (fun b => f8 262 b (nr_X9_clear_19__262 b)) (fun b => f8 264 b (nr_X9_clear_19__264 b)) (fun b => f8 266 b (nr_X9_clear_19__266 b)) (fun b => f8 268 b (nr_X9_clear_19__268 b)) (fun b => f8 270 b (nr_X9_clear_19__270 b)) (fun b => f8 272 b (nr_X9_clear_19__272 b)) (fun b => f8 274 b (nr_X9_clear_19__274 b)) (fun b => f8 276 b (nr_X9_clear_19__276 b)) (fun b => f8 278 b (nr_X9_clear_19__278 b)) (f8 279 9 (by decide)) (fun b => f8 281 b (nr_X9_clear_19__281 b)) (fun b => f8 283 b (nr_X9_clear_19__283 b)) (fun b => f8 285 b (nr_X9_clear_19__285 b)) (fun b => f8 287 b (nr_X9_clear_19__287 b)) (fun b => f8 289 b (nr_X9_clear_19__289 b)) (fun b => f8 291 b (nr_X9_clear_19__291 b)) (fun b => f8 293 b (nr_X9_clear_19__293 b)) (fun b => f8 295 b (nr_X9_clear_19__295 b))
  have r18 := y_B0.fr p0.1.1 (f8 211 0 (by decide)) (f8 213 0 (by decide))
  refine T_if1 (by decide +kernel) ?_
  refine T_useI (sf_X11_readTape_1Y hfu s6 c7 a1 (by omega) r16 r17) (fun v24 s19 hq => ?_)
  obtain ⟨c20, f21, o25, o26, o27, ⟨x23, rfl, b28, b29⟩⟩ := hq
  refine T_vI ?_
  have f22 := z_Fr.tr (R := R_X11_text_1) f9 f21 rs_X11_readTape_1__X11_text_1
  have t30 : s19 191 16 = s6 191 16 := f21 191 16 (by decide)
  have u31 := CI_b c20 (k := 1) (j := 12) bd_1_12
  have r32 := y_B0.fr r18 (f21 211 0 (by decide)) (f21 213 0 (by decide))
  refine T_if1 (by decide +kernel) ?_
  refine T_useN (sf_X11_refresh_1Y hfu s19 c20 o25 o27) (fun v38 s33 hq => ?_)
  obtain ⟨c34, f35, o39, o40, o41, rfl⟩ := hq
  refine T_vN ?_
  have f36 := z_Fr.tr (R := R_X11_text_1) f22 f35 rs_X11_refresh_1__X11_text_1
  have t44 : s33 1 12 = s19 1 12 := f35 1 12 (by decide)
  have u45 := CI_b c34 (k := 191) (j := 16) bd_191_16
  refine T_ite (fun h46 => ?_) (fun h46 => ?_)
  · refine T_leq (fun x47 e48 => ?_)
    have w49 := z_wr e48
    exact sj_X11_text_1Y_J45 hfu r0 s33 c34 f36 x47 a1 (by omega) (y_V3.u o39 (Or.inr o40)) (by omega) (y_Y4.c o41)
  · refine T_if1 (by decide +kernel) ?_
    refine T_let 191 (by decide +kernel) ?_
    refine T_if1 (by decide +kernel) ?_
    refine T_leq (fun x50 e51 => ?_)
    have u52 := CI_b c34 (k := 191) (j := 16) bd_191_16
    exact sj_X11_text_1Y_J45 hfu r0 s33 c34 f36 x50 a1 (by omega) (y_V3.u o39 (Or.inr o40)) (by omega) (y_Y4.c o41)
abbrev P_X11_more_1Y (r0 : z_M) (a1 : Int) : z_V → z_M → Prop := fun v s' => z_CI s' ∧ z_Fr R_X11_more_1 r0 s' ∧ (y_V3 s') ∧ ((0 ≤ a1 ∧ a1 ≤ r0 1 12 ∧ s' 1 12 = 0) ∨ ((a1 < 0 ∨ r0 1 12 < a1) ∧ s' 1 12 = r0 1 12)) ∧ (y_Y4 s') ∧ ((∃ x, v = vI x ∧ -2147483648 ≤ x ∧ x ≤ 2147483647) ∨ v = vX 1)
theorem nr_X9_copyFrom_19_6__260 (b : Int) : ¬ R_X9_copyFrom_19_6 260 b := by
  unfold R_X9_copyFrom_19_6; omega
theorem nr_X9_copyFrom_19_6__262 (b : Int) : ¬ R_X9_copyFrom_19_6 262 b := by
  unfold R_X9_copyFrom_19_6; omega
theorem nr_X9_copyFrom_19_6__264 (b : Int) : ¬ R_X9_copyFrom_19_6 264 b := by
  unfold R_X9_copyFrom_19_6; omega
theorem nr_X9_copyFrom_19_6__266 (b : Int) : ¬ R_X9_copyFrom_19_6 266 b := by
  unfold R_X9_copyFrom_19_6; omega
theorem nr_X9_copyFrom_19_6__268 (b : Int) : ¬ R_X9_copyFrom_19_6 268 b := by
  unfold R_X9_copyFrom_19_6; omega
theorem nr_X9_copyFrom_19_6__270 (b : Int) : ¬ R_X9_copyFrom_19_6 270 b := by
  unfold R_X9_copyFrom_19_6; omega
theorem nr_X9_copyFrom_19_6__272 (b : Int) : ¬ R_X9_copyFrom_19_6 272 b := by
  unfold R_X9_copyFrom_19_6; omega
theorem nr_X9_copyFrom_19_6__274 (b : Int) : ¬ R_X9_copyFrom_19_6 274 b := by
  unfold R_X9_copyFrom_19_6; omega
theorem nr_X9_copyFrom_19_6__276 (b : Int) : ¬ R_X9_copyFrom_19_6 276 b := by
  unfold R_X9_copyFrom_19_6; omega
theorem nr_X9_copyFrom_19_6__278 (b : Int) : ¬ R_X9_copyFrom_19_6 278 b := by
  unfold R_X9_copyFrom_19_6; omega
theorem nr_X9_copyFrom_19_6__281 (b : Int) : ¬ R_X9_copyFrom_19_6 281 b := by
  unfold R_X9_copyFrom_19_6; omega
theorem nr_X9_copyFrom_19_6__283 (b : Int) : ¬ R_X9_copyFrom_19_6 283 b := by
  unfold R_X9_copyFrom_19_6; omega
theorem nr_X9_copyFrom_19_6__285 (b : Int) : ¬ R_X9_copyFrom_19_6 285 b := by
  unfold R_X9_copyFrom_19_6; omega
theorem nr_X9_copyFrom_19_6__287 (b : Int) : ¬ R_X9_copyFrom_19_6 287 b := by
  unfold R_X9_copyFrom_19_6; omega
theorem nr_X9_copyFrom_19_6__289 (b : Int) : ¬ R_X9_copyFrom_19_6 289 b := by
  unfold R_X9_copyFrom_19_6; omega
theorem nr_X9_copyFrom_19_6__291 (b : Int) : ¬ R_X9_copyFrom_19_6 291 b := by
  unfold R_X9_copyFrom_19_6; omega
theorem nr_X9_copyFrom_19_6__293 (b : Int) : ¬ R_X9_copyFrom_19_6 293 b := by
  unfold R_X9_copyFrom_19_6; omega
theorem nr_X9_copyFrom_19_6__295 (b : Int) : ¬ R_X9_copyFrom_19_6 295 b := by
  unfold R_X9_copyFrom_19_6; omega
theorem sj_X11_more_1Y_J49 {fu : Nat} (hfu : 8589934592 ≤ fu) (r0 s : z_M) (c : z_CI s) (f : z_Fr R_X11_more_1 r0 s) (t0 : Int) (a1 : Int) (d0 : -2147483648 ≤ t0 ∧ t0 ≤ 2147483647) (p0 : y_V3 s) (p1 : 0 ≤ a1 ∧ a1 ≤ r0 1 12 ∧ s 1 12 = 0) (p2 : y_Y4 s) : z_T (fX11_more_J49 fu s t0) (P_X11_more_1Y r0 a1) := by
  refine T_of (fX11_more_J49.eq_1 ..) ?_
  have u1 := CI_b c (k := 1) (j := 12) bd_1_12
  have u2 := CI_b c (k := 191) (j := 16) bd_191_16
  exact T_ret ⟨c, f, p0, by omega, p2, Or.inl (⟨t0, rfl, by omega, by omega⟩)⟩
set_option maxHeartbeats 4000000 in
theorem sf_X11_more_1Y {fu : Nat} (hfu : 8589934592 ≤ fu) (r0 : z_M) (c0 : z_CI r0) (a1 : Int) (b1 : -2147483648 ≤ a1 ∧ a1 ≤ 2147483647) (p0 : y_V3 r0) (p1 : y_Y4 r0) : z_T (fX11_more fu r0 1 a1) (P_X11_more_1Y r0 a1) := by
  refine T_of (fX11_more.eq_1 ..) ?_
  refine T_if1 (by decide +kernel) ?_
  refine T_leq (fun x1 e2 => ?_)
  have u3 := CI_b c0 (k := 1) (j := 12) bd_1_12
  refine T_if1 (by decide +kernel) ?_
  refine T_nwn (fun hn => ?_) (fun h4 h5 => ?_)
  · exact T_ret ⟨CI_up c0 bd_1_15 (z_wb rfl).1, z_Fr.upf (R := R_X11_more_1) z_Fr.rf (fun a b h => z_up_k h) (fun b h => z_up_j h) (Or.inr (Or.inr (Or.inr (Or.inr (Or.inr (Or.inr (Or.inr (Or.inr (Or.inr (Or.inl (⟨rfl, by decide⟩))))))))))), y_V3.fr p0 (z_up_j (by decide)) (z_up_j (by decide)) (z_up_k (by decide)) (z_up_k (by decide)) (z_up_k (by decide)) (z_up_k (by decide)) (fun _ => z_up_k (by decide)) (fun _ => z_up_k (by decide)) (fun _ => z_up_k (by decide)) (fun _ => z_up_k (by decide)) (fun _ => z_up_k (by decide)) (fun _ => z_up_k (by decide)) (fun _ => z_up_k (by decide)) (fun _ => z_up_k (by decide)) (fun _ => z_up_k (by decide)) (fun _ => z_up_k (by decide)) (fun _ => z_up_k (by decide)) (fun _ => z_up_k (by decide)) (fun _ => z_up_k (by decide)) (fun _ => z_up_k (by decide)) (fun _ => z_up_k (by decide)) (fun _ => z_up_k (by decide)) (fun _ => z_up_k (by decide)) (fun _ => z_up_k (by decide)) (fun _ => z_up_k (by decide)) (fun _ => z_up_k (by decide)) (fun _ => z_up_k (by decide)) (z_up_k (by decide)) (fun _ => z_up_k (by decide)), by rw [show z_up r0 1 15 _ 1 12 = r0 1 12 from z_up_j (by decide)]; omega, y_Y4.fr p1 (z_up_j (by decide)) (z_up_j (by decide)) (z_up_k (by decide)) (z_up_k (by decide)) (z_up_k (by decide)) (z_up_k (by decide)) (fun _ => z_up_k (by decide)) (fun _ => z_up_k (by decide)) (fun _ => z_up_k (by decide)) (fun _ => z_up_k (by decide)) (fun _ => z_up_k (by decide)) (fun _ => z_up_k (by decide)) (fun _ => z_up_k (by decide)) (fun _ => z_up_k (by decide)) (fun _ => z_up_k (by decide)) (fun _ => z_up_k (by decide)) (fun _ => z_up_k (by decide)) (fun _ => z_up_k (by decide)) (fun _ => z_up_k (by decide)) (fun _ => z_up_k (by decide)) (fun _ => z_up_k (by decide)) (fun _ => z_up_k (by decide)) (fun _ => z_up_k (by decide)) (fun _ => z_up_k (by decide)) (fun _ => z_up_k (by decide)) (fun _ => z_up_k (by decide)) (z_up_k (by decide)) (fun _ => z_up_k (by decide)) (fun _ => z_up_k (by decide)) (fun _ => z_up_k (by decide)) (fun _ => z_up_k (by decide)) (fun _ => z_up_k (by decide)) (fun _ => z_up_k (by decide)) (fun _ => z_up_k (by decide)) (fun _ => z_up_k (by decide)) (fun _ => z_up_k (by decide)) (fun _ => z_up_k (by decide)) (fun _ => z_up_k (by decide)) (z_up_k (by decide)) (fun _ => z_up_k (by decide)) (fun _ => z_up_k (by decide)) (fun _ => z_up_k (by decide)) (fun _ => z_up_k (by decide)) (fun _ => z_up_k (by decide)) (fun _ => z_up_k (by decide)) (fun _ => z_up_k (by decide)) (fun _ => z_up_k (by decide)), Or.inr rfl⟩
  refine T_if1 (by decide +kernel) ?_
  refine T_let 19 (by decide +kernel) ?_
  refine T_if1 (by decide +kernel) ?_
  refine T_let 6 (by decide +kernel) ?_
  refine T_if1 (by decide +kernel) ?_
  refine T_useN (sf_X9_copyFrom_19_6 hfu r0 c0) (fun v11 s6 hq => ?_)
  obtain ⟨c7, f8, rfl⟩ := hq
  refine T_vN ?_
  have f9 := z_Fr.tr (R := R_X11_more_1) z_Fr.rf f8 rs_X9_copyFrom_19_6__X11_more_1
  have t14 : s6 1 12 = r0 1 12 := f8 1 12 (by decide)
  have t15 : s6 191 16 = r0 191 16 := f8 191 16 (by decide)
  have r16 := y_V3.fr p0 (f8 1 16 (by decide)) (f8 1 17 (by decide)) (f8 191 16 (by decide)) (f8 6 6 (by decide)) (f8 191 17 (by decide)) (f8 191 18 (by decide)) (fun b => f8 3 b (nr_X9_copyFrom_19_6__3 b)) (fun b => f8 8 b (nr_X9_copyFrom_19_6__8 b)) (fun b => f8 12 b (nr_X9_copyFrom_19_6__12 b)) (fun b => f8 14 b (nr_X9_copyFrom_19_6__14 b)) (fun b => f8 16 b (nr_X9_copyFrom_19_6__16 b)) (fun b => f8 18 b (nr_X9_copyFrom_19_6__18 b)) (fun b => f8 193 b (nr_X9_copyFrom_19_6__193 b)) (fun b => f8 195 b (nr_X9_copyFrom_19_6__195 b)) (fun b => f8 197 b (nr_X9_copyFrom_19_6__197 b)) (fun b => f8 199 b (nr_X9_copyFrom_19_6__199 b)) (fun b => f8 201 b (nr_X9_copyFrom_19_6__201 b)) (fun b => f8 203 b (nr_X9_copyFrom_19_6__203 b)) (fun b => f8 205 b (nr_X9_copyFrom_19_6__205 b)) (fun b => f8 207 b (nr_X9_copyFrom_19_6__207 b)) (fun b => f8 209 b (nr_X9_copyFrom_19_6__209 b)) (fun b => f8 211 b (nr_X9_copyFrom_19_6__211 b)) (fun b => f8 213 b (nr_X9_copyFrom_19_6__213 b)) (fun b => f8 215 b (nr_X9_copyFrom_19_6__215 b)) (fun b => f8 217 b (nr_X9_copyFrom_19_6__217 b)) (fun b => f8 219 b (nr_X9_copyFrom_19_6__219 b)) (fun b => f8 222 b (nr_X9_copyFrom_19_6__222 b)) (f8 240 6 (by decide)) (fun b => f8 248 b (nr_X9_copyFrom_19_6__248 b))
  have r17 := y_Y4.fr p1 (f8 1 16 (by decide)) (f8 1 17 (by decide)) (f8 191 16 (by decide)) (f8 6 6 (by decide)) (f8 191 17 (by decide)) (f8 191 18 (by decide)) (fun b => f8 3 b (nr_X9_copyFrom_19_6__3 b)) (fun b => f8 8 b (nr_X9_copyFrom_19_6__8 b)) (fun b => f8 12 b (nr_X9_copyFrom_19_6__12 b)) (fun b => f8 14 b (nr_X9_copyFrom_19_6__14 b)) (fun b => f8 16 b (nr_X9_copyFrom_19_6__16 b)) (fun b => f8 18 b (nr_X9_copyFrom_19_6__18 b)) (fun b => f8 193 b (nr_X9_copyFrom_19_6__193 b)) (fun b => f8 195 b (nr_X9_copyFrom_19_6__195 b)) (fun b => f8 197 b (nr_X9_copyFrom_19_6__197 b)) (fun b => f8 199 b (nr_X9_copyFrom_19_6__199 b)) (fun b => f8 201 b (nr_X9_copyFrom_19_6__201 b)) (fun b => f8 203 b (nr_X9_copyFrom_19_6__203 b)) (fun b => f8 205 b (nr_X9_copyFrom_19_6__205 b)) (fun b => f8 207 b (nr_X9_copyFrom_19_6__207 b)) (fun b => f8 209 b (nr_X9_copyFrom_19_6__209 b)) (fun b => f8 211 b (nr_X9_copyFrom_19_6__211 b)) (fun b => f8 213 b (nr_X9_copyFrom_19_6__213 b)) (fun b => f8 215 b (nr_X9_copyFrom_19_6__215 b)) (fun b => f8 217 b (nr_X9_copyFrom_19_6__217 b)) (fun b => f8 219 b (nr_X9_copyFrom_19_6__219 b)) (f8 240 6 (by decide)) (fun b => f8 248 b (nr_X9_copyFrom_19_6__248 b)) (fun b => f8 260 b (nr_X9_copyFrom_19_6__260 b)) (fun b => f8 262 b (nr_X9_copyFrom_19_6__262 b)) (fun b => f8 264 b (nr_X9_copyFrom_19_6__264 b)) (fun b => f8 266 b (nr_X9_copyFrom_19_6__266 b)) (fun b => f8 268 b (nr_X9_copyFrom_19_6__268 b)) (fun b => f8 270 b (nr_X9_copyFrom_19_6__270 b)) (fun b => f8 272 b (nr_X9_copyFrom_19_6__272 b)) (fun b => f8 274 b (nr_X9_copyFrom_19_6__274 b)) (fun b => f8 276 b (nr_X9_copyFrom_19_6__276 b)) (fun b => f8 278 b (nr_X9_copyFrom_19_6__278 b)) (f8 279 9 (by decide)) (fun b => f8 281 b (nr_X9_copyFrom_19_6__281 b)) (fun b => f8 283 b (nr_X9_copyFrom_19_6__283 b)) (fun b => f8 285 b (nr_X9_copyFrom_19_6__285 b)) (fun b => f8 287 b (nr_X9_copyFrom_19_6__287 b)) (fun b => f8 289 b (nr_X9_copyFrom_19_6__289 b)) (fun b => f8 291 b (nr_X9_copyFrom_19_6__291 b)) (fun b => f8 293 b (nr_X9_copyFrom_19_6__293 b)) (fun b => f8 295 b (nr_X9_copyFrom_19_6__295 b))
  have r18 := y_B0.fr p0.1.1 (f8 211 0 (by decide)) (f8 213 0 (by decide))
  refine T_if1 (by decide +kernel) ?_
  refine T_useI (sf_X11_readTape_1Y hfu s6 c7 a1 (by omega) r16 r17) (fun v24 s19 hq => ?_)
  obtain ⟨c20, f21, o25, o26, o27, ⟨x23, rfl, b28, b29⟩⟩ := hq
  refine T_vI ?_
  have f22 := z_Fr.tr (R := R_X11_more_1) f9 f21 rs_X11_readTape_1__X11_more_1
  have t30 : s19 191 16 = s6 191 16 := f21 191 16 (by decide)
  have u31 := CI_b c20 (k := 1) (j := 12) bd_1_12
  have r32 := y_B0.fr r18 (f21 211 0 (by decide)) (f21 213 0 (by decide))
  refine T_if1 (by decide +kernel) ?_
  refine T_useN (sf_X11_refresh_1Y hfu s19 c20 o25 o27) (fun v38 s33 hq => ?_)
  obtain ⟨c34, f35, o39, o40, o41, rfl⟩ := hq
  refine T_vN ?_
  have f36 := z_Fr.tr (R := R_X11_more_1) f22 f35 rs_X11_refresh_1__X11_more_1
  have t44 : s33 1 12 = s19 1 12 := f35 1 12 (by decide)
  have u45 := CI_b c34 (k := 191) (j := 16) bd_191_16
  refine T_ite (fun h46 => ?_) (fun h46 => ?_)
  · refine T_leq (fun x47 e48 => ?_)
    have w49 := z_wr e48
    exact sj_X11_more_1Y_J49 hfu r0 s33 c34 f36 x47 a1 (by omega) (y_V3.u o39 (Or.inr o40)) (by omega) (y_Y4.c o41)
  · refine T_if1 (by decide +kernel) ?_
    refine T_let 191 (by decide +kernel) ?_
    refine T_if1 (by decide +kernel) ?_
    refine T_leq (fun x50 e51 => ?_)
    have u52 := CI_b c34 (k := 191) (j := 16) bd_191_16
    exact sj_X11_more_1Y_J49 hfu r0 s33 c34 f36 x50 a1 (by omega) (y_V3.u o39 (Or.inr o40)) (by omega) (y_Y4.c o41)
abbrev P_X11_fault_1Y (r0 : z_M) : z_V → z_M → Prop := fun v s' => z_CI s' ∧ z_Fr R_X11_fault_1 r0 s' ∧ (y_V3 s') ∧ (y_Y4 s') ∧ (∃ x, v = vI x ∧ -2147483648 ≤ x ∧ x ≤ 2147483647)
theorem sf_X11_fault_1Y {fu : Nat} (hfu : 8589934592 ≤ fu) (r0 : z_M) (c0 : z_CI r0) (p0 : y_V3 r0) (p1 : y_Y4 r0) : z_T (fX11_fault fu r0 1) (P_X11_fault_1Y r0) := by
  refine T_of (fX11_fault.eq_1 ..) ?_
  refine T_if1 (by decide +kernel) ?_
  refine T_leq (fun x1 e2 => ?_)
  have u3 := CI_b c0 (k := 1) (j := 13) bd_1_13
  exact T_ret ⟨c0, z_Fr.rf, p0, p1, ⟨x1, rfl, by omega, by omega⟩⟩
abbrev P_X11_set_1Y (r0 : z_M) : z_V → z_M → Prop := fun v s' => z_CI s' ∧ z_Fr R_X11_set_1 r0 s' ∧ (y_V3 s') ∧ (y_Y4 s') ∧ ((∃ x, v = vI x ∧ -2147483648 ≤ x ∧ x ≤ 2147483647) ∨ v = vX 1)
theorem sj_X11_set_1Y_J79 {fu : Nat} (hfu : 8589934592 ≤ fu) (r0 s : z_M) (c : z_CI s) (f : z_Fr R_X11_set_1 r0 s) (a3 : Int) (b3 : -2147483648 ≤ a3 ∧ a3 ≤ 2147483647) (p0 : y_V3 s) (p1 : y_Y4 s) : z_T (fX11_set_J79 fu s a3) (P_X11_set_1Y r0) := by
  refine T_of (fX11_set_J79.eq_1 ..) ?_
  exact T_ret ⟨c, f, p0, p1, Or.inl (⟨a3, rfl, by omega, by omega⟩)⟩
theorem sf_X11_set_1Y {fu : Nat} (hfu : 8589934592 ≤ fu) (r0 : z_M) (c0 : z_CI r0) (a1 : Int) (a2 : Int) (b1 : -2147483648 ≤ a1 ∧ a1 ≤ 2147483647) (b2 : -2147483648 ≤ a2 ∧ a2 ≤ 2147483647) (p0 : y_V3 r0) (p1 : 12 ≤ r0 3 0 ∧ r0 3 0 ≤ 999) (p2 : y_Y4 r0) : z_T (fX11_set fu r0 1 a1 a2) (P_X11_set_1Y r0) := by
  refine T_of (fX11_set.eq_1 ..) ?_
  refine T_if1 (by decide) ?_
  refine T_leq (fun x1 e2 => ?_)
  have w3 := z_wr e2
  refine T_if1 (by decide +kernel) ?_
  refine T_nw ?_ (fun h4 h5 => ?_)
  · exact T_ret ⟨CI_up c0 bd_1_15 (z_wb rfl).1, z_Fr.upf (R := R_X11_set_1) z_Fr.rf (fun a b h => z_up_k h) (fun b h => z_up_j h) (Or.inr (⟨rfl, by decide⟩)), y_V3.fr p0 (z_up_j (by decide)) (z_up_j (by decide)) (z_up_k (by decide)) (z_up_k (by decide)) (z_up_k (by decide)) (z_up_k (by decide)) (fun _ => z_up_k (by decide)) (fun _ => z_up_k (by decide)) (fun _ => z_up_k (by decide)) (fun _ => z_up_k (by decide)) (fun _ => z_up_k (by decide)) (fun _ => z_up_k (by decide)) (fun _ => z_up_k (by decide)) (fun _ => z_up_k (by decide)) (fun _ => z_up_k (by decide)) (fun _ => z_up_k (by decide)) (fun _ => z_up_k (by decide)) (fun _ => z_up_k (by decide)) (fun _ => z_up_k (by decide)) (fun _ => z_up_k (by decide)) (fun _ => z_up_k (by decide)) (fun _ => z_up_k (by decide)) (fun _ => z_up_k (by decide)) (fun _ => z_up_k (by decide)) (fun _ => z_up_k (by decide)) (fun _ => z_up_k (by decide)) (fun _ => z_up_k (by decide)) (z_up_k (by decide)) (fun _ => z_up_k (by decide)), y_Y4.fr p2 (z_up_j (by decide)) (z_up_j (by decide)) (z_up_k (by decide)) (z_up_k (by decide)) (z_up_k (by decide)) (z_up_k (by decide)) (fun _ => z_up_k (by decide)) (fun _ => z_up_k (by decide)) (fun _ => z_up_k (by decide)) (fun _ => z_up_k (by decide)) (fun _ => z_up_k (by decide)) (fun _ => z_up_k (by decide)) (fun _ => z_up_k (by decide)) (fun _ => z_up_k (by decide)) (fun _ => z_up_k (by decide)) (fun _ => z_up_k (by decide)) (fun _ => z_up_k (by decide)) (fun _ => z_up_k (by decide)) (fun _ => z_up_k (by decide)) (fun _ => z_up_k (by decide)) (fun _ => z_up_k (by decide)) (fun _ => z_up_k (by decide)) (fun _ => z_up_k (by decide)) (fun _ => z_up_k (by decide)) (fun _ => z_up_k (by decide)) (fun _ => z_up_k (by decide)) (z_up_k (by decide)) (fun _ => z_up_k (by decide)) (fun _ => z_up_k (by decide)) (fun _ => z_up_k (by decide)) (fun _ => z_up_k (by decide)) (fun _ => z_up_k (by decide)) (fun _ => z_up_k (by decide)) (fun _ => z_up_k (by decide)) (fun _ => z_up_k (by decide)) (fun _ => z_up_k (by decide)) (fun _ => z_up_k (by decide)) (fun _ => z_up_k (by decide)) (z_up_k (by decide)) (fun _ => z_up_k (by decide)) (fun _ => z_up_k (by decide)) (fun _ => z_up_k (by decide)) (fun _ => z_up_k (by decide)) (fun _ => z_up_k (by decide)) (fun _ => z_up_k (by decide)) (fun _ => z_up_k (by decide)) (fun _ => z_up_k (by decide)), Or.inr rfl⟩
  refine T_pick (by decide) (fun x6 e7 b8 => ?_)
  refine T_pick (by decide) (fun x9 e10 b11 => ?_)
  refine T_if1 (by decide +kernel) ?_
  refine T_nw ?_ (fun h12 h13 => ?_)
  · exact T_ret ⟨CI_up c0 bd_1_15 (z_wb rfl).1, z_Fr.upf (R := R_X11_set_1) z_Fr.rf (fun a b h => z_up_k h) (fun b h => z_up_j h) (Or.inr (⟨rfl, by decide⟩)), y_V3.fr p0 (z_up_j (by decide)) (z_up_j (by decide)) (z_up_k (by decide)) (z_up_k (by decide)) (z_up_k (by decide)) (z_up_k (by decide)) (fun _ => z_up_k (by decide)) (fun _ => z_up_k (by decide)) (fun _ => z_up_k (by decide)) (fun _ => z_up_k (by decide)) (fun _ => z_up_k (by decide)) (fun _ => z_up_k (by decide)) (fun _ => z_up_k (by decide)) (fun _ => z_up_k (by decide)) (fun _ => z_up_k (by decide)) (fun _ => z_up_k (by decide)) (fun _ => z_up_k (by decide)) (fun _ => z_up_k (by decide)) (fun _ => z_up_k (by decide)) (fun _ => z_up_k (by decide)) (fun _ => z_up_k (by decide)) (fun _ => z_up_k (by decide)) (fun _ => z_up_k (by decide)) (fun _ => z_up_k (by decide)) (fun _ => z_up_k (by decide)) (fun _ => z_up_k (by decide)) (fun _ => z_up_k (by decide)) (z_up_k (by decide)) (fun _ => z_up_k (by decide)), y_Y4.fr p2 (z_up_j (by decide)) (z_up_j (by decide)) (z_up_k (by decide)) (z_up_k (by decide)) (z_up_k (by decide)) (z_up_k (by decide)) (fun _ => z_up_k (by decide)) (fun _ => z_up_k (by decide)) (fun _ => z_up_k (by decide)) (fun _ => z_up_k (by decide)) (fun _ => z_up_k (by decide)) (fun _ => z_up_k (by decide)) (fun _ => z_up_k (by decide)) (fun _ => z_up_k (by decide)) (fun _ => z_up_k (by decide)) (fun _ => z_up_k (by decide)) (fun _ => z_up_k (by decide)) (fun _ => z_up_k (by decide)) (fun _ => z_up_k (by decide)) (fun _ => z_up_k (by decide)) (fun _ => z_up_k (by decide)) (fun _ => z_up_k (by decide)) (fun _ => z_up_k (by decide)) (fun _ => z_up_k (by decide)) (fun _ => z_up_k (by decide)) (fun _ => z_up_k (by decide)) (z_up_k (by decide)) (fun _ => z_up_k (by decide)) (fun _ => z_up_k (by decide)) (fun _ => z_up_k (by decide)) (fun _ => z_up_k (by decide)) (fun _ => z_up_k (by decide)) (fun _ => z_up_k (by decide)) (fun _ => z_up_k (by decide)) (fun _ => z_up_k (by decide)) (fun _ => z_up_k (by decide)) (fun _ => z_up_k (by decide)) (fun _ => z_up_k (by decide)) (z_up_k (by decide)) (fun _ => z_up_k (by decide)) (fun _ => z_up_k (by decide)) (fun _ => z_up_k (by decide)) (fun _ => z_up_k (by decide)) (fun _ => z_up_k (by decide)) (fun _ => z_up_k (by decide)) (fun _ => z_up_k (by decide)) (fun _ => z_up_k (by decide)), Or.inr rfl⟩
  refine T_if1 (by decide +kernel) ?_
  refine T_let 2 (by decide +kernel) ?_
  refine T_if1 (by decide +kernel) ?_
  refine T_get (by decide +kernel) (c := 3) (by decide +kernel) bdr_3 (by decide) c0 (fun x14 e15 b16 w17 => ?_)
  have l18 : z_ln 2 = 9 := by decide +kernel
  refine T_if1 (by decide +kernel) ?_
  refine T_let 2 (by decide +kernel) ?_
  refine T_if1 (by decide +kernel) ?_
  refine T_put (by decide +kernel) (c := 3) (by decide +kernel) bdr_3 (by omega) c0 (fun s19 e22 c20 g23 => ?_)
  have f21 := z_Fr.up (R := R_X11_set_1) z_Fr.rf g23 (fun _ => (Or.inl (⟨by decide, by decide⟩)))
  have r24 := y_B0.fr p0.1.1 (g23 211 0 (by decide)) (g23 213 0 (by decide))
  refine T_if1 ⟨(by decide +kernel), by unfold z_bl; omega⟩ ?_
  refine T_upg c20 bd_1_17 (by omega) (fun s25 c26 g28 g29 e30 => ?_)
  have f27 := z_Fr.upf (R := R_X11_set_1) f21 g28 g29 (Or.inr (⟨rfl, by decide⟩))
  have r31 := y_B0.fr r24 (g28 211 0 (by decide)) (g28 213 0 (by decide))
  refine T_ite (fun h32 => ?_) (fun h32 => ?_)
  · exact sj_X11_set_1Y_J79 hfu r0 s25 c26 f27 x14 (by omega) (y_V3.st p0 (by omega) (by omega) e22 g23 g28 g29 (by omega)) (by first | exact y_Y4.z (by omega) | exact y_Y4.z7 (by omega))
  · refine T_ite (fun h33 => ?_) (fun h33 => ?_)
    · exact sj_X11_set_1Y_J79 hfu r0 s25 c26 f27 x14 (by omega) (y_V3.st p0 (by omega) (by omega) e22 g23 g28 g29 (by omega)) (by first | exact y_Y4.z (by omega) | exact y_Y4.z7 (by omega))
    · refine T_ite (fun h34 => ?_) (fun h34 => ?_)
      · exact sj_X11_set_1Y_J79 hfu r0 s25 c26 f27 x14 (by omega) (y_V3.st p0 (by omega) (by omega) e22 g23 g28 g29 (by omega)) (by first | exact y_Y4.z (by omega) | exact y_Y4.z7 (by omega))
      · refine T_ite (fun h35 => ?_) (fun h35 => ?_)
        · exact sj_X11_set_1Y_J79 hfu r0 s25 c26 f27 x14 (by omega) (y_V3.st p0 (by omega) (by omega) e22 g23 g28 g29 (by omega)) (by first | exact y_Y4.z (by omega) | exact y_Y4.z7 (by omega))
        · refine T_if1 ⟨(by decide +kernel), by unfold z_bl; omega⟩ ?_
          refine T_upg c26 bd_1_16 (by omega) (fun s36 c37 g39 g40 e41 => ?_)
          have f38 := z_Fr.upf (R := R_X11_set_1) f27 g39 g40 (Or.inr (⟨rfl, by decide⟩))
          have r42 := y_B0.fr r31 (g39 211 0 (by decide)) (g39 213 0 (by decide))
          exact sj_X11_set_1Y_J79 hfu r0 s36 c37 f38 x14 (by omega) (y_V3.z r42 (by omega)) (by first | exact y_Y4.z (by omega) | exact y_Y4.z7 (by omega))
abbrev P_X11_undo_1Y (r0 : z_M) : z_V → z_M → Prop := fun v s' => z_CI s' ∧ z_Fr R_X11_undo_1 r0 s' ∧ (y_V3 s') ∧ (y_Y4 s') ∧ (∃ x, v = vI x ∧ -2147483648 ≤ x ∧ x ≤ 2147483647)
theorem nr_X9_copyFrom_6_35__260 (b : Int) : ¬ R_X9_copyFrom_6_35 260 b := by
  unfold R_X9_copyFrom_6_35; omega
theorem nr_X9_copyFrom_6_35__262 (b : Int) : ¬ R_X9_copyFrom_6_35 262 b := by
  unfold R_X9_copyFrom_6_35; omega
theorem nr_X9_copyFrom_6_35__264 (b : Int) : ¬ R_X9_copyFrom_6_35 264 b := by
  unfold R_X9_copyFrom_6_35; omega
theorem nr_X9_copyFrom_6_35__266 (b : Int) : ¬ R_X9_copyFrom_6_35 266 b := by
  unfold R_X9_copyFrom_6_35; omega
theorem nr_X9_copyFrom_6_35__268 (b : Int) : ¬ R_X9_copyFrom_6_35 268 b := by
  unfold R_X9_copyFrom_6_35; omega
theorem nr_X9_copyFrom_6_35__270 (b : Int) : ¬ R_X9_copyFrom_6_35 270 b := by
  unfold R_X9_copyFrom_6_35; omega
theorem nr_X9_copyFrom_6_35__272 (b : Int) : ¬ R_X9_copyFrom_6_35 272 b := by
  unfold R_X9_copyFrom_6_35; omega
theorem nr_X9_copyFrom_6_35__274 (b : Int) : ¬ R_X9_copyFrom_6_35 274 b := by
  unfold R_X9_copyFrom_6_35; omega
theorem nr_X9_copyFrom_6_35__276 (b : Int) : ¬ R_X9_copyFrom_6_35 276 b := by
  unfold R_X9_copyFrom_6_35; omega
theorem nr_X9_copyFrom_6_35__278 (b : Int) : ¬ R_X9_copyFrom_6_35 278 b := by
  unfold R_X9_copyFrom_6_35; omega
theorem nr_X9_copyFrom_6_35__281 (b : Int) : ¬ R_X9_copyFrom_6_35 281 b := by
  unfold R_X9_copyFrom_6_35; omega
theorem nr_X9_copyFrom_6_35__283 (b : Int) : ¬ R_X9_copyFrom_6_35 283 b := by
  unfold R_X9_copyFrom_6_35; omega
theorem nr_X9_copyFrom_6_35__285 (b : Int) : ¬ R_X9_copyFrom_6_35 285 b := by
  unfold R_X9_copyFrom_6_35; omega
theorem nr_X9_copyFrom_6_35__287 (b : Int) : ¬ R_X9_copyFrom_6_35 287 b := by
  unfold R_X9_copyFrom_6_35; omega
theorem nr_X9_copyFrom_6_35__289 (b : Int) : ¬ R_X9_copyFrom_6_35 289 b := by
  unfold R_X9_copyFrom_6_35; omega
theorem nr_X9_copyFrom_6_35__291 (b : Int) : ¬ R_X9_copyFrom_6_35 291 b := by
  unfold R_X9_copyFrom_6_35; omega
theorem nr_X9_copyFrom_6_35__293 (b : Int) : ¬ R_X9_copyFrom_6_35 293 b := by
  unfold R_X9_copyFrom_6_35; omega
theorem nr_X9_copyFrom_6_35__295 (b : Int) : ¬ R_X9_copyFrom_6_35 295 b := by
  unfold R_X9_copyFrom_6_35; omega
theorem nr_X9_copyFrom_6_48__260 (b : Int) : ¬ R_X9_copyFrom_6_48 260 b := by
  unfold R_X9_copyFrom_6_48; omega
theorem nr_X9_copyFrom_6_48__262 (b : Int) : ¬ R_X9_copyFrom_6_48 262 b := by
  unfold R_X9_copyFrom_6_48; omega
theorem nr_X9_copyFrom_6_48__264 (b : Int) : ¬ R_X9_copyFrom_6_48 264 b := by
  unfold R_X9_copyFrom_6_48; omega
theorem nr_X9_copyFrom_6_48__266 (b : Int) : ¬ R_X9_copyFrom_6_48 266 b := by
  unfold R_X9_copyFrom_6_48; omega
theorem nr_X9_copyFrom_6_48__268 (b : Int) : ¬ R_X9_copyFrom_6_48 268 b := by
  unfold R_X9_copyFrom_6_48; omega
theorem nr_X9_copyFrom_6_48__270 (b : Int) : ¬ R_X9_copyFrom_6_48 270 b := by
  unfold R_X9_copyFrom_6_48; omega
theorem nr_X9_copyFrom_6_48__272 (b : Int) : ¬ R_X9_copyFrom_6_48 272 b := by
  unfold R_X9_copyFrom_6_48; omega
theorem nr_X9_copyFrom_6_48__274 (b : Int) : ¬ R_X9_copyFrom_6_48 274 b := by
  unfold R_X9_copyFrom_6_48; omega
theorem nr_X9_copyFrom_6_48__276 (b : Int) : ¬ R_X9_copyFrom_6_48 276 b := by
  unfold R_X9_copyFrom_6_48; omega
theorem nr_X9_copyFrom_6_48__278 (b : Int) : ¬ R_X9_copyFrom_6_48 278 b := by
  unfold R_X9_copyFrom_6_48; omega
theorem nr_X9_copyFrom_6_48__281 (b : Int) : ¬ R_X9_copyFrom_6_48 281 b := by
  unfold R_X9_copyFrom_6_48; omega
theorem nr_X9_copyFrom_6_48__283 (b : Int) : ¬ R_X9_copyFrom_6_48 283 b := by
  unfold R_X9_copyFrom_6_48; omega
theorem nr_X9_copyFrom_6_48__285 (b : Int) : ¬ R_X9_copyFrom_6_48 285 b := by
  unfold R_X9_copyFrom_6_48; omega
theorem nr_X9_copyFrom_6_48__287 (b : Int) : ¬ R_X9_copyFrom_6_48 287 b := by
  unfold R_X9_copyFrom_6_48; omega
theorem nr_X9_copyFrom_6_48__289 (b : Int) : ¬ R_X9_copyFrom_6_48 289 b := by
  unfold R_X9_copyFrom_6_48; omega
theorem nr_X9_copyFrom_6_48__291 (b : Int) : ¬ R_X9_copyFrom_6_48 291 b := by
  unfold R_X9_copyFrom_6_48; omega
theorem nr_X9_copyFrom_6_48__293 (b : Int) : ¬ R_X9_copyFrom_6_48 293 b := by
  unfold R_X9_copyFrom_6_48; omega
theorem nr_X9_copyFrom_6_48__295 (b : Int) : ¬ R_X9_copyFrom_6_48 295 b := by
  unfold R_X9_copyFrom_6_48; omega
theorem nr_X9_copyFrom_6_61__260 (b : Int) : ¬ R_X9_copyFrom_6_61 260 b := by
  unfold R_X9_copyFrom_6_61; omega
theorem nr_X9_copyFrom_6_61__262 (b : Int) : ¬ R_X9_copyFrom_6_61 262 b := by
  unfold R_X9_copyFrom_6_61; omega
theorem nr_X9_copyFrom_6_61__264 (b : Int) : ¬ R_X9_copyFrom_6_61 264 b := by
  unfold R_X9_copyFrom_6_61; omega
theorem nr_X9_copyFrom_6_61__266 (b : Int) : ¬ R_X9_copyFrom_6_61 266 b := by
  unfold R_X9_copyFrom_6_61; omega
theorem nr_X9_copyFrom_6_61__268 (b : Int) : ¬ R_X9_copyFrom_6_61 268 b := by
  unfold R_X9_copyFrom_6_61; omega
theorem nr_X9_copyFrom_6_61__270 (b : Int) : ¬ R_X9_copyFrom_6_61 270 b := by
  unfold R_X9_copyFrom_6_61; omega
theorem nr_X9_copyFrom_6_61__272 (b : Int) : ¬ R_X9_copyFrom_6_61 272 b := by
  unfold R_X9_copyFrom_6_61; omega
theorem nr_X9_copyFrom_6_61__274 (b : Int) : ¬ R_X9_copyFrom_6_61 274 b := by
  unfold R_X9_copyFrom_6_61; omega
theorem nr_X9_copyFrom_6_61__276 (b : Int) : ¬ R_X9_copyFrom_6_61 276 b := by
  unfold R_X9_copyFrom_6_61; omega
theorem nr_X9_copyFrom_6_61__278 (b : Int) : ¬ R_X9_copyFrom_6_61 278 b := by
  unfold R_X9_copyFrom_6_61; omega
theorem nr_X9_copyFrom_6_61__281 (b : Int) : ¬ R_X9_copyFrom_6_61 281 b := by
  unfold R_X9_copyFrom_6_61; omega
theorem nr_X9_copyFrom_6_61__283 (b : Int) : ¬ R_X9_copyFrom_6_61 283 b := by
  unfold R_X9_copyFrom_6_61; omega
theorem nr_X9_copyFrom_6_61__285 (b : Int) : ¬ R_X9_copyFrom_6_61 285 b := by
  unfold R_X9_copyFrom_6_61; omega
theorem nr_X9_copyFrom_6_61__287 (b : Int) : ¬ R_X9_copyFrom_6_61 287 b := by
  unfold R_X9_copyFrom_6_61; omega
theorem nr_X9_copyFrom_6_61__289 (b : Int) : ¬ R_X9_copyFrom_6_61 289 b := by
  unfold R_X9_copyFrom_6_61; omega
theorem nr_X9_copyFrom_6_61__291 (b : Int) : ¬ R_X9_copyFrom_6_61 291 b := by
  unfold R_X9_copyFrom_6_61; omega
theorem nr_X9_copyFrom_6_61__293 (b : Int) : ¬ R_X9_copyFrom_6_61 293 b := by
  unfold R_X9_copyFrom_6_61; omega
theorem nr_X9_copyFrom_6_61__295 (b : Int) : ¬ R_X9_copyFrom_6_61 295 b := by
  unfold R_X9_copyFrom_6_61; omega
theorem nr_X9_copyFrom_6_74__260 (b : Int) : ¬ R_X9_copyFrom_6_74 260 b := by
  unfold R_X9_copyFrom_6_74; omega
theorem nr_X9_copyFrom_6_74__262 (b : Int) : ¬ R_X9_copyFrom_6_74 262 b := by
  unfold R_X9_copyFrom_6_74; omega
theorem nr_X9_copyFrom_6_74__264 (b : Int) : ¬ R_X9_copyFrom_6_74 264 b := by
  unfold R_X9_copyFrom_6_74; omega
theorem nr_X9_copyFrom_6_74__266 (b : Int) : ¬ R_X9_copyFrom_6_74 266 b := by
  unfold R_X9_copyFrom_6_74; omega
theorem nr_X9_copyFrom_6_74__268 (b : Int) : ¬ R_X9_copyFrom_6_74 268 b := by
  unfold R_X9_copyFrom_6_74; omega
theorem nr_X9_copyFrom_6_74__270 (b : Int) : ¬ R_X9_copyFrom_6_74 270 b := by
  unfold R_X9_copyFrom_6_74; omega
theorem nr_X9_copyFrom_6_74__272 (b : Int) : ¬ R_X9_copyFrom_6_74 272 b := by
  unfold R_X9_copyFrom_6_74; omega
theorem nr_X9_copyFrom_6_74__274 (b : Int) : ¬ R_X9_copyFrom_6_74 274 b := by
  unfold R_X9_copyFrom_6_74; omega
theorem nr_X9_copyFrom_6_74__276 (b : Int) : ¬ R_X9_copyFrom_6_74 276 b := by
  unfold R_X9_copyFrom_6_74; omega
theorem nr_X9_copyFrom_6_74__278 (b : Int) : ¬ R_X9_copyFrom_6_74 278 b := by
  unfold R_X9_copyFrom_6_74; omega
theorem nr_X9_copyFrom_6_74__281 (b : Int) : ¬ R_X9_copyFrom_6_74 281 b := by
  unfold R_X9_copyFrom_6_74; omega
theorem nr_X9_copyFrom_6_74__283 (b : Int) : ¬ R_X9_copyFrom_6_74 283 b := by
  unfold R_X9_copyFrom_6_74; omega
theorem nr_X9_copyFrom_6_74__285 (b : Int) : ¬ R_X9_copyFrom_6_74 285 b := by
  unfold R_X9_copyFrom_6_74; omega
theorem nr_X9_copyFrom_6_74__287 (b : Int) : ¬ R_X9_copyFrom_6_74 287 b := by
  unfold R_X9_copyFrom_6_74; omega
theorem nr_X9_copyFrom_6_74__289 (b : Int) : ¬ R_X9_copyFrom_6_74 289 b := by
  unfold R_X9_copyFrom_6_74; omega
theorem nr_X9_copyFrom_6_74__291 (b : Int) : ¬ R_X9_copyFrom_6_74 291 b := by
  unfold R_X9_copyFrom_6_74; omega
theorem nr_X9_copyFrom_6_74__293 (b : Int) : ¬ R_X9_copyFrom_6_74 293 b := by
  unfold R_X9_copyFrom_6_74; omega
theorem nr_X9_copyFrom_6_74__295 (b : Int) : ¬ R_X9_copyFrom_6_74 295 b := by
  unfold R_X9_copyFrom_6_74; omega
theorem nr_X9_copyFrom_6_87__260 (b : Int) : ¬ R_X9_copyFrom_6_87 260 b := by
  unfold R_X9_copyFrom_6_87; omega
theorem nr_X9_copyFrom_6_87__262 (b : Int) : ¬ R_X9_copyFrom_6_87 262 b := by
  unfold R_X9_copyFrom_6_87; omega
theorem nr_X9_copyFrom_6_87__264 (b : Int) : ¬ R_X9_copyFrom_6_87 264 b := by
  unfold R_X9_copyFrom_6_87; omega
theorem nr_X9_copyFrom_6_87__266 (b : Int) : ¬ R_X9_copyFrom_6_87 266 b := by
  unfold R_X9_copyFrom_6_87; omega
theorem nr_X9_copyFrom_6_87__268 (b : Int) : ¬ R_X9_copyFrom_6_87 268 b := by
  unfold R_X9_copyFrom_6_87; omega
theorem nr_X9_copyFrom_6_87__270 (b : Int) : ¬ R_X9_copyFrom_6_87 270 b := by
  unfold R_X9_copyFrom_6_87; omega
theorem nr_X9_copyFrom_6_87__272 (b : Int) : ¬ R_X9_copyFrom_6_87 272 b := by
  unfold R_X9_copyFrom_6_87; omega
theorem nr_X9_copyFrom_6_87__274 (b : Int) : ¬ R_X9_copyFrom_6_87 274 b := by
  unfold R_X9_copyFrom_6_87; omega
theorem nr_X9_copyFrom_6_87__276 (b : Int) : ¬ R_X9_copyFrom_6_87 276 b := by
  unfold R_X9_copyFrom_6_87; omega
theorem nr_X9_copyFrom_6_87__278 (b : Int) : ¬ R_X9_copyFrom_6_87 278 b := by
  unfold R_X9_copyFrom_6_87; omega
theorem nr_X9_copyFrom_6_87__281 (b : Int) : ¬ R_X9_copyFrom_6_87 281 b := by
  unfold R_X9_copyFrom_6_87; omega
theorem nr_X9_copyFrom_6_87__283 (b : Int) : ¬ R_X9_copyFrom_6_87 283 b := by
  unfold R_X9_copyFrom_6_87; omega
theorem nr_X9_copyFrom_6_87__285 (b : Int) : ¬ R_X9_copyFrom_6_87 285 b := by
  unfold R_X9_copyFrom_6_87; omega
theorem nr_X9_copyFrom_6_87__287 (b : Int) : ¬ R_X9_copyFrom_6_87 287 b := by
  unfold R_X9_copyFrom_6_87; omega
theorem nr_X9_copyFrom_6_87__289 (b : Int) : ¬ R_X9_copyFrom_6_87 289 b := by
  unfold R_X9_copyFrom_6_87; omega
theorem nr_X9_copyFrom_6_87__291 (b : Int) : ¬ R_X9_copyFrom_6_87 291 b := by
  unfold R_X9_copyFrom_6_87; omega
theorem nr_X9_copyFrom_6_87__293 (b : Int) : ¬ R_X9_copyFrom_6_87 293 b := by
  unfold R_X9_copyFrom_6_87; omega
theorem nr_X9_copyFrom_6_87__295 (b : Int) : ¬ R_X9_copyFrom_6_87 295 b := by
  unfold R_X9_copyFrom_6_87; omega
theorem nr_X9_copyFrom_6_100__260 (b : Int) : ¬ R_X9_copyFrom_6_100 260 b := by
  unfold R_X9_copyFrom_6_100; omega
theorem nr_X9_copyFrom_6_100__262 (b : Int) : ¬ R_X9_copyFrom_6_100 262 b := by
  unfold R_X9_copyFrom_6_100; omega
theorem nr_X9_copyFrom_6_100__264 (b : Int) : ¬ R_X9_copyFrom_6_100 264 b := by
  unfold R_X9_copyFrom_6_100; omega
theorem nr_X9_copyFrom_6_100__266 (b : Int) : ¬ R_X9_copyFrom_6_100 266 b := by
  unfold R_X9_copyFrom_6_100; omega
theorem nr_X9_copyFrom_6_100__268 (b : Int) : ¬ R_X9_copyFrom_6_100 268 b := by
  unfold R_X9_copyFrom_6_100; omega
theorem nr_X9_copyFrom_6_100__270 (b : Int) : ¬ R_X9_copyFrom_6_100 270 b := by
  unfold R_X9_copyFrom_6_100; omega
theorem nr_X9_copyFrom_6_100__272 (b : Int) : ¬ R_X9_copyFrom_6_100 272 b := by
  unfold R_X9_copyFrom_6_100; omega
theorem nr_X9_copyFrom_6_100__274 (b : Int) : ¬ R_X9_copyFrom_6_100 274 b := by
  unfold R_X9_copyFrom_6_100; omega
theorem nr_X9_copyFrom_6_100__276 (b : Int) : ¬ R_X9_copyFrom_6_100 276 b := by
  unfold R_X9_copyFrom_6_100; omega
theorem nr_X9_copyFrom_6_100__278 (b : Int) : ¬ R_X9_copyFrom_6_100 278 b := by
  unfold R_X9_copyFrom_6_100; omega
theorem nr_X9_copyFrom_6_100__281 (b : Int) : ¬ R_X9_copyFrom_6_100 281 b := by
  unfold R_X9_copyFrom_6_100; omega
theorem nr_X9_copyFrom_6_100__283 (b : Int) : ¬ R_X9_copyFrom_6_100 283 b := by
  unfold R_X9_copyFrom_6_100; omega
theorem nr_X9_copyFrom_6_100__285 (b : Int) : ¬ R_X9_copyFrom_6_100 285 b := by
  unfold R_X9_copyFrom_6_100; omega
theorem nr_X9_copyFrom_6_100__287 (b : Int) : ¬ R_X9_copyFrom_6_100 287 b := by
  unfold R_X9_copyFrom_6_100; omega
theorem nr_X9_copyFrom_6_100__289 (b : Int) : ¬ R_X9_copyFrom_6_100 289 b := by
  unfold R_X9_copyFrom_6_100; omega
theorem nr_X9_copyFrom_6_100__291 (b : Int) : ¬ R_X9_copyFrom_6_100 291 b := by
  unfold R_X9_copyFrom_6_100; omega
theorem nr_X9_copyFrom_6_100__293 (b : Int) : ¬ R_X9_copyFrom_6_100 293 b := by
  unfold R_X9_copyFrom_6_100; omega
theorem nr_X9_copyFrom_6_100__295 (b : Int) : ¬ R_X9_copyFrom_6_100 295 b := by
  unfold R_X9_copyFrom_6_100; omega
theorem nr_X9_copyFrom_6_113__260 (b : Int) : ¬ R_X9_copyFrom_6_113 260 b := by
  unfold R_X9_copyFrom_6_113; omega
theorem nr_X9_copyFrom_6_113__262 (b : Int) : ¬ R_X9_copyFrom_6_113 262 b := by
  unfold R_X9_copyFrom_6_113; omega
theorem nr_X9_copyFrom_6_113__264 (b : Int) : ¬ R_X9_copyFrom_6_113 264 b := by
  unfold R_X9_copyFrom_6_113; omega
theorem nr_X9_copyFrom_6_113__266 (b : Int) : ¬ R_X9_copyFrom_6_113 266 b := by
  unfold R_X9_copyFrom_6_113; omega
theorem nr_X9_copyFrom_6_113__268 (b : Int) : ¬ R_X9_copyFrom_6_113 268 b := by
  unfold R_X9_copyFrom_6_113; omega
theorem nr_X9_copyFrom_6_113__270 (b : Int) : ¬ R_X9_copyFrom_6_113 270 b := by
  unfold R_X9_copyFrom_6_113; omega
theorem nr_X9_copyFrom_6_113__272 (b : Int) : ¬ R_X9_copyFrom_6_113 272 b := by
  unfold R_X9_copyFrom_6_113; omega
theorem nr_X9_copyFrom_6_113__274 (b : Int) : ¬ R_X9_copyFrom_6_113 274 b := by
  unfold R_X9_copyFrom_6_113; omega
theorem nr_X9_copyFrom_6_113__276 (b : Int) : ¬ R_X9_copyFrom_6_113 276 b := by
  unfold R_X9_copyFrom_6_113; omega
theorem nr_X9_copyFrom_6_113__278 (b : Int) : ¬ R_X9_copyFrom_6_113 278 b := by
  unfold R_X9_copyFrom_6_113; omega
theorem nr_X9_copyFrom_6_113__281 (b : Int) : ¬ R_X9_copyFrom_6_113 281 b := by
  unfold R_X9_copyFrom_6_113; omega
theorem nr_X9_copyFrom_6_113__283 (b : Int) : ¬ R_X9_copyFrom_6_113 283 b := by
  unfold R_X9_copyFrom_6_113; omega
theorem nr_X9_copyFrom_6_113__285 (b : Int) : ¬ R_X9_copyFrom_6_113 285 b := by
  unfold R_X9_copyFrom_6_113; omega
theorem nr_X9_copyFrom_6_113__287 (b : Int) : ¬ R_X9_copyFrom_6_113 287 b := by
  unfold R_X9_copyFrom_6_113; omega
theorem nr_X9_copyFrom_6_113__289 (b : Int) : ¬ R_X9_copyFrom_6_113 289 b := by
  unfold R_X9_copyFrom_6_113; omega
theorem nr_X9_copyFrom_6_113__291 (b : Int) : ¬ R_X9_copyFrom_6_113 291 b := by
  unfold R_X9_copyFrom_6_113; omega
theorem nr_X9_copyFrom_6_113__293 (b : Int) : ¬ R_X9_copyFrom_6_113 293 b := by
  unfold R_X9_copyFrom_6_113; omega
theorem nr_X9_copyFrom_6_113__295 (b : Int) : ¬ R_X9_copyFrom_6_113 295 b := by
  unfold R_X9_copyFrom_6_113; omega
theorem nr_X9_copyFrom_6_126__260 (b : Int) : ¬ R_X9_copyFrom_6_126 260 b := by
  unfold R_X9_copyFrom_6_126; omega
theorem nr_X9_copyFrom_6_126__262 (b : Int) : ¬ R_X9_copyFrom_6_126 262 b := by
  unfold R_X9_copyFrom_6_126; omega
theorem nr_X9_copyFrom_6_126__264 (b : Int) : ¬ R_X9_copyFrom_6_126 264 b := by
  unfold R_X9_copyFrom_6_126; omega
theorem nr_X9_copyFrom_6_126__266 (b : Int) : ¬ R_X9_copyFrom_6_126 266 b := by
  unfold R_X9_copyFrom_6_126; omega
theorem nr_X9_copyFrom_6_126__268 (b : Int) : ¬ R_X9_copyFrom_6_126 268 b := by
  unfold R_X9_copyFrom_6_126; omega
theorem nr_X9_copyFrom_6_126__270 (b : Int) : ¬ R_X9_copyFrom_6_126 270 b := by
  unfold R_X9_copyFrom_6_126; omega
theorem nr_X9_copyFrom_6_126__272 (b : Int) : ¬ R_X9_copyFrom_6_126 272 b := by
  unfold R_X9_copyFrom_6_126; omega
theorem nr_X9_copyFrom_6_126__274 (b : Int) : ¬ R_X9_copyFrom_6_126 274 b := by
  unfold R_X9_copyFrom_6_126; omega
theorem nr_X9_copyFrom_6_126__276 (b : Int) : ¬ R_X9_copyFrom_6_126 276 b := by
  unfold R_X9_copyFrom_6_126; omega
theorem nr_X9_copyFrom_6_126__278 (b : Int) : ¬ R_X9_copyFrom_6_126 278 b := by
  unfold R_X9_copyFrom_6_126; omega
theorem nr_X9_copyFrom_6_126__281 (b : Int) : ¬ R_X9_copyFrom_6_126 281 b := by
  unfold R_X9_copyFrom_6_126; omega
theorem nr_X9_copyFrom_6_126__283 (b : Int) : ¬ R_X9_copyFrom_6_126 283 b := by
  unfold R_X9_copyFrom_6_126; omega
theorem nr_X9_copyFrom_6_126__285 (b : Int) : ¬ R_X9_copyFrom_6_126 285 b := by
  unfold R_X9_copyFrom_6_126; omega
theorem nr_X9_copyFrom_6_126__287 (b : Int) : ¬ R_X9_copyFrom_6_126 287 b := by
  unfold R_X9_copyFrom_6_126; omega
theorem nr_X9_copyFrom_6_126__289 (b : Int) : ¬ R_X9_copyFrom_6_126 289 b := by
  unfold R_X9_copyFrom_6_126; omega
theorem nr_X9_copyFrom_6_126__291 (b : Int) : ¬ R_X9_copyFrom_6_126 291 b := by
  unfold R_X9_copyFrom_6_126; omega
theorem nr_X9_copyFrom_6_126__293 (b : Int) : ¬ R_X9_copyFrom_6_126 293 b := by
  unfold R_X9_copyFrom_6_126; omega
theorem nr_X9_copyFrom_6_126__295 (b : Int) : ¬ R_X9_copyFrom_6_126 295 b := by
  unfold R_X9_copyFrom_6_126; omega
theorem nr_X9_copyFrom_6_139__260 (b : Int) : ¬ R_X9_copyFrom_6_139 260 b := by
  unfold R_X9_copyFrom_6_139; omega
theorem nr_X9_copyFrom_6_139__262 (b : Int) : ¬ R_X9_copyFrom_6_139 262 b := by
  unfold R_X9_copyFrom_6_139; omega
theorem nr_X9_copyFrom_6_139__264 (b : Int) : ¬ R_X9_copyFrom_6_139 264 b := by
  unfold R_X9_copyFrom_6_139; omega
theorem nr_X9_copyFrom_6_139__266 (b : Int) : ¬ R_X9_copyFrom_6_139 266 b := by
  unfold R_X9_copyFrom_6_139; omega
theorem nr_X9_copyFrom_6_139__268 (b : Int) : ¬ R_X9_copyFrom_6_139 268 b := by
  unfold R_X9_copyFrom_6_139; omega
theorem nr_X9_copyFrom_6_139__270 (b : Int) : ¬ R_X9_copyFrom_6_139 270 b := by
  unfold R_X9_copyFrom_6_139; omega
theorem nr_X9_copyFrom_6_139__272 (b : Int) : ¬ R_X9_copyFrom_6_139 272 b := by
  unfold R_X9_copyFrom_6_139; omega
theorem nr_X9_copyFrom_6_139__274 (b : Int) : ¬ R_X9_copyFrom_6_139 274 b := by
  unfold R_X9_copyFrom_6_139; omega
theorem nr_X9_copyFrom_6_139__276 (b : Int) : ¬ R_X9_copyFrom_6_139 276 b := by
  unfold R_X9_copyFrom_6_139; omega
theorem nr_X9_copyFrom_6_139__278 (b : Int) : ¬ R_X9_copyFrom_6_139 278 b := by
  unfold R_X9_copyFrom_6_139; omega
theorem nr_X9_copyFrom_6_139__281 (b : Int) : ¬ R_X9_copyFrom_6_139 281 b := by
  unfold R_X9_copyFrom_6_139; omega
theorem nr_X9_copyFrom_6_139__283 (b : Int) : ¬ R_X9_copyFrom_6_139 283 b := by
  unfold R_X9_copyFrom_6_139; omega
theorem nr_X9_copyFrom_6_139__285 (b : Int) : ¬ R_X9_copyFrom_6_139 285 b := by
  unfold R_X9_copyFrom_6_139; omega
theorem nr_X9_copyFrom_6_139__287 (b : Int) : ¬ R_X9_copyFrom_6_139 287 b := by
  unfold R_X9_copyFrom_6_139; omega
theorem nr_X9_copyFrom_6_139__289 (b : Int) : ¬ R_X9_copyFrom_6_139 289 b := by
  unfold R_X9_copyFrom_6_139; omega
theorem nr_X9_copyFrom_6_139__291 (b : Int) : ¬ R_X9_copyFrom_6_139 291 b := by
  unfold R_X9_copyFrom_6_139; omega
theorem nr_X9_copyFrom_6_139__293 (b : Int) : ¬ R_X9_copyFrom_6_139 293 b := by
  unfold R_X9_copyFrom_6_139; omega
theorem nr_X9_copyFrom_6_139__295 (b : Int) : ¬ R_X9_copyFrom_6_139 295 b := by
  unfold R_X9_copyFrom_6_139; omega
theorem nr_X9_copyFrom_6_152__260 (b : Int) : ¬ R_X9_copyFrom_6_152 260 b := by
  unfold R_X9_copyFrom_6_152; omega
theorem nr_X9_copyFrom_6_152__262 (b : Int) : ¬ R_X9_copyFrom_6_152 262 b := by
  unfold R_X9_copyFrom_6_152; omega
theorem nr_X9_copyFrom_6_152__264 (b : Int) : ¬ R_X9_copyFrom_6_152 264 b := by
  unfold R_X9_copyFrom_6_152; omega
theorem nr_X9_copyFrom_6_152__266 (b : Int) : ¬ R_X9_copyFrom_6_152 266 b := by
  unfold R_X9_copyFrom_6_152; omega
theorem nr_X9_copyFrom_6_152__268 (b : Int) : ¬ R_X9_copyFrom_6_152 268 b := by
  unfold R_X9_copyFrom_6_152; omega
theorem nr_X9_copyFrom_6_152__270 (b : Int) : ¬ R_X9_copyFrom_6_152 270 b := by
  unfold R_X9_copyFrom_6_152; omega
theorem nr_X9_copyFrom_6_152__272 (b : Int) : ¬ R_X9_copyFrom_6_152 272 b := by
  unfold R_X9_copyFrom_6_152; omega
theorem nr_X9_copyFrom_6_152__274 (b : Int) : ¬ R_X9_copyFrom_6_152 274 b := by
  unfold R_X9_copyFrom_6_152; omega
theorem nr_X9_copyFrom_6_152__276 (b : Int) : ¬ R_X9_copyFrom_6_152 276 b := by
  unfold R_X9_copyFrom_6_152; omega
theorem nr_X9_copyFrom_6_152__278 (b : Int) : ¬ R_X9_copyFrom_6_152 278 b := by
  unfold R_X9_copyFrom_6_152; omega
theorem nr_X9_copyFrom_6_152__281 (b : Int) : ¬ R_X9_copyFrom_6_152 281 b := by
  unfold R_X9_copyFrom_6_152; omega
theorem nr_X9_copyFrom_6_152__283 (b : Int) : ¬ R_X9_copyFrom_6_152 283 b := by
  unfold R_X9_copyFrom_6_152; omega
theorem nr_X9_copyFrom_6_152__285 (b : Int) : ¬ R_X9_copyFrom_6_152 285 b := by
  unfold R_X9_copyFrom_6_152; omega
theorem nr_X9_copyFrom_6_152__287 (b : Int) : ¬ R_X9_copyFrom_6_152 287 b := by
  unfold R_X9_copyFrom_6_152; omega
theorem nr_X9_copyFrom_6_152__289 (b : Int) : ¬ R_X9_copyFrom_6_152 289 b := by
  unfold R_X9_copyFrom_6_152; omega
theorem nr_X9_copyFrom_6_152__291 (b : Int) : ¬ R_X9_copyFrom_6_152 291 b := by
  unfold R_X9_copyFrom_6_152; omega
theorem nr_X9_copyFrom_6_152__293 (b : Int) : ¬ R_X9_copyFrom_6_152 293 b := by
  unfold R_X9_copyFrom_6_152; omega
theorem nr_X9_copyFrom_6_152__295 (b : Int) : ¬ R_X9_copyFrom_6_152 295 b := by
  unfold R_X9_copyFrom_6_152; omega
theorem nr_X9_copyFrom_6_165__260 (b : Int) : ¬ R_X9_copyFrom_6_165 260 b := by
  unfold R_X9_copyFrom_6_165; omega
theorem nr_X9_copyFrom_6_165__262 (b : Int) : ¬ R_X9_copyFrom_6_165 262 b := by
  unfold R_X9_copyFrom_6_165; omega
theorem nr_X9_copyFrom_6_165__264 (b : Int) : ¬ R_X9_copyFrom_6_165 264 b := by
  unfold R_X9_copyFrom_6_165; omega
theorem nr_X9_copyFrom_6_165__266 (b : Int) : ¬ R_X9_copyFrom_6_165 266 b := by
  unfold R_X9_copyFrom_6_165; omega
theorem nr_X9_copyFrom_6_165__268 (b : Int) : ¬ R_X9_copyFrom_6_165 268 b := by
  unfold R_X9_copyFrom_6_165; omega
theorem nr_X9_copyFrom_6_165__270 (b : Int) : ¬ R_X9_copyFrom_6_165 270 b := by
  unfold R_X9_copyFrom_6_165; omega
theorem nr_X9_copyFrom_6_165__272 (b : Int) : ¬ R_X9_copyFrom_6_165 272 b := by
  unfold R_X9_copyFrom_6_165; omega
theorem nr_X9_copyFrom_6_165__274 (b : Int) : ¬ R_X9_copyFrom_6_165 274 b := by
  unfold R_X9_copyFrom_6_165; omega
theorem nr_X9_copyFrom_6_165__276 (b : Int) : ¬ R_X9_copyFrom_6_165 276 b := by
  unfold R_X9_copyFrom_6_165; omega
theorem nr_X9_copyFrom_6_165__278 (b : Int) : ¬ R_X9_copyFrom_6_165 278 b := by
  unfold R_X9_copyFrom_6_165; omega
theorem nr_X9_copyFrom_6_165__281 (b : Int) : ¬ R_X9_copyFrom_6_165 281 b := by
  unfold R_X9_copyFrom_6_165; omega
theorem nr_X9_copyFrom_6_165__283 (b : Int) : ¬ R_X9_copyFrom_6_165 283 b := by
  unfold R_X9_copyFrom_6_165; omega
theorem nr_X9_copyFrom_6_165__285 (b : Int) : ¬ R_X9_copyFrom_6_165 285 b := by
  unfold R_X9_copyFrom_6_165; omega
theorem nr_X9_copyFrom_6_165__287 (b : Int) : ¬ R_X9_copyFrom_6_165 287 b := by
  unfold R_X9_copyFrom_6_165; omega
theorem nr_X9_copyFrom_6_165__289 (b : Int) : ¬ R_X9_copyFrom_6_165 289 b := by
  unfold R_X9_copyFrom_6_165; omega
theorem nr_X9_copyFrom_6_165__291 (b : Int) : ¬ R_X9_copyFrom_6_165 291 b := by
  unfold R_X9_copyFrom_6_165; omega
theorem nr_X9_copyFrom_6_165__293 (b : Int) : ¬ R_X9_copyFrom_6_165 293 b := by
  unfold R_X9_copyFrom_6_165; omega
theorem nr_X9_copyFrom_6_165__295 (b : Int) : ¬ R_X9_copyFrom_6_165 295 b := by
  unfold R_X9_copyFrom_6_165; omega
theorem nr_X9_copyFrom_6_178__260 (b : Int) : ¬ R_X9_copyFrom_6_178 260 b := by
  unfold R_X9_copyFrom_6_178; omega
theorem nr_X9_copyFrom_6_178__262 (b : Int) : ¬ R_X9_copyFrom_6_178 262 b := by
  unfold R_X9_copyFrom_6_178; omega
theorem nr_X9_copyFrom_6_178__264 (b : Int) : ¬ R_X9_copyFrom_6_178 264 b := by
  unfold R_X9_copyFrom_6_178; omega
theorem nr_X9_copyFrom_6_178__266 (b : Int) : ¬ R_X9_copyFrom_6_178 266 b := by
  unfold R_X9_copyFrom_6_178; omega
theorem nr_X9_copyFrom_6_178__268 (b : Int) : ¬ R_X9_copyFrom_6_178 268 b := by
  unfold R_X9_copyFrom_6_178; omega
theorem nr_X9_copyFrom_6_178__270 (b : Int) : ¬ R_X9_copyFrom_6_178 270 b := by
  unfold R_X9_copyFrom_6_178; omega
theorem nr_X9_copyFrom_6_178__272 (b : Int) : ¬ R_X9_copyFrom_6_178 272 b := by
  unfold R_X9_copyFrom_6_178; omega
theorem nr_X9_copyFrom_6_178__274 (b : Int) : ¬ R_X9_copyFrom_6_178 274 b := by
  unfold R_X9_copyFrom_6_178; omega
theorem nr_X9_copyFrom_6_178__276 (b : Int) : ¬ R_X9_copyFrom_6_178 276 b := by
  unfold R_X9_copyFrom_6_178; omega
theorem nr_X9_copyFrom_6_178__278 (b : Int) : ¬ R_X9_copyFrom_6_178 278 b := by
  unfold R_X9_copyFrom_6_178; omega
theorem nr_X9_copyFrom_6_178__281 (b : Int) : ¬ R_X9_copyFrom_6_178 281 b := by
  unfold R_X9_copyFrom_6_178; omega
theorem nr_X9_copyFrom_6_178__283 (b : Int) : ¬ R_X9_copyFrom_6_178 283 b := by
  unfold R_X9_copyFrom_6_178; omega
theorem nr_X9_copyFrom_6_178__285 (b : Int) : ¬ R_X9_copyFrom_6_178 285 b := by
  unfold R_X9_copyFrom_6_178; omega
theorem nr_X9_copyFrom_6_178__287 (b : Int) : ¬ R_X9_copyFrom_6_178 287 b := by
  unfold R_X9_copyFrom_6_178; omega
theorem nr_X9_copyFrom_6_178__289 (b : Int) : ¬ R_X9_copyFrom_6_178 289 b := by
  unfold R_X9_copyFrom_6_178; omega
theorem nr_X9_copyFrom_6_178__291 (b : Int) : ¬ R_X9_copyFrom_6_178 291 b := by
  unfold R_X9_copyFrom_6_178; omega
theorem nr_X9_copyFrom_6_178__293 (b : Int) : ¬ R_X9_copyFrom_6_178 293 b := by
  unfold R_X9_copyFrom_6_178; omega
theorem nr_X9_copyFrom_6_178__295 (b : Int) : ¬ R_X9_copyFrom_6_178 295 b := by
  unfold R_X9_copyFrom_6_178; omega
set_option maxHeartbeats 4000000 in
theorem sf_X11_undo_1Y {fu : Nat} (hfu : 8589934592 ≤ fu) (r0 : z_M) (c0 : z_CI r0) (p0 : y_V3 r0) (p1 : y_Y4 r0) : z_T (fX11_undo fu r0 1) (P_X11_undo_1Y r0) := by
  refine T_of (fX11_undo.eq_1 ..) ?_
  refine T_if1 (by decide +kernel) ?_
  refine T_let 33 (by decide +kernel) ?_
  refine T_if1 (by decide +kernel) ?_
  refine T_let 6 (by decide +kernel) ?_
  refine T_if1 (by decide +kernel) ?_
  refine T_bI ?_
  refine T_of (fX2_takeBack.eq_1 ..) ?_
  refine T_if1 (by decide +kernel) ?_
  refine T_leq (fun x1 e2 => ?_)
  have u3 := CI_b c0 (k := 33) (j := 2) bd_33_2
  refine T_ite (fun h4 => ?_) (fun h4 => ?_)
  · refine T_if1 (by decide +kernel) ?_
    refine T_leq (fun x5 e6 => ?_)
    have u7 := CI_b c0 (k := 33) (j := 2) bd_33_2
    refine T_leq (fun x8 e9 => ?_)
    have w10 := z_wb e9
    refine T_if1 (by decide +kernel) ?_
    refine T_upg c0 bd_33_2 (by omega) (fun s11 c12 g14 g15 e16 => ?_)
    have f13 := z_Fr.upf (R := R_X11_undo_1) z_Fr.rf g14 g15 (Or.inr (Or.inl (⟨by decide, by decide⟩)))
    have t17 : s11 33 1 = r0 33 1 := g15 1 (by decide)
    have t18 : s11 191 16 = r0 191 16 := g14 191 16 (by decide)
    have r19 := y_V3.fr p0 (g14 1 16 (by decide)) (g14 1 17 (by decide)) (g14 191 16 (by decide)) (g14 6 6 (by decide)) (g14 191 17 (by decide)) (g14 191 18 (by decide)) (fun b => g14 3 b (by decide)) (fun b => g14 8 b (by decide)) (fun b => g14 12 b (by decide)) (fun b => g14 14 b (by decide)) (fun b => g14 16 b (by decide)) (fun b => g14 18 b (by decide)) (fun b => g14 193 b (by decide)) (fun b => g14 195 b (by decide)) (fun b => g14 197 b (by decide)) (fun b => g14 199 b (by decide)) (fun b => g14 201 b (by decide)) (fun b => g14 203 b (by decide)) (fun b => g14 205 b (by decide)) (fun b => g14 207 b (by decide)) (fun b => g14 209 b (by decide)) (fun b => g14 211 b (by decide)) (fun b => g14 213 b (by decide)) (fun b => g14 215 b (by decide)) (fun b => g14 217 b (by decide)) (fun b => g14 219 b (by decide)) (fun b => g14 222 b (by decide)) (g14 240 6 (by decide)) (fun b => g14 248 b (by decide))
    have r20 := y_Y4.fr p1 (g14 1 16 (by decide)) (g14 1 17 (by decide)) (g14 191 16 (by decide)) (g14 6 6 (by decide)) (g14 191 17 (by decide)) (g14 191 18 (by decide)) (fun b => g14 3 b (by decide)) (fun b => g14 8 b (by decide)) (fun b => g14 12 b (by decide)) (fun b => g14 14 b (by decide)) (fun b => g14 16 b (by decide)) (fun b => g14 18 b (by decide)) (fun b => g14 193 b (by decide)) (fun b => g14 195 b (by decide)) (fun b => g14 197 b (by decide)) (fun b => g14 199 b (by decide)) (fun b => g14 201 b (by decide)) (fun b => g14 203 b (by decide)) (fun b => g14 205 b (by decide)) (fun b => g14 207 b (by decide)) (fun b => g14 209 b (by decide)) (fun b => g14 211 b (by decide)) (fun b => g14 213 b (by decide)) (fun b => g14 215 b (by decide)) (fun b => g14 217 b (by decide)) (fun b => g14 219 b (by decide)) (g14 240 6 (by decide)) (fun b => g14 248 b (by decide)) (fun b => g14 260 b (by decide)) (fun b => g14 262 b (by decide)) (fun b => g14 264 b (by decide)) (fun b => g14 266 b (by decide)) (fun b => g14 268 b (by decide)) (fun b => g14 270 b (by decide)) (fun b => g14 272 b (by decide)) (fun b => g14 274 b (by decide)) (fun b => g14 276 b (by decide)) (fun b => g14 278 b (by decide)) (g14 279 9 (by decide)) (fun b => g14 281 b (by decide)) (fun b => g14 283 b (by decide)) (fun b => g14 285 b (by decide)) (fun b => g14 287 b (by decide)) (fun b => g14 289 b (by decide)) (fun b => g14 291 b (by decide)) (fun b => g14 293 b (by decide)) (fun b => g14 295 b (by decide))
    have r21 := y_B0.fr p0.1.1 (g14 211 0 (by decide)) (g14 213 0 (by decide))
    refine T_if1 (by decide +kernel) ?_
    refine T_leq (fun x22 e23 => ?_)
    have u24 := CI_b c12 (k := 33) (j := 1) bd_33_1
    refine T_ite (fun h25 => ?_) (fun h25 => ?_)
    · refine T_of (fX2_takeBack_J38.eq_1 ..) ?_
      refine T_if1 (by decide +kernel) ?_
      refine T_upg c12 bd_33_1 (by omega) (fun s26 c27 g29 g30 e31 => ?_)
      have f28 := z_Fr.upf (R := R_X11_undo_1) f13 g29 g30 (Or.inr (Or.inl (⟨by decide, by decide⟩)))
      have t32 : s26 33 2 = s11 33 2 := g30 2 (by decide)
      have t33 : s26 191 16 = s11 191 16 := g29 191 16 (by decide)
      have r34 := y_V3.fr r19 (g29 1 16 (by decide)) (g29 1 17 (by decide)) (g29 191 16 (by decide)) (g29 6 6 (by decide)) (g29 191 17 (by decide)) (g29 191 18 (by decide)) (fun b => g29 3 b (by decide)) (fun b => g29 8 b (by decide)) (fun b => g29 12 b (by decide)) (fun b => g29 14 b (by decide)) (fun b => g29 16 b (by decide)) (fun b => g29 18 b (by decide)) (fun b => g29 193 b (by decide)) (fun b => g29 195 b (by decide)) (fun b => g29 197 b (by decide)) (fun b => g29 199 b (by decide)) (fun b => g29 201 b (by decide)) (fun b => g29 203 b (by decide)) (fun b => g29 205 b (by decide)) (fun b => g29 207 b (by decide)) (fun b => g29 209 b (by decide)) (fun b => g29 211 b (by decide)) (fun b => g29 213 b (by decide)) (fun b => g29 215 b (by decide)) (fun b => g29 217 b (by decide)) (fun b => g29 219 b (by decide)) (fun b => g29 222 b (by decide)) (g29 240 6 (by decide)) (fun b => g29 248 b (by decide))
      have r35 := y_Y4.fr r20 (g29 1 16 (by decide)) (g29 1 17 (by decide)) (g29 191 16 (by decide)) (g29 6 6 (by decide)) (g29 191 17 (by decide)) (g29 191 18 (by decide)) (fun b => g29 3 b (by decide)) (fun b => g29 8 b (by decide)) (fun b => g29 12 b (by decide)) (fun b => g29 14 b (by decide)) (fun b => g29 16 b (by decide)) (fun b => g29 18 b (by decide)) (fun b => g29 193 b (by decide)) (fun b => g29 195 b (by decide)) (fun b => g29 197 b (by decide)) (fun b => g29 199 b (by decide)) (fun b => g29 201 b (by decide)) (fun b => g29 203 b (by decide)) (fun b => g29 205 b (by decide)) (fun b => g29 207 b (by decide)) (fun b => g29 209 b (by decide)) (fun b => g29 211 b (by decide)) (fun b => g29 213 b (by decide)) (fun b => g29 215 b (by decide)) (fun b => g29 217 b (by decide)) (fun b => g29 219 b (by decide)) (g29 240 6 (by decide)) (fun b => g29 248 b (by decide)) (fun b => g29 260 b (by decide)) (fun b => g29 262 b (by decide)) (fun b => g29 264 b (by decide)) (fun b => g29 266 b (by decide)) (fun b => g29 268 b (by decide)) (fun b => g29 270 b (by decide)) (fun b => g29 272 b (by decide)) (fun b => g29 274 b (by decide)) (fun b => g29 276 b (by decide)) (fun b => g29 278 b (by decide)) (g29 279 9 (by decide)) (fun b => g29 281 b (by decide)) (fun b => g29 283 b (by decide)) (fun b => g29 285 b (by decide)) (fun b => g29 287 b (by decide)) (fun b => g29 289 b (by decide)) (fun b => g29 291 b (by decide)) (fun b => g29 293 b (by decide)) (fun b => g29 295 b (by decide))
      have r36 := y_B0.fr r21 (g29 211 0 (by decide)) (g29 213 0 (by decide))
      refine T_if1 (by decide +kernel) ?_
      refine T_bR ?_
      refine T_of (fX2_place.eq_1 ..) ?_
      refine T_if1 (by decide +kernel) ?_
      refine T_leq (fun x37 e38 => ?_)
      have u39 := CI_b c27 (k := 33) (j := 1) bd_33_1
      refine T_ite (fun h40 => ?_) (fun h40 => ?_)
      · refine T_of (fX2_place_J31.eq_1 ..) ?_
        exfalso
        omega
      · refine T_if1 (by decide +kernel) ?_
        refine T_leq (fun x41 e42 => ?_)
        have u43 := CI_b c27 (k := 33) (j := 1) bd_33_1
        refine T_if1 (by decide +kernel) ?_
        refine T_let 34 (by decide +kernel) ?_
        refine T_if1 (by decide +kernel) ?_
        refine T_let 12 (by decide +kernel) ?_
        refine T_ite (fun h44 => ?_) (fun h44 => ?_)
        · refine T_of (fX2_place_J31.eq_1 ..) ?_
          exfalso
          omega
        · refine T_if1 (by decide +kernel) ?_
          refine T_let 34 (by decide +kernel) ?_
          refine T_if1 (by decide +kernel) ?_
          refine T_leq (fun x45 e46 => ?_)
          have u47 := CI_b c27 (k := 33) (j := 1) bd_33_1
          rcases (show x45 = 0 ∨ x45 = 1 ∨ x45 = 2 ∨ x45 = 3 ∨ x45 = 4 ∨ x45 = 5 ∨ x45 = 6 ∨ x45 = 7 ∨ x45 = 8 ∨ x45 = 9 ∨ x45 = 10 ∨ x45 = 11 by omega) with rfl | rfl | rfl | rfl | rfl | rfl | rfl | rfl | rfl | rfl | rfl | rfl
          · refine T_if1 (by decide +kernel) ?_
            refine T_let 35 (by decide +kernel) ?_
            refine T_of (fX2_place_J32.eq_1 ..) ?_
            refine T_rR ?_
            refine T_if1 (by decide) ?_
            refine T_if1 (by decide +kernel) ?_
            refine T_useN (sf_X9_copyFrom_6_35 hfu s26 c27) (fun v54 s49 hq => ?_)
            obtain ⟨c50, f51, rfl⟩ := hq
            refine T_vN ?_
            have f52 := z_Fr.tr (R := R_X11_undo_1) f28 f51 rs_X9_copyFrom_6_35__X11_undo_1
            have t57 : s49 33 1 = s26 33 1 := f51 33 1 (by decide)
            have t58 : s49 33 2 = s26 33 2 := f51 33 2 (by decide)
            have t59 : s49 191 16 = s26 191 16 := f51 191 16 (by decide)
            have r60 := y_B0.fr r36 (f51 211 0 (by decide)) (f51 213 0 (by decide))
            refine T_if1 (by unfold z_bl; omega) ?_
            refine T_rI ?_
            refine T_ite (fun h61 => ?_) (fun h61 => ?_)
            · refine T_if1 ⟨(by decide +kernel), by unfold z_bl; omega⟩ ?_
              refine T_upg c50 bd_1_16 (by omega) (fun s62 c63 g65 g66 e67 => ?_)
              have f64 := z_Fr.upf (R := R_X11_undo_1) f52 g65 g66 (Or.inr (Or.inr (Or.inr (Or.inr (Or.inr (Or.inr (Or.inr (Or.inr (Or.inr (Or.inl (⟨rfl, by decide⟩)))))))))))
              have t68 : s62 33 1 = s49 33 1 := g65 33 1 (by decide)
              have t69 : s62 33 2 = s49 33 2 := g65 33 2 (by decide)
              have t70 : s62 191 16 = s49 191 16 := g65 191 16 (by decide)
              have r71 := y_B0.fr r60 (g65 211 0 (by decide)) (g65 213 0 (by decide))
              refine T_if1 (by decide +kernel) ?_
              refine T_useN (sf_X11_refresh_1Y hfu s62 c63 (y_V3.z r71 (by omega)) (by first | exact y_Y4.z (by omega) | exact y_Y4.z7 (by omega))) (fun v77 s72 hq => ?_)
              obtain ⟨c73, f74, o78, o79, o80, rfl⟩ := hq
              refine T_vN ?_
              have f75 := z_Fr.tr (R := R_X11_undo_1) f64 f74 rs_X11_refresh_1__X11_undo_1
              have t83 : s72 33 1 = s62 33 1 := f74 33 1 (by decide)
              have t84 : s72 33 2 = s62 33 2 := f74 33 2 (by decide)
              have u85 := CI_b c73 (k := 191) (j := 16) bd_191_16
              refine T_if1 (by decide +kernel) ?_
              refine T_let 191 (by decide +kernel) ?_
              refine T_if1 (by decide +kernel) ?_
              refine T_leq (fun x86 e87 => ?_)
              have u88 := CI_b c73 (k := 191) (j := 16) bd_191_16
              exact T_ret ⟨c73, f75, (y_V3.u o78 (Or.inr o79)), (y_Y4.c o80), ⟨x86, rfl, by omega, by omega⟩⟩
            · exact T_ret ⟨c50, f52, (y_V3.z r60 (by omega)), (by first | exact y_Y4.z (by omega) | exact y_Y4.z7 (by omega)), ⟨(-1), rfl, by omega, by omega⟩⟩
          · refine T_if1 (by decide +kernel) ?_
            refine T_let 48 (by decide +kernel) ?_
            refine T_of (fX2_place_J32.eq_1 ..) ?_
            refine T_rR ?_
            refine T_if1 (by decide) ?_
            refine T_if1 (by decide +kernel) ?_
            refine T_useN (sf_X9_copyFrom_6_48 hfu s26 c27) (fun v94 s89 hq => ?_)
            obtain ⟨c90, f91, rfl⟩ := hq
            refine T_vN ?_
            have f92 := z_Fr.tr (R := R_X11_undo_1) f28 f91 rs_X9_copyFrom_6_48__X11_undo_1
            have t97 : s89 33 1 = s26 33 1 := f91 33 1 (by decide)
            have t98 : s89 33 2 = s26 33 2 := f91 33 2 (by decide)
            have t99 : s89 191 16 = s26 191 16 := f91 191 16 (by decide)
            have r100 := y_B0.fr r36 (f91 211 0 (by decide)) (f91 213 0 (by decide))
            refine T_if1 (by unfold z_bl; omega) ?_
            refine T_rI ?_
            refine T_ite (fun h101 => ?_) (fun h101 => ?_)
            · refine T_if1 ⟨(by decide +kernel), by unfold z_bl; omega⟩ ?_
              refine T_upg c90 bd_1_16 (by omega) (fun s102 c103 g105 g106 e107 => ?_)
              have f104 := z_Fr.upf (R := R_X11_undo_1) f92 g105 g106 (Or.inr (Or.inr (Or.inr (Or.inr (Or.inr (Or.inr (Or.inr (Or.inr (Or.inr (Or.inl (⟨rfl, by decide⟩)))))))))))
              have t108 : s102 33 1 = s89 33 1 := g105 33 1 (by decide)
              have t109 : s102 33 2 = s89 33 2 := g105 33 2 (by decide)
              have t110 : s102 191 16 = s89 191 16 := g105 191 16 (by decide)
              have r111 := y_B0.fr r100 (g105 211 0 (by decide)) (g105 213 0 (by decide))
              refine T_if1 (by decide +kernel) ?_
              refine T_useN (sf_X11_refresh_1Y hfu s102 c103 (y_V3.z r111 (by omega)) (by first | exact y_Y4.z (by omega) | exact y_Y4.z7 (by omega))) (fun v117 s112 hq => ?_)
              obtain ⟨c113, f114, o118, o119, o120, rfl⟩ := hq
              refine T_vN ?_
              have f115 := z_Fr.tr (R := R_X11_undo_1) f104 f114 rs_X11_refresh_1__X11_undo_1
              have t123 : s112 33 1 = s102 33 1 := f114 33 1 (by decide)
              have t124 : s112 33 2 = s102 33 2 := f114 33 2 (by decide)
              have u125 := CI_b c113 (k := 191) (j := 16) bd_191_16
              refine T_if1 (by decide +kernel) ?_
              refine T_let 191 (by decide +kernel) ?_
              refine T_if1 (by decide +kernel) ?_
              refine T_leq (fun x126 e127 => ?_)
              have u128 := CI_b c113 (k := 191) (j := 16) bd_191_16
              exact T_ret ⟨c113, f115, (y_V3.u o118 (Or.inr o119)), (y_Y4.c o120), ⟨x126, rfl, by omega, by omega⟩⟩
            · exact T_ret ⟨c90, f92, (y_V3.z r100 (by omega)), (by first | exact y_Y4.z (by omega) | exact y_Y4.z7 (by omega)), ⟨(-1), rfl, by omega, by omega⟩⟩
          · refine T_if1 (by decide +kernel) ?_
            refine T_let 61 (by decide +kernel) ?_
            refine T_of (fX2_place_J32.eq_1 ..) ?_
            refine T_rR ?_
            refine T_if1 (by decide) ?_
            refine T_if1 (by decide +kernel) ?_
            refine T_useN (sf_X9_copyFrom_6_61 hfu s26 c27) (fun v134 s129 hq => ?_)
            obtain ⟨c130, f131, rfl⟩ := hq
            refine T_vN ?_
            have f132 := z_Fr.tr (R := R_X11_undo_1) f28 f131 rs_X9_copyFrom_6_61__X11_undo_1
            have t137 : s129 33 1 = s26 33 1 := f131 33 1 (by decide)
            have t138 : s129 33 2 = s26 33 2 := f131 33 2 (by decide)
            have t139 : s129 191 16 = s26 191 16 := f131 191 16 (by decide)
            have r140 := y_B0.fr r36 (f131 211 0 (by decide)) (f131 213 0 (by decide))
            refine T_if1 (by unfold z_bl; omega) ?_
            refine T_rI ?_
            refine T_ite (fun h141 => ?_) (fun h141 => ?_)
            · refine T_if1 ⟨(by decide +kernel), by unfold z_bl; omega⟩ ?_
              refine T_upg c130 bd_1_16 (by omega) (fun s142 c143 g145 g146 e147 => ?_)
              have f144 := z_Fr.upf (R := R_X11_undo_1) f132 g145 g146 (Or.inr (Or.inr (Or.inr (Or.inr (Or.inr (Or.inr (Or.inr (Or.inr (Or.inr (Or.inl (⟨rfl, by decide⟩)))))))))))
              have t148 : s142 33 1 = s129 33 1 := g145 33 1 (by decide)
              have t149 : s142 33 2 = s129 33 2 := g145 33 2 (by decide)
              have t150 : s142 191 16 = s129 191 16 := g145 191 16 (by decide)
              have r151 := y_B0.fr r140 (g145 211 0 (by decide)) (g145 213 0 (by decide))
              refine T_if1 (by decide +kernel) ?_
              refine T_useN (sf_X11_refresh_1Y hfu s142 c143 (y_V3.z r151 (by omega)) (by first | exact y_Y4.z (by omega) | exact y_Y4.z7 (by omega))) (fun v157 s152 hq => ?_)
              obtain ⟨c153, f154, o158, o159, o160, rfl⟩ := hq
              refine T_vN ?_
              have f155 := z_Fr.tr (R := R_X11_undo_1) f144 f154 rs_X11_refresh_1__X11_undo_1
              have t163 : s152 33 1 = s142 33 1 := f154 33 1 (by decide)
              have t164 : s152 33 2 = s142 33 2 := f154 33 2 (by decide)
              have u165 := CI_b c153 (k := 191) (j := 16) bd_191_16
              refine T_if1 (by decide +kernel) ?_
              refine T_let 191 (by decide +kernel) ?_
              refine T_if1 (by decide +kernel) ?_
              refine T_leq (fun x166 e167 => ?_)
              have u168 := CI_b c153 (k := 191) (j := 16) bd_191_16
              exact T_ret ⟨c153, f155, (y_V3.u o158 (Or.inr o159)), (y_Y4.c o160), ⟨x166, rfl, by omega, by omega⟩⟩
            · exact T_ret ⟨c130, f132, (y_V3.z r140 (by omega)), (by first | exact y_Y4.z (by omega) | exact y_Y4.z7 (by omega)), ⟨(-1), rfl, by omega, by omega⟩⟩
          · refine T_if1 (by decide +kernel) ?_
            refine T_let 74 (by decide +kernel) ?_
            refine T_of (fX2_place_J32.eq_1 ..) ?_
            refine T_rR ?_
            refine T_if1 (by decide) ?_
            refine T_if1 (by decide +kernel) ?_
            refine T_useN (sf_X9_copyFrom_6_74 hfu s26 c27) (fun v174 s169 hq => ?_)
            obtain ⟨c170, f171, rfl⟩ := hq
            refine T_vN ?_
            have f172 := z_Fr.tr (R := R_X11_undo_1) f28 f171 rs_X9_copyFrom_6_74__X11_undo_1
            have t177 : s169 33 1 = s26 33 1 := f171 33 1 (by decide)
            have t178 : s169 33 2 = s26 33 2 := f171 33 2 (by decide)
            have t179 : s169 191 16 = s26 191 16 := f171 191 16 (by decide)
            have r180 := y_B0.fr r36 (f171 211 0 (by decide)) (f171 213 0 (by decide))
            refine T_if1 (by unfold z_bl; omega) ?_
            refine T_rI ?_
            refine T_ite (fun h181 => ?_) (fun h181 => ?_)
            · refine T_if1 ⟨(by decide +kernel), by unfold z_bl; omega⟩ ?_
              refine T_upg c170 bd_1_16 (by omega) (fun s182 c183 g185 g186 e187 => ?_)
              have f184 := z_Fr.upf (R := R_X11_undo_1) f172 g185 g186 (Or.inr (Or.inr (Or.inr (Or.inr (Or.inr (Or.inr (Or.inr (Or.inr (Or.inr (Or.inl (⟨rfl, by decide⟩)))))))))))
              have t188 : s182 33 1 = s169 33 1 := g185 33 1 (by decide)
              have t189 : s182 33 2 = s169 33 2 := g185 33 2 (by decide)
              have t190 : s182 191 16 = s169 191 16 := g185 191 16 (by decide)
              have r191 := y_B0.fr r180 (g185 211 0 (by decide)) (g185 213 0 (by decide))
              refine T_if1 (by decide +kernel) ?_
              refine T_useN (sf_X11_refresh_1Y hfu s182 c183 (y_V3.z r191 (by omega)) (by first | exact y_Y4.z (by omega) | exact y_Y4.z7 (by omega))) (fun v197 s192 hq => ?_)
              obtain ⟨c193, f194, o198, o199, o200, rfl⟩ := hq
              refine T_vN ?_
              have f195 := z_Fr.tr (R := R_X11_undo_1) f184 f194 rs_X11_refresh_1__X11_undo_1
              have t203 : s192 33 1 = s182 33 1 := f194 33 1 (by decide)
              have t204 : s192 33 2 = s182 33 2 := f194 33 2 (by decide)
              have u205 := CI_b c193 (k := 191) (j := 16) bd_191_16
              refine T_if1 (by decide +kernel) ?_
              refine T_let 191 (by decide +kernel) ?_
              refine T_if1 (by decide +kernel) ?_
              refine T_leq (fun x206 e207 => ?_)
              have u208 := CI_b c193 (k := 191) (j := 16) bd_191_16
              exact T_ret ⟨c193, f195, (y_V3.u o198 (Or.inr o199)), (y_Y4.c o200), ⟨x206, rfl, by omega, by omega⟩⟩
            · exact T_ret ⟨c170, f172, (y_V3.z r180 (by omega)), (by first | exact y_Y4.z (by omega) | exact y_Y4.z7 (by omega)), ⟨(-1), rfl, by omega, by omega⟩⟩
          · refine T_if1 (by decide +kernel) ?_
            refine T_let 87 (by decide +kernel) ?_
            refine T_of (fX2_place_J32.eq_1 ..) ?_
            refine T_rR ?_
            refine T_if1 (by decide) ?_
            refine T_if1 (by decide +kernel) ?_
            refine T_useN (sf_X9_copyFrom_6_87 hfu s26 c27) (fun v214 s209 hq => ?_)
            obtain ⟨c210, f211, rfl⟩ := hq
            refine T_vN ?_
            have f212 := z_Fr.tr (R := R_X11_undo_1) f28 f211 rs_X9_copyFrom_6_87__X11_undo_1
            have t217 : s209 33 1 = s26 33 1 := f211 33 1 (by decide)
            have t218 : s209 33 2 = s26 33 2 := f211 33 2 (by decide)
            have t219 : s209 191 16 = s26 191 16 := f211 191 16 (by decide)
            have r220 := y_B0.fr r36 (f211 211 0 (by decide)) (f211 213 0 (by decide))
            refine T_if1 (by unfold z_bl; omega) ?_
            refine T_rI ?_
            refine T_ite (fun h221 => ?_) (fun h221 => ?_)
            · refine T_if1 ⟨(by decide +kernel), by unfold z_bl; omega⟩ ?_
              refine T_upg c210 bd_1_16 (by omega) (fun s222 c223 g225 g226 e227 => ?_)
              have f224 := z_Fr.upf (R := R_X11_undo_1) f212 g225 g226 (Or.inr (Or.inr (Or.inr (Or.inr (Or.inr (Or.inr (Or.inr (Or.inr (Or.inr (Or.inl (⟨rfl, by decide⟩)))))))))))
              have t228 : s222 33 1 = s209 33 1 := g225 33 1 (by decide)
              have t229 : s222 33 2 = s209 33 2 := g225 33 2 (by decide)
              have t230 : s222 191 16 = s209 191 16 := g225 191 16 (by decide)
              have r231 := y_B0.fr r220 (g225 211 0 (by decide)) (g225 213 0 (by decide))
              refine T_if1 (by decide +kernel) ?_
              refine T_useN (sf_X11_refresh_1Y hfu s222 c223 (y_V3.z r231 (by omega)) (by first | exact y_Y4.z (by omega) | exact y_Y4.z7 (by omega))) (fun v237 s232 hq => ?_)
              obtain ⟨c233, f234, o238, o239, o240, rfl⟩ := hq
              refine T_vN ?_
              have f235 := z_Fr.tr (R := R_X11_undo_1) f224 f234 rs_X11_refresh_1__X11_undo_1
              have t243 : s232 33 1 = s222 33 1 := f234 33 1 (by decide)
              have t244 : s232 33 2 = s222 33 2 := f234 33 2 (by decide)
              have u245 := CI_b c233 (k := 191) (j := 16) bd_191_16
              refine T_if1 (by decide +kernel) ?_
              refine T_let 191 (by decide +kernel) ?_
              refine T_if1 (by decide +kernel) ?_
              refine T_leq (fun x246 e247 => ?_)
              have u248 := CI_b c233 (k := 191) (j := 16) bd_191_16
              exact T_ret ⟨c233, f235, (y_V3.u o238 (Or.inr o239)), (y_Y4.c o240), ⟨x246, rfl, by omega, by omega⟩⟩
            · exact T_ret ⟨c210, f212, (y_V3.z r220 (by omega)), (by first | exact y_Y4.z (by omega) | exact y_Y4.z7 (by omega)), ⟨(-1), rfl, by omega, by omega⟩⟩
          · refine T_if1 (by decide +kernel) ?_
            refine T_let 100 (by decide +kernel) ?_
            refine T_of (fX2_place_J32.eq_1 ..) ?_
            refine T_rR ?_
            refine T_if1 (by decide) ?_
            refine T_if1 (by decide +kernel) ?_
            refine T_useN (sf_X9_copyFrom_6_100 hfu s26 c27) (fun v254 s249 hq => ?_)
            obtain ⟨c250, f251, rfl⟩ := hq
            refine T_vN ?_
            have f252 := z_Fr.tr (R := R_X11_undo_1) f28 f251 rs_X9_copyFrom_6_100__X11_undo_1
            have t257 : s249 33 1 = s26 33 1 := f251 33 1 (by decide)
            have t258 : s249 33 2 = s26 33 2 := f251 33 2 (by decide)
            have t259 : s249 191 16 = s26 191 16 := f251 191 16 (by decide)
            have r260 := y_B0.fr r36 (f251 211 0 (by decide)) (f251 213 0 (by decide))
            refine T_if1 (by unfold z_bl; omega) ?_
            refine T_rI ?_
            refine T_ite (fun h261 => ?_) (fun h261 => ?_)
            · refine T_if1 ⟨(by decide +kernel), by unfold z_bl; omega⟩ ?_
              refine T_upg c250 bd_1_16 (by omega) (fun s262 c263 g265 g266 e267 => ?_)
              have f264 := z_Fr.upf (R := R_X11_undo_1) f252 g265 g266 (Or.inr (Or.inr (Or.inr (Or.inr (Or.inr (Or.inr (Or.inr (Or.inr (Or.inr (Or.inl (⟨rfl, by decide⟩)))))))))))
              have t268 : s262 33 1 = s249 33 1 := g265 33 1 (by decide)
              have t269 : s262 33 2 = s249 33 2 := g265 33 2 (by decide)
              have t270 : s262 191 16 = s249 191 16 := g265 191 16 (by decide)
              have r271 := y_B0.fr r260 (g265 211 0 (by decide)) (g265 213 0 (by decide))
              refine T_if1 (by decide +kernel) ?_
              refine T_useN (sf_X11_refresh_1Y hfu s262 c263 (y_V3.z r271 (by omega)) (by first | exact y_Y4.z (by omega) | exact y_Y4.z7 (by omega))) (fun v277 s272 hq => ?_)
              obtain ⟨c273, f274, o278, o279, o280, rfl⟩ := hq
              refine T_vN ?_
              have f275 := z_Fr.tr (R := R_X11_undo_1) f264 f274 rs_X11_refresh_1__X11_undo_1
              have t283 : s272 33 1 = s262 33 1 := f274 33 1 (by decide)
              have t284 : s272 33 2 = s262 33 2 := f274 33 2 (by decide)
              have u285 := CI_b c273 (k := 191) (j := 16) bd_191_16
              refine T_if1 (by decide +kernel) ?_
              refine T_let 191 (by decide +kernel) ?_
              refine T_if1 (by decide +kernel) ?_
              refine T_leq (fun x286 e287 => ?_)
              have u288 := CI_b c273 (k := 191) (j := 16) bd_191_16
              exact T_ret ⟨c273, f275, (y_V3.u o278 (Or.inr o279)), (y_Y4.c o280), ⟨x286, rfl, by omega, by omega⟩⟩
            · exact T_ret ⟨c250, f252, (y_V3.z r260 (by omega)), (by first | exact y_Y4.z (by omega) | exact y_Y4.z7 (by omega)), ⟨(-1), rfl, by omega, by omega⟩⟩
          · refine T_if1 (by decide +kernel) ?_
            refine T_let 113 (by decide +kernel) ?_
            refine T_of (fX2_place_J32.eq_1 ..) ?_
            refine T_rR ?_
            refine T_if1 (by decide) ?_
            refine T_if1 (by decide +kernel) ?_
            refine T_useN (sf_X9_copyFrom_6_113 hfu s26 c27) (fun v294 s289 hq => ?_)
            obtain ⟨c290, f291, rfl⟩ := hq
            refine T_vN ?_
            have f292 := z_Fr.tr (R := R_X11_undo_1) f28 f291 rs_X9_copyFrom_6_113__X11_undo_1
            have t297 : s289 33 1 = s26 33 1 := f291 33 1 (by decide)
            have t298 : s289 33 2 = s26 33 2 := f291 33 2 (by decide)
            have t299 : s289 191 16 = s26 191 16 := f291 191 16 (by decide)
            have r300 := y_B0.fr r36 (f291 211 0 (by decide)) (f291 213 0 (by decide))
            refine T_if1 (by unfold z_bl; omega) ?_
            refine T_rI ?_
            refine T_ite (fun h301 => ?_) (fun h301 => ?_)
            · refine T_if1 ⟨(by decide +kernel), by unfold z_bl; omega⟩ ?_
              refine T_upg c290 bd_1_16 (by omega) (fun s302 c303 g305 g306 e307 => ?_)
              have f304 := z_Fr.upf (R := R_X11_undo_1) f292 g305 g306 (Or.inr (Or.inr (Or.inr (Or.inr (Or.inr (Or.inr (Or.inr (Or.inr (Or.inr (Or.inl (⟨rfl, by decide⟩)))))))))))
              have t308 : s302 33 1 = s289 33 1 := g305 33 1 (by decide)
              have t309 : s302 33 2 = s289 33 2 := g305 33 2 (by decide)
              have t310 : s302 191 16 = s289 191 16 := g305 191 16 (by decide)
              have r311 := y_B0.fr r300 (g305 211 0 (by decide)) (g305 213 0 (by decide))
              refine T_if1 (by decide +kernel) ?_
              refine T_useN (sf_X11_refresh_1Y hfu s302 c303 (y_V3.z r311 (by omega)) (by first | exact y_Y4.z (by omega) | exact y_Y4.z7 (by omega))) (fun v317 s312 hq => ?_)
              obtain ⟨c313, f314, o318, o319, o320, rfl⟩ := hq
              refine T_vN ?_
              have f315 := z_Fr.tr (R := R_X11_undo_1) f304 f314 rs_X11_refresh_1__X11_undo_1
              have t323 : s312 33 1 = s302 33 1 := f314 33 1 (by decide)
              have t324 : s312 33 2 = s302 33 2 := f314 33 2 (by decide)
              have u325 := CI_b c313 (k := 191) (j := 16) bd_191_16
              refine T_if1 (by decide +kernel) ?_
              refine T_let 191 (by decide +kernel) ?_
              refine T_if1 (by decide +kernel) ?_
              refine T_leq (fun x326 e327 => ?_)
              have u328 := CI_b c313 (k := 191) (j := 16) bd_191_16
              exact T_ret ⟨c313, f315, (y_V3.u o318 (Or.inr o319)), (y_Y4.c o320), ⟨x326, rfl, by omega, by omega⟩⟩
            · exact T_ret ⟨c290, f292, (y_V3.z r300 (by omega)), (by first | exact y_Y4.z (by omega) | exact y_Y4.z7 (by omega)), ⟨(-1), rfl, by omega, by omega⟩⟩
          · refine T_if1 (by decide +kernel) ?_
            refine T_let 126 (by decide +kernel) ?_
            refine T_of (fX2_place_J32.eq_1 ..) ?_
            refine T_rR ?_
            refine T_if1 (by decide) ?_
            refine T_if1 (by decide +kernel) ?_
            refine T_useN (sf_X9_copyFrom_6_126 hfu s26 c27) (fun v334 s329 hq => ?_)
            obtain ⟨c330, f331, rfl⟩ := hq
            refine T_vN ?_
            have f332 := z_Fr.tr (R := R_X11_undo_1) f28 f331 rs_X9_copyFrom_6_126__X11_undo_1
            have t337 : s329 33 1 = s26 33 1 := f331 33 1 (by decide)
            have t338 : s329 33 2 = s26 33 2 := f331 33 2 (by decide)
            have t339 : s329 191 16 = s26 191 16 := f331 191 16 (by decide)
            have r340 := y_B0.fr r36 (f331 211 0 (by decide)) (f331 213 0 (by decide))
            refine T_if1 (by unfold z_bl; omega) ?_
            refine T_rI ?_
            refine T_ite (fun h341 => ?_) (fun h341 => ?_)
            · refine T_if1 ⟨(by decide +kernel), by unfold z_bl; omega⟩ ?_
              refine T_upg c330 bd_1_16 (by omega) (fun s342 c343 g345 g346 e347 => ?_)
              have f344 := z_Fr.upf (R := R_X11_undo_1) f332 g345 g346 (Or.inr (Or.inr (Or.inr (Or.inr (Or.inr (Or.inr (Or.inr (Or.inr (Or.inr (Or.inl (⟨rfl, by decide⟩)))))))))))
              have t348 : s342 33 1 = s329 33 1 := g345 33 1 (by decide)
              have t349 : s342 33 2 = s329 33 2 := g345 33 2 (by decide)
              have t350 : s342 191 16 = s329 191 16 := g345 191 16 (by decide)
              have r351 := y_B0.fr r340 (g345 211 0 (by decide)) (g345 213 0 (by decide))
              refine T_if1 (by decide +kernel) ?_
              refine T_useN (sf_X11_refresh_1Y hfu s342 c343 (y_V3.z r351 (by omega)) (by first | exact y_Y4.z (by omega) | exact y_Y4.z7 (by omega))) (fun v357 s352 hq => ?_)
              obtain ⟨c353, f354, o358, o359, o360, rfl⟩ := hq
              refine T_vN ?_
              have f355 := z_Fr.tr (R := R_X11_undo_1) f344 f354 rs_X11_refresh_1__X11_undo_1
              have t363 : s352 33 1 = s342 33 1 := f354 33 1 (by decide)
              have t364 : s352 33 2 = s342 33 2 := f354 33 2 (by decide)
              have u365 := CI_b c353 (k := 191) (j := 16) bd_191_16
              refine T_if1 (by decide +kernel) ?_
              refine T_let 191 (by decide +kernel) ?_
              refine T_if1 (by decide +kernel) ?_
              refine T_leq (fun x366 e367 => ?_)
              have u368 := CI_b c353 (k := 191) (j := 16) bd_191_16
              exact T_ret ⟨c353, f355, (y_V3.u o358 (Or.inr o359)), (y_Y4.c o360), ⟨x366, rfl, by omega, by omega⟩⟩
            · exact T_ret ⟨c330, f332, (y_V3.z r340 (by omega)), (by first | exact y_Y4.z (by omega) | exact y_Y4.z7 (by omega)), ⟨(-1), rfl, by omega, by omega⟩⟩
          · refine T_if1 (by decide +kernel) ?_
            refine T_let 139 (by decide +kernel) ?_
            refine T_of (fX2_place_J32.eq_1 ..) ?_
            refine T_rR ?_
            refine T_if1 (by decide) ?_
            refine T_if1 (by decide +kernel) ?_
            refine T_useN (sf_X9_copyFrom_6_139 hfu s26 c27) (fun v374 s369 hq => ?_)
            obtain ⟨c370, f371, rfl⟩ := hq
            refine T_vN ?_
            have f372 := z_Fr.tr (R := R_X11_undo_1) f28 f371 rs_X9_copyFrom_6_139__X11_undo_1
            have t377 : s369 33 1 = s26 33 1 := f371 33 1 (by decide)
            have t378 : s369 33 2 = s26 33 2 := f371 33 2 (by decide)
            have t379 : s369 191 16 = s26 191 16 := f371 191 16 (by decide)
            have r380 := y_B0.fr r36 (f371 211 0 (by decide)) (f371 213 0 (by decide))
            refine T_if1 (by unfold z_bl; omega) ?_
            refine T_rI ?_
            refine T_ite (fun h381 => ?_) (fun h381 => ?_)
            · refine T_if1 ⟨(by decide +kernel), by unfold z_bl; omega⟩ ?_
              refine T_upg c370 bd_1_16 (by omega) (fun s382 c383 g385 g386 e387 => ?_)
              have f384 := z_Fr.upf (R := R_X11_undo_1) f372 g385 g386 (Or.inr (Or.inr (Or.inr (Or.inr (Or.inr (Or.inr (Or.inr (Or.inr (Or.inr (Or.inl (⟨rfl, by decide⟩)))))))))))
              have t388 : s382 33 1 = s369 33 1 := g385 33 1 (by decide)
              have t389 : s382 33 2 = s369 33 2 := g385 33 2 (by decide)
              have t390 : s382 191 16 = s369 191 16 := g385 191 16 (by decide)
              have r391 := y_B0.fr r380 (g385 211 0 (by decide)) (g385 213 0 (by decide))
              refine T_if1 (by decide +kernel) ?_
              refine T_useN (sf_X11_refresh_1Y hfu s382 c383 (y_V3.z r391 (by omega)) (by first | exact y_Y4.z (by omega) | exact y_Y4.z7 (by omega))) (fun v397 s392 hq => ?_)
              obtain ⟨c393, f394, o398, o399, o400, rfl⟩ := hq
              refine T_vN ?_
              have f395 := z_Fr.tr (R := R_X11_undo_1) f384 f394 rs_X11_refresh_1__X11_undo_1
              have t403 : s392 33 1 = s382 33 1 := f394 33 1 (by decide)
              have t404 : s392 33 2 = s382 33 2 := f394 33 2 (by decide)
              have u405 := CI_b c393 (k := 191) (j := 16) bd_191_16
              refine T_if1 (by decide +kernel) ?_
              refine T_let 191 (by decide +kernel) ?_
              refine T_if1 (by decide +kernel) ?_
              refine T_leq (fun x406 e407 => ?_)
              have u408 := CI_b c393 (k := 191) (j := 16) bd_191_16
              exact T_ret ⟨c393, f395, (y_V3.u o398 (Or.inr o399)), (y_Y4.c o400), ⟨x406, rfl, by omega, by omega⟩⟩
            · exact T_ret ⟨c370, f372, (y_V3.z r380 (by omega)), (by first | exact y_Y4.z (by omega) | exact y_Y4.z7 (by omega)), ⟨(-1), rfl, by omega, by omega⟩⟩
          · refine T_if1 (by decide +kernel) ?_
            refine T_let 152 (by decide +kernel) ?_
            refine T_of (fX2_place_J32.eq_1 ..) ?_
            refine T_rR ?_
            refine T_if1 (by decide) ?_
            refine T_if1 (by decide +kernel) ?_
            refine T_useN (sf_X9_copyFrom_6_152 hfu s26 c27) (fun v414 s409 hq => ?_)
            obtain ⟨c410, f411, rfl⟩ := hq
            refine T_vN ?_
            have f412 := z_Fr.tr (R := R_X11_undo_1) f28 f411 rs_X9_copyFrom_6_152__X11_undo_1
            have t417 : s409 33 1 = s26 33 1 := f411 33 1 (by decide)
            have t418 : s409 33 2 = s26 33 2 := f411 33 2 (by decide)
            have t419 : s409 191 16 = s26 191 16 := f411 191 16 (by decide)
            have r420 := y_B0.fr r36 (f411 211 0 (by decide)) (f411 213 0 (by decide))
            refine T_if1 (by unfold z_bl; omega) ?_
            refine T_rI ?_
            refine T_ite (fun h421 => ?_) (fun h421 => ?_)
            · refine T_if1 ⟨(by decide +kernel), by unfold z_bl; omega⟩ ?_
              refine T_upg c410 bd_1_16 (by omega) (fun s422 c423 g425 g426 e427 => ?_)
              have f424 := z_Fr.upf (R := R_X11_undo_1) f412 g425 g426 (Or.inr (Or.inr (Or.inr (Or.inr (Or.inr (Or.inr (Or.inr (Or.inr (Or.inr (Or.inl (⟨rfl, by decide⟩)))))))))))
              have t428 : s422 33 1 = s409 33 1 := g425 33 1 (by decide)
              have t429 : s422 33 2 = s409 33 2 := g425 33 2 (by decide)
              have t430 : s422 191 16 = s409 191 16 := g425 191 16 (by decide)
              have r431 := y_B0.fr r420 (g425 211 0 (by decide)) (g425 213 0 (by decide))
              refine T_if1 (by decide +kernel) ?_
              refine T_useN (sf_X11_refresh_1Y hfu s422 c423 (y_V3.z r431 (by omega)) (by first | exact y_Y4.z (by omega) | exact y_Y4.z7 (by omega))) (fun v437 s432 hq => ?_)
              obtain ⟨c433, f434, o438, o439, o440, rfl⟩ := hq
              refine T_vN ?_
              have f435 := z_Fr.tr (R := R_X11_undo_1) f424 f434 rs_X11_refresh_1__X11_undo_1
              have t443 : s432 33 1 = s422 33 1 := f434 33 1 (by decide)
              have t444 : s432 33 2 = s422 33 2 := f434 33 2 (by decide)
              have u445 := CI_b c433 (k := 191) (j := 16) bd_191_16
              refine T_if1 (by decide +kernel) ?_
              refine T_let 191 (by decide +kernel) ?_
              refine T_if1 (by decide +kernel) ?_
              refine T_leq (fun x446 e447 => ?_)
              have u448 := CI_b c433 (k := 191) (j := 16) bd_191_16
              exact T_ret ⟨c433, f435, (y_V3.u o438 (Or.inr o439)), (y_Y4.c o440), ⟨x446, rfl, by omega, by omega⟩⟩
            · exact T_ret ⟨c410, f412, (y_V3.z r420 (by omega)), (by first | exact y_Y4.z (by omega) | exact y_Y4.z7 (by omega)), ⟨(-1), rfl, by omega, by omega⟩⟩
          · refine T_if1 (by decide +kernel) ?_
            refine T_let 165 (by decide +kernel) ?_
            refine T_of (fX2_place_J32.eq_1 ..) ?_
            refine T_rR ?_
            refine T_if1 (by decide) ?_
            refine T_if1 (by decide +kernel) ?_
            refine T_useN (sf_X9_copyFrom_6_165 hfu s26 c27) (fun v454 s449 hq => ?_)
            obtain ⟨c450, f451, rfl⟩ := hq
            refine T_vN ?_
            have f452 := z_Fr.tr (R := R_X11_undo_1) f28 f451 rs_X9_copyFrom_6_165__X11_undo_1
            have t457 : s449 33 1 = s26 33 1 := f451 33 1 (by decide)
            have t458 : s449 33 2 = s26 33 2 := f451 33 2 (by decide)
            have t459 : s449 191 16 = s26 191 16 := f451 191 16 (by decide)
            have r460 := y_B0.fr r36 (f451 211 0 (by decide)) (f451 213 0 (by decide))
            refine T_if1 (by unfold z_bl; omega) ?_
            refine T_rI ?_
            refine T_ite (fun h461 => ?_) (fun h461 => ?_)
            · refine T_if1 ⟨(by decide +kernel), by unfold z_bl; omega⟩ ?_
              refine T_upg c450 bd_1_16 (by omega) (fun s462 c463 g465 g466 e467 => ?_)
              have f464 := z_Fr.upf (R := R_X11_undo_1) f452 g465 g466 (Or.inr (Or.inr (Or.inr (Or.inr (Or.inr (Or.inr (Or.inr (Or.inr (Or.inr (Or.inl (⟨rfl, by decide⟩)))))))))))
              have t468 : s462 33 1 = s449 33 1 := g465 33 1 (by decide)
              have t469 : s462 33 2 = s449 33 2 := g465 33 2 (by decide)
              have t470 : s462 191 16 = s449 191 16 := g465 191 16 (by decide)
              have r471 := y_B0.fr r460 (g465 211 0 (by decide)) (g465 213 0 (by decide))
              refine T_if1 (by decide +kernel) ?_
              refine T_useN (sf_X11_refresh_1Y hfu s462 c463 (y_V3.z r471 (by omega)) (by first | exact y_Y4.z (by omega) | exact y_Y4.z7 (by omega))) (fun v477 s472 hq => ?_)
              obtain ⟨c473, f474, o478, o479, o480, rfl⟩ := hq
              refine T_vN ?_
              have f475 := z_Fr.tr (R := R_X11_undo_1) f464 f474 rs_X11_refresh_1__X11_undo_1
              have t483 : s472 33 1 = s462 33 1 := f474 33 1 (by decide)
              have t484 : s472 33 2 = s462 33 2 := f474 33 2 (by decide)
              have u485 := CI_b c473 (k := 191) (j := 16) bd_191_16
              refine T_if1 (by decide +kernel) ?_
              refine T_let 191 (by decide +kernel) ?_
              refine T_if1 (by decide +kernel) ?_
              refine T_leq (fun x486 e487 => ?_)
              have u488 := CI_b c473 (k := 191) (j := 16) bd_191_16
              exact T_ret ⟨c473, f475, (y_V3.u o478 (Or.inr o479)), (y_Y4.c o480), ⟨x486, rfl, by omega, by omega⟩⟩
            · exact T_ret ⟨c450, f452, (y_V3.z r460 (by omega)), (by first | exact y_Y4.z (by omega) | exact y_Y4.z7 (by omega)), ⟨(-1), rfl, by omega, by omega⟩⟩
          · refine T_if1 (by decide +kernel) ?_
            refine T_let 178 (by decide +kernel) ?_
            refine T_of (fX2_place_J32.eq_1 ..) ?_
            refine T_rR ?_
            refine T_if1 (by decide) ?_
            refine T_if1 (by decide +kernel) ?_
            refine T_useN (sf_X9_copyFrom_6_178 hfu s26 c27) (fun v494 s489 hq => ?_)
            obtain ⟨c490, f491, rfl⟩ := hq
            refine T_vN ?_
            have f492 := z_Fr.tr (R := R_X11_undo_1) f28 f491 rs_X9_copyFrom_6_178__X11_undo_1
            have t497 : s489 33 1 = s26 33 1 := f491 33 1 (by decide)
            have t498 : s489 33 2 = s26 33 2 := f491 33 2 (by decide)
            have t499 : s489 191 16 = s26 191 16 := f491 191 16 (by decide)
            have r500 := y_B0.fr r36 (f491 211 0 (by decide)) (f491 213 0 (by decide))
            refine T_if1 (by unfold z_bl; omega) ?_
            refine T_rI ?_
            refine T_ite (fun h501 => ?_) (fun h501 => ?_)
            · refine T_if1 ⟨(by decide +kernel), by unfold z_bl; omega⟩ ?_
              refine T_upg c490 bd_1_16 (by omega) (fun s502 c503 g505 g506 e507 => ?_)
              have f504 := z_Fr.upf (R := R_X11_undo_1) f492 g505 g506 (Or.inr (Or.inr (Or.inr (Or.inr (Or.inr (Or.inr (Or.inr (Or.inr (Or.inr (Or.inl (⟨rfl, by decide⟩)))))))))))
              have t508 : s502 33 1 = s489 33 1 := g505 33 1 (by decide)
              have t509 : s502 33 2 = s489 33 2 := g505 33 2 (by decide)
              have t510 : s502 191 16 = s489 191 16 := g505 191 16 (by decide)
              have r511 := y_B0.fr r500 (g505 211 0 (by decide)) (g505 213 0 (by decide))
              refine T_if1 (by decide +kernel) ?_
              refine T_useN (sf_X11_refresh_1Y hfu s502 c503 (y_V3.z r511 (by omega)) (by first | exact y_Y4.z (by omega) | exact y_Y4.z7 (by omega))) (fun v517 s512 hq => ?_)
              obtain ⟨c513, f514, o518, o519, o520, rfl⟩ := hq
              refine T_vN ?_
              have f515 := z_Fr.tr (R := R_X11_undo_1) f504 f514 rs_X11_refresh_1__X11_undo_1
              have t523 : s512 33 1 = s502 33 1 := f514 33 1 (by decide)
              have t524 : s512 33 2 = s502 33 2 := f514 33 2 (by decide)
              have u525 := CI_b c513 (k := 191) (j := 16) bd_191_16
              refine T_if1 (by decide +kernel) ?_
              refine T_let 191 (by decide +kernel) ?_
              refine T_if1 (by decide +kernel) ?_
              refine T_leq (fun x526 e527 => ?_)
              have u528 := CI_b c513 (k := 191) (j := 16) bd_191_16
              exact T_ret ⟨c513, f515, (y_V3.u o518 (Or.inr o519)), (y_Y4.c o520), ⟨x526, rfl, by omega, by omega⟩⟩
            · exact T_ret ⟨c490, f492, (y_V3.z r500 (by omega)), (by first | exact y_Y4.z (by omega) | exact y_Y4.z7 (by omega)), ⟨(-1), rfl, by omega, by omega⟩⟩
    · refine T_if1 (by decide +kernel) ?_
      refine T_leq (fun x529 e530 => ?_)
      have u531 := CI_b c12 (k := 33) (j := 1) bd_33_1
      refine T_leq (fun x532 e533 => ?_)
      have w534 := z_wb e533
      refine T_of (fX2_takeBack_J38.eq_1 ..) ?_
      refine T_if1 (by decide +kernel) ?_
      refine T_upg c12 bd_33_1 (by omega) (fun s535 c536 g538 g539 e540 => ?_)
      have f537 := z_Fr.upf (R := R_X11_undo_1) f13 g538 g539 (Or.inr (Or.inl (⟨by decide, by decide⟩)))
      have t541 : s535 33 2 = s11 33 2 := g539 2 (by decide)
      have t542 : s535 191 16 = s11 191 16 := g538 191 16 (by decide)
      have r543 := y_V3.fr r19 (g538 1 16 (by decide)) (g538 1 17 (by decide)) (g538 191 16 (by decide)) (g538 6 6 (by decide)) (g538 191 17 (by decide)) (g538 191 18 (by decide)) (fun b => g538 3 b (by decide)) (fun b => g538 8 b (by decide)) (fun b => g538 12 b (by decide)) (fun b => g538 14 b (by decide)) (fun b => g538 16 b (by decide)) (fun b => g538 18 b (by decide)) (fun b => g538 193 b (by decide)) (fun b => g538 195 b (by decide)) (fun b => g538 197 b (by decide)) (fun b => g538 199 b (by decide)) (fun b => g538 201 b (by decide)) (fun b => g538 203 b (by decide)) (fun b => g538 205 b (by decide)) (fun b => g538 207 b (by decide)) (fun b => g538 209 b (by decide)) (fun b => g538 211 b (by decide)) (fun b => g538 213 b (by decide)) (fun b => g538 215 b (by decide)) (fun b => g538 217 b (by decide)) (fun b => g538 219 b (by decide)) (fun b => g538 222 b (by decide)) (g538 240 6 (by decide)) (fun b => g538 248 b (by decide))
      have r544 := y_Y4.fr r20 (g538 1 16 (by decide)) (g538 1 17 (by decide)) (g538 191 16 (by decide)) (g538 6 6 (by decide)) (g538 191 17 (by decide)) (g538 191 18 (by decide)) (fun b => g538 3 b (by decide)) (fun b => g538 8 b (by decide)) (fun b => g538 12 b (by decide)) (fun b => g538 14 b (by decide)) (fun b => g538 16 b (by decide)) (fun b => g538 18 b (by decide)) (fun b => g538 193 b (by decide)) (fun b => g538 195 b (by decide)) (fun b => g538 197 b (by decide)) (fun b => g538 199 b (by decide)) (fun b => g538 201 b (by decide)) (fun b => g538 203 b (by decide)) (fun b => g538 205 b (by decide)) (fun b => g538 207 b (by decide)) (fun b => g538 209 b (by decide)) (fun b => g538 211 b (by decide)) (fun b => g538 213 b (by decide)) (fun b => g538 215 b (by decide)) (fun b => g538 217 b (by decide)) (fun b => g538 219 b (by decide)) (g538 240 6 (by decide)) (fun b => g538 248 b (by decide)) (fun b => g538 260 b (by decide)) (fun b => g538 262 b (by decide)) (fun b => g538 264 b (by decide)) (fun b => g538 266 b (by decide)) (fun b => g538 268 b (by decide)) (fun b => g538 270 b (by decide)) (fun b => g538 272 b (by decide)) (fun b => g538 274 b (by decide)) (fun b => g538 276 b (by decide)) (fun b => g538 278 b (by decide)) (g538 279 9 (by decide)) (fun b => g538 281 b (by decide)) (fun b => g538 283 b (by decide)) (fun b => g538 285 b (by decide)) (fun b => g538 287 b (by decide)) (fun b => g538 289 b (by decide)) (fun b => g538 291 b (by decide)) (fun b => g538 293 b (by decide)) (fun b => g538 295 b (by decide))
      have r545 := y_B0.fr r21 (g538 211 0 (by decide)) (g538 213 0 (by decide))
      refine T_if1 (by decide +kernel) ?_
      refine T_bR ?_
      refine T_of (fX2_place.eq_1 ..) ?_
      refine T_if1 (by decide +kernel) ?_
      refine T_leq (fun x546 e547 => ?_)
      have u548 := CI_b c536 (k := 33) (j := 1) bd_33_1
      refine T_ite (fun h549 => ?_) (fun h549 => ?_)
      · refine T_of (fX2_place_J31.eq_1 ..) ?_
        exfalso
        omega
      · refine T_if1 (by decide +kernel) ?_
        refine T_leq (fun x550 e551 => ?_)
        have u552 := CI_b c536 (k := 33) (j := 1) bd_33_1
        refine T_if1 (by decide +kernel) ?_
        refine T_let 34 (by decide +kernel) ?_
        refine T_if1 (by decide +kernel) ?_
        refine T_let 12 (by decide +kernel) ?_
        refine T_ite (fun h553 => ?_) (fun h553 => ?_)
        · refine T_of (fX2_place_J31.eq_1 ..) ?_
          exfalso
          omega
        · refine T_if1 (by decide +kernel) ?_
          refine T_let 34 (by decide +kernel) ?_
          refine T_if1 (by decide +kernel) ?_
          refine T_leq (fun x554 e555 => ?_)
          have u556 := CI_b c536 (k := 33) (j := 1) bd_33_1
          rcases (show x554 = 0 ∨ x554 = 1 ∨ x554 = 2 ∨ x554 = 3 ∨ x554 = 4 ∨ x554 = 5 ∨ x554 = 6 ∨ x554 = 7 ∨ x554 = 8 ∨ x554 = 9 ∨ x554 = 10 ∨ x554 = 11 by omega) with rfl | rfl | rfl | rfl | rfl | rfl | rfl | rfl | rfl | rfl | rfl | rfl
          · refine T_if1 (by decide +kernel) ?_
            refine T_let 35 (by decide +kernel) ?_
            refine T_of (fX2_place_J32.eq_1 ..) ?_
            refine T_rR ?_
            refine T_if1 (by decide) ?_
            refine T_if1 (by decide +kernel) ?_
            refine T_useN (sf_X9_copyFrom_6_35 hfu s535 c536) (fun v563 s558 hq => ?_)
            obtain ⟨c559, f560, rfl⟩ := hq
            refine T_vN ?_
            have f561 := z_Fr.tr (R := R_X11_undo_1) f537 f560 rs_X9_copyFrom_6_35__X11_undo_1
            have t566 : s558 33 1 = s535 33 1 := f560 33 1 (by decide)
            have t567 : s558 33 2 = s535 33 2 := f560 33 2 (by decide)
            have t568 : s558 191 16 = s535 191 16 := f560 191 16 (by decide)
            have r569 := y_B0.fr r545 (f560 211 0 (by decide)) (f560 213 0 (by decide))
            refine T_if1 (by unfold z_bl; omega) ?_
            refine T_rI ?_
            refine T_ite (fun h570 => ?_) (fun h570 => ?_)
            · refine T_if1 ⟨(by decide +kernel), by unfold z_bl; omega⟩ ?_
              refine T_upg c559 bd_1_16 (by omega) (fun s571 c572 g574 g575 e576 => ?_)
              have f573 := z_Fr.upf (R := R_X11_undo_1) f561 g574 g575 (Or.inr (Or.inr (Or.inr (Or.inr (Or.inr (Or.inr (Or.inr (Or.inr (Or.inr (Or.inl (⟨rfl, by decide⟩)))))))))))
              have t577 : s571 33 1 = s558 33 1 := g574 33 1 (by decide)
              have t578 : s571 33 2 = s558 33 2 := g574 33 2 (by decide)
              have t579 : s571 191 16 = s558 191 16 := g574 191 16 (by decide)
              have r580 := y_B0.fr r569 (g574 211 0 (by decide)) (g574 213 0 (by decide))
              refine T_if1 (by decide +kernel) ?_
              refine T_useN (sf_X11_refresh_1Y hfu s571 c572 (y_V3.z r580 (by omega)) (by first | exact y_Y4.z (by omega) | exact y_Y4.z7 (by omega))) (fun v586 s581 hq => ?_)
              obtain ⟨c582, f583, o587, o588, o589, rfl⟩ := hq
              refine T_vN ?_
              have f584 := z_Fr.tr (R := R_X11_undo_1) f573 f583 rs_X11_refresh_1__X11_undo_1
              have t592 : s581 33 1 = s571 33 1 := f583 33 1 (by decide)
              have t593 : s581 33 2 = s571 33 2 := f583 33 2 (by decide)
              have u594 := CI_b c582 (k := 191) (j := 16) bd_191_16
              refine T_if1 (by decide +kernel) ?_
              refine T_let 191 (by decide +kernel) ?_
              refine T_if1 (by decide +kernel) ?_
              refine T_leq (fun x595 e596 => ?_)
              have u597 := CI_b c582 (k := 191) (j := 16) bd_191_16
              exact T_ret ⟨c582, f584, (y_V3.u o587 (Or.inr o588)), (y_Y4.c o589), ⟨x595, rfl, by omega, by omega⟩⟩
            · exact T_ret ⟨c559, f561, (y_V3.z r569 (by omega)), (by first | exact y_Y4.z (by omega) | exact y_Y4.z7 (by omega)), ⟨(-1), rfl, by omega, by omega⟩⟩
          · refine T_if1 (by decide +kernel) ?_
            refine T_let 48 (by decide +kernel) ?_
            refine T_of (fX2_place_J32.eq_1 ..) ?_
            refine T_rR ?_
            refine T_if1 (by decide) ?_
            refine T_if1 (by decide +kernel) ?_
            refine T_useN (sf_X9_copyFrom_6_48 hfu s535 c536) (fun v603 s598 hq => ?_)
            obtain ⟨c599, f600, rfl⟩ := hq
            refine T_vN ?_
            have f601 := z_Fr.tr (R := R_X11_undo_1) f537 f600 rs_X9_copyFrom_6_48__X11_undo_1
            have t606 : s598 33 1 = s535 33 1 := f600 33 1 (by decide)
            have t607 : s598 33 2 = s535 33 2 := f600 33 2 (by decide)
            have t608 : s598 191 16 = s535 191 16 := f600 191 16 (by decide)
            have r609 := y_B0.fr r545 (f600 211 0 (by decide)) (f600 213 0 (by decide))
            refine T_if1 (by unfold z_bl; omega) ?_
            refine T_rI ?_
            refine T_ite (fun h610 => ?_) (fun h610 => ?_)
            · refine T_if1 ⟨(by decide +kernel), by unfold z_bl; omega⟩ ?_
              refine T_upg c599 bd_1_16 (by omega) (fun s611 c612 g614 g615 e616 => ?_)
              have f613 := z_Fr.upf (R := R_X11_undo_1) f601 g614 g615 (Or.inr (Or.inr (Or.inr (Or.inr (Or.inr (Or.inr (Or.inr (Or.inr (Or.inr (Or.inl (⟨rfl, by decide⟩)))))))))))
              have t617 : s611 33 1 = s598 33 1 := g614 33 1 (by decide)
              have t618 : s611 33 2 = s598 33 2 := g614 33 2 (by decide)
              have t619 : s611 191 16 = s598 191 16 := g614 191 16 (by decide)
              have r620 := y_B0.fr r609 (g614 211 0 (by decide)) (g614 213 0 (by decide))
              refine T_if1 (by decide +kernel) ?_
              refine T_useN (sf_X11_refresh_1Y hfu s611 c612 (y_V3.z r620 (by omega)) (by first | exact y_Y4.z (by omega) | exact y_Y4.z7 (by omega))) (fun v626 s621 hq => ?_)
              obtain ⟨c622, f623, o627, o628, o629, rfl⟩ := hq
              refine T_vN ?_
              have f624 := z_Fr.tr (R := R_X11_undo_1) f613 f623 rs_X11_refresh_1__X11_undo_1
              have t632 : s621 33 1 = s611 33 1 := f623 33 1 (by decide)
              have t633 : s621 33 2 = s611 33 2 := f623 33 2 (by decide)
              have u634 := CI_b c622 (k := 191) (j := 16) bd_191_16
              refine T_if1 (by decide +kernel) ?_
              refine T_let 191 (by decide +kernel) ?_
              refine T_if1 (by decide +kernel) ?_
              refine T_leq (fun x635 e636 => ?_)
              have u637 := CI_b c622 (k := 191) (j := 16) bd_191_16
              exact T_ret ⟨c622, f624, (y_V3.u o627 (Or.inr o628)), (y_Y4.c o629), ⟨x635, rfl, by omega, by omega⟩⟩
            · exact T_ret ⟨c599, f601, (y_V3.z r609 (by omega)), (by first | exact y_Y4.z (by omega) | exact y_Y4.z7 (by omega)), ⟨(-1), rfl, by omega, by omega⟩⟩
          · refine T_if1 (by decide +kernel) ?_
            refine T_let 61 (by decide +kernel) ?_
            refine T_of (fX2_place_J32.eq_1 ..) ?_
            refine T_rR ?_
            refine T_if1 (by decide) ?_
            refine T_if1 (by decide +kernel) ?_
            refine T_useN (sf_X9_copyFrom_6_61 hfu s535 c536) (fun v643 s638 hq => ?_)
            obtain ⟨c639, f640, rfl⟩ := hq
            refine T_vN ?_
            have f641 := z_Fr.tr (R := R_X11_undo_1) f537 f640 rs_X9_copyFrom_6_61__X11_undo_1
            have t646 : s638 33 1 = s535 33 1 := f640 33 1 (by decide)
            have t647 : s638 33 2 = s535 33 2 := f640 33 2 (by decide)
            have t648 : s638 191 16 = s535 191 16 := f640 191 16 (by decide)
            have r649 := y_B0.fr r545 (f640 211 0 (by decide)) (f640 213 0 (by decide))
            refine T_if1 (by unfold z_bl; omega) ?_
            refine T_rI ?_
            refine T_ite (fun h650 => ?_) (fun h650 => ?_)
            · refine T_if1 ⟨(by decide +kernel), by unfold z_bl; omega⟩ ?_
              refine T_upg c639 bd_1_16 (by omega) (fun s651 c652 g654 g655 e656 => ?_)
              have f653 := z_Fr.upf (R := R_X11_undo_1) f641 g654 g655 (Or.inr (Or.inr (Or.inr (Or.inr (Or.inr (Or.inr (Or.inr (Or.inr (Or.inr (Or.inl (⟨rfl, by decide⟩)))))))))))
              have t657 : s651 33 1 = s638 33 1 := g654 33 1 (by decide)
              have t658 : s651 33 2 = s638 33 2 := g654 33 2 (by decide)
              have t659 : s651 191 16 = s638 191 16 := g654 191 16 (by decide)
              have r660 := y_B0.fr r649 (g654 211 0 (by decide)) (g654 213 0 (by decide))
              refine T_if1 (by decide +kernel) ?_
              refine T_useN (sf_X11_refresh_1Y hfu s651 c652 (y_V3.z r660 (by omega)) (by first | exact y_Y4.z (by omega) | exact y_Y4.z7 (by omega))) (fun v666 s661 hq => ?_)
              obtain ⟨c662, f663, o667, o668, o669, rfl⟩ := hq
              refine T_vN ?_
              have f664 := z_Fr.tr (R := R_X11_undo_1) f653 f663 rs_X11_refresh_1__X11_undo_1
              have t672 : s661 33 1 = s651 33 1 := f663 33 1 (by decide)
              have t673 : s661 33 2 = s651 33 2 := f663 33 2 (by decide)
              have u674 := CI_b c662 (k := 191) (j := 16) bd_191_16
              refine T_if1 (by decide +kernel) ?_
              refine T_let 191 (by decide +kernel) ?_
              refine T_if1 (by decide +kernel) ?_
              refine T_leq (fun x675 e676 => ?_)
              have u677 := CI_b c662 (k := 191) (j := 16) bd_191_16
              exact T_ret ⟨c662, f664, (y_V3.u o667 (Or.inr o668)), (y_Y4.c o669), ⟨x675, rfl, by omega, by omega⟩⟩
            · exact T_ret ⟨c639, f641, (y_V3.z r649 (by omega)), (by first | exact y_Y4.z (by omega) | exact y_Y4.z7 (by omega)), ⟨(-1), rfl, by omega, by omega⟩⟩
          · refine T_if1 (by decide +kernel) ?_
            refine T_let 74 (by decide +kernel) ?_
            refine T_of (fX2_place_J32.eq_1 ..) ?_
            refine T_rR ?_
            refine T_if1 (by decide) ?_
            refine T_if1 (by decide +kernel) ?_
            refine T_useN (sf_X9_copyFrom_6_74 hfu s535 c536) (fun v683 s678 hq => ?_)
            obtain ⟨c679, f680, rfl⟩ := hq
            refine T_vN ?_
            have f681 := z_Fr.tr (R := R_X11_undo_1) f537 f680 rs_X9_copyFrom_6_74__X11_undo_1
            have t686 : s678 33 1 = s535 33 1 := f680 33 1 (by decide)
            have t687 : s678 33 2 = s535 33 2 := f680 33 2 (by decide)
            have t688 : s678 191 16 = s535 191 16 := f680 191 16 (by decide)
            have r689 := y_B0.fr r545 (f680 211 0 (by decide)) (f680 213 0 (by decide))
            refine T_if1 (by unfold z_bl; omega) ?_
            refine T_rI ?_
            refine T_ite (fun h690 => ?_) (fun h690 => ?_)
            · refine T_if1 ⟨(by decide +kernel), by unfold z_bl; omega⟩ ?_
              refine T_upg c679 bd_1_16 (by omega) (fun s691 c692 g694 g695 e696 => ?_)
              have f693 := z_Fr.upf (R := R_X11_undo_1) f681 g694 g695 (Or.inr (Or.inr (Or.inr (Or.inr (Or.inr (Or.inr (Or.inr (Or.inr (Or.inr (Or.inl (⟨rfl, by decide⟩)))))))))))
              have t697 : s691 33 1 = s678 33 1 := g694 33 1 (by decide)
              have t698 : s691 33 2 = s678 33 2 := g694 33 2 (by decide)
              have t699 : s691 191 16 = s678 191 16 := g694 191 16 (by decide)
              have r700 := y_B0.fr r689 (g694 211 0 (by decide)) (g694 213 0 (by decide))
              refine T_if1 (by decide +kernel) ?_
              refine T_useN (sf_X11_refresh_1Y hfu s691 c692 (y_V3.z r700 (by omega)) (by first | exact y_Y4.z (by omega) | exact y_Y4.z7 (by omega))) (fun v706 s701 hq => ?_)
              obtain ⟨c702, f703, o707, o708, o709, rfl⟩ := hq
              refine T_vN ?_
              have f704 := z_Fr.tr (R := R_X11_undo_1) f693 f703 rs_X11_refresh_1__X11_undo_1
              have t712 : s701 33 1 = s691 33 1 := f703 33 1 (by decide)
              have t713 : s701 33 2 = s691 33 2 := f703 33 2 (by decide)
              have u714 := CI_b c702 (k := 191) (j := 16) bd_191_16
              refine T_if1 (by decide +kernel) ?_
              refine T_let 191 (by decide +kernel) ?_
              refine T_if1 (by decide +kernel) ?_
              refine T_leq (fun x715 e716 => ?_)
              have u717 := CI_b c702 (k := 191) (j := 16) bd_191_16
              exact T_ret ⟨c702, f704, (y_V3.u o707 (Or.inr o708)), (y_Y4.c o709), ⟨x715, rfl, by omega, by omega⟩⟩
            · exact T_ret ⟨c679, f681, (y_V3.z r689 (by omega)), (by first | exact y_Y4.z (by omega) | exact y_Y4.z7 (by omega)), ⟨(-1), rfl, by omega, by omega⟩⟩
          · refine T_if1 (by decide +kernel) ?_
            refine T_let 87 (by decide +kernel) ?_
            refine T_of (fX2_place_J32.eq_1 ..) ?_
            refine T_rR ?_
            refine T_if1 (by decide) ?_
            refine T_if1 (by decide +kernel) ?_
            refine T_useN (sf_X9_copyFrom_6_87 hfu s535 c536) (fun v723 s718 hq => ?_)
            obtain ⟨c719, f720, rfl⟩ := hq
            refine T_vN ?_
            have f721 := z_Fr.tr (R := R_X11_undo_1) f537 f720 rs_X9_copyFrom_6_87__X11_undo_1
            have t726 : s718 33 1 = s535 33 1 := f720 33 1 (by decide)
            have t727 : s718 33 2 = s535 33 2 := f720 33 2 (by decide)
            have t728 : s718 191 16 = s535 191 16 := f720 191 16 (by decide)
            have r729 := y_B0.fr r545 (f720 211 0 (by decide)) (f720 213 0 (by decide))
            refine T_if1 (by unfold z_bl; omega) ?_
            refine T_rI ?_
            refine T_ite (fun h730 => ?_) (fun h730 => ?_)
            · refine T_if1 ⟨(by decide +kernel), by unfold z_bl; omega⟩ ?_
              refine T_upg c719 bd_1_16 (by omega) (fun s731 c732 g734 g735 e736 => ?_)
              have f733 := z_Fr.upf (R := R_X11_undo_1) f721 g734 g735 (Or.inr (Or.inr (Or.inr (Or.inr (Or.inr (Or.inr (Or.inr (Or.inr (Or.inr (Or.inl (⟨rfl, by decide⟩)))))))))))
              have t737 : s731 33 1 = s718 33 1 := g734 33 1 (by decide)
              have t738 : s731 33 2 = s718 33 2 := g734 33 2 (by decide)
              have t739 : s731 191 16 = s718 191 16 := g734 191 16 (by decide)
              have r740 := y_B0.fr r729 (g734 211 0 (by decide)) (g734 213 0 (by decide))
              refine T_if1 (by decide +kernel) ?_
              refine T_useN (sf_X11_refresh_1Y hfu s731 c732 (y_V3.z r740 (by omega)) (by first | exact y_Y4.z (by omega) | exact y_Y4.z7 (by omega))) (fun v746 s741 hq => ?_)
              obtain ⟨c742, f743, o747, o748, o749, rfl⟩ := hq
              refine T_vN ?_
              have f744 := z_Fr.tr (R := R_X11_undo_1) f733 f743 rs_X11_refresh_1__X11_undo_1
              have t752 : s741 33 1 = s731 33 1 := f743 33 1 (by decide)
              have t753 : s741 33 2 = s731 33 2 := f743 33 2 (by decide)
              have u754 := CI_b c742 (k := 191) (j := 16) bd_191_16
              refine T_if1 (by decide +kernel) ?_
              refine T_let 191 (by decide +kernel) ?_
              refine T_if1 (by decide +kernel) ?_
              refine T_leq (fun x755 e756 => ?_)
              have u757 := CI_b c742 (k := 191) (j := 16) bd_191_16
              exact T_ret ⟨c742, f744, (y_V3.u o747 (Or.inr o748)), (y_Y4.c o749), ⟨x755, rfl, by omega, by omega⟩⟩
            · exact T_ret ⟨c719, f721, (y_V3.z r729 (by omega)), (by first | exact y_Y4.z (by omega) | exact y_Y4.z7 (by omega)), ⟨(-1), rfl, by omega, by omega⟩⟩
          · refine T_if1 (by decide +kernel) ?_
            refine T_let 100 (by decide +kernel) ?_
            refine T_of (fX2_place_J32.eq_1 ..) ?_
            refine T_rR ?_
            refine T_if1 (by decide) ?_
            refine T_if1 (by decide +kernel) ?_
            refine T_useN (sf_X9_copyFrom_6_100 hfu s535 c536) (fun v763 s758 hq => ?_)
            obtain ⟨c759, f760, rfl⟩ := hq
            refine T_vN ?_
            have f761 := z_Fr.tr (R := R_X11_undo_1) f537 f760 rs_X9_copyFrom_6_100__X11_undo_1
            have t766 : s758 33 1 = s535 33 1 := f760 33 1 (by decide)
            have t767 : s758 33 2 = s535 33 2 := f760 33 2 (by decide)
            have t768 : s758 191 16 = s535 191 16 := f760 191 16 (by decide)
            have r769 := y_B0.fr r545 (f760 211 0 (by decide)) (f760 213 0 (by decide))
            refine T_if1 (by unfold z_bl; omega) ?_
            refine T_rI ?_
            refine T_ite (fun h770 => ?_) (fun h770 => ?_)
            · refine T_if1 ⟨(by decide +kernel), by unfold z_bl; omega⟩ ?_
              refine T_upg c759 bd_1_16 (by omega) (fun s771 c772 g774 g775 e776 => ?_)
              have f773 := z_Fr.upf (R := R_X11_undo_1) f761 g774 g775 (Or.inr (Or.inr (Or.inr (Or.inr (Or.inr (Or.inr (Or.inr (Or.inr (Or.inr (Or.inl (⟨rfl, by decide⟩)))))))))))
              have t777 : s771 33 1 = s758 33 1 := g774 33 1 (by decide)
              have t778 : s771 33 2 = s758 33 2 := g774 33 2 (by decide)
              have t779 : s771 191 16 = s758 191 16 := g774 191 16 (by decide)
              have r780 := y_B0.fr r769 (g774 211 0 (by decide)) (g774 213 0 (by decide))
              refine T_if1 (by decide +kernel) ?_
              refine T_useN (sf_X11_refresh_1Y hfu s771 c772 (y_V3.z r780 (by omega)) (by first | exact y_Y4.z (by omega) | exact y_Y4.z7 (by omega))) (fun v786 s781 hq => ?_)
              obtain ⟨c782, f783, o787, o788, o789, rfl⟩ := hq
              refine T_vN ?_
              have f784 := z_Fr.tr (R := R_X11_undo_1) f773 f783 rs_X11_refresh_1__X11_undo_1
              have t792 : s781 33 1 = s771 33 1 := f783 33 1 (by decide)
              have t793 : s781 33 2 = s771 33 2 := f783 33 2 (by decide)
              have u794 := CI_b c782 (k := 191) (j := 16) bd_191_16
              refine T_if1 (by decide +kernel) ?_
              refine T_let 191 (by decide +kernel) ?_
              refine T_if1 (by decide +kernel) ?_
              refine T_leq (fun x795 e796 => ?_)
              have u797 := CI_b c782 (k := 191) (j := 16) bd_191_16
              exact T_ret ⟨c782, f784, (y_V3.u o787 (Or.inr o788)), (y_Y4.c o789), ⟨x795, rfl, by omega, by omega⟩⟩
            · exact T_ret ⟨c759, f761, (y_V3.z r769 (by omega)), (by first | exact y_Y4.z (by omega) | exact y_Y4.z7 (by omega)), ⟨(-1), rfl, by omega, by omega⟩⟩
          · refine T_if1 (by decide +kernel) ?_
            refine T_let 113 (by decide +kernel) ?_
            refine T_of (fX2_place_J32.eq_1 ..) ?_
            refine T_rR ?_
            refine T_if1 (by decide) ?_
            refine T_if1 (by decide +kernel) ?_
            refine T_useN (sf_X9_copyFrom_6_113 hfu s535 c536) (fun v803 s798 hq => ?_)
            obtain ⟨c799, f800, rfl⟩ := hq
            refine T_vN ?_
            have f801 := z_Fr.tr (R := R_X11_undo_1) f537 f800 rs_X9_copyFrom_6_113__X11_undo_1
            have t806 : s798 33 1 = s535 33 1 := f800 33 1 (by decide)
            have t807 : s798 33 2 = s535 33 2 := f800 33 2 (by decide)
            have t808 : s798 191 16 = s535 191 16 := f800 191 16 (by decide)
            have r809 := y_B0.fr r545 (f800 211 0 (by decide)) (f800 213 0 (by decide))
            refine T_if1 (by unfold z_bl; omega) ?_
            refine T_rI ?_
            refine T_ite (fun h810 => ?_) (fun h810 => ?_)
            · refine T_if1 ⟨(by decide +kernel), by unfold z_bl; omega⟩ ?_
              refine T_upg c799 bd_1_16 (by omega) (fun s811 c812 g814 g815 e816 => ?_)
              have f813 := z_Fr.upf (R := R_X11_undo_1) f801 g814 g815 (Or.inr (Or.inr (Or.inr (Or.inr (Or.inr (Or.inr (Or.inr (Or.inr (Or.inr (Or.inl (⟨rfl, by decide⟩)))))))))))
              have t817 : s811 33 1 = s798 33 1 := g814 33 1 (by decide)
              have t818 : s811 33 2 = s798 33 2 := g814 33 2 (by decide)
              have t819 : s811 191 16 = s798 191 16 := g814 191 16 (by decide)
              have r820 := y_B0.fr r809 (g814 211 0 (by decide)) (g814 213 0 (by decide))
              refine T_if1 (by decide +kernel) ?_
              refine T_useN (sf_X11_refresh_1Y hfu s811 c812 (y_V3.z r820 (by omega)) (by first | exact y_Y4.z (by omega) | exact y_Y4.z7 (by omega))) (fun v826 s821 hq => ?_)
              obtain ⟨c822, f823, o827, o828, o829, rfl⟩ := hq
              refine T_vN ?_
              have f824 := z_Fr.tr (R := R_X11_undo_1) f813 f823 rs_X11_refresh_1__X11_undo_1
              have t832 : s821 33 1 = s811 33 1 := f823 33 1 (by decide)
              have t833 : s821 33 2 = s811 33 2 := f823 33 2 (by decide)
              have u834 := CI_b c822 (k := 191) (j := 16) bd_191_16
              refine T_if1 (by decide +kernel) ?_
              refine T_let 191 (by decide +kernel) ?_
              refine T_if1 (by decide +kernel) ?_
              refine T_leq (fun x835 e836 => ?_)
              have u837 := CI_b c822 (k := 191) (j := 16) bd_191_16
              exact T_ret ⟨c822, f824, (y_V3.u o827 (Or.inr o828)), (y_Y4.c o829), ⟨x835, rfl, by omega, by omega⟩⟩
            · exact T_ret ⟨c799, f801, (y_V3.z r809 (by omega)), (by first | exact y_Y4.z (by omega) | exact y_Y4.z7 (by omega)), ⟨(-1), rfl, by omega, by omega⟩⟩
          · refine T_if1 (by decide +kernel) ?_
            refine T_let 126 (by decide +kernel) ?_
            refine T_of (fX2_place_J32.eq_1 ..) ?_
            refine T_rR ?_
            refine T_if1 (by decide) ?_
            refine T_if1 (by decide +kernel) ?_
            refine T_useN (sf_X9_copyFrom_6_126 hfu s535 c536) (fun v843 s838 hq => ?_)
            obtain ⟨c839, f840, rfl⟩ := hq
            refine T_vN ?_
            have f841 := z_Fr.tr (R := R_X11_undo_1) f537 f840 rs_X9_copyFrom_6_126__X11_undo_1
            have t846 : s838 33 1 = s535 33 1 := f840 33 1 (by decide)
            have t847 : s838 33 2 = s535 33 2 := f840 33 2 (by decide)
            have t848 : s838 191 16 = s535 191 16 := f840 191 16 (by decide)
            have r849 := y_B0.fr r545 (f840 211 0 (by decide)) (f840 213 0 (by decide))
            refine T_if1 (by unfold z_bl; omega) ?_
            refine T_rI ?_
            refine T_ite (fun h850 => ?_) (fun h850 => ?_)
            · refine T_if1 ⟨(by decide +kernel), by unfold z_bl; omega⟩ ?_
              refine T_upg c839 bd_1_16 (by omega) (fun s851 c852 g854 g855 e856 => ?_)
              have f853 := z_Fr.upf (R := R_X11_undo_1) f841 g854 g855 (Or.inr (Or.inr (Or.inr (Or.inr (Or.inr (Or.inr (Or.inr (Or.inr (Or.inr (Or.inl (⟨rfl, by decide⟩)))))))))))
              have t857 : s851 33 1 = s838 33 1 := g854 33 1 (by decide)
              have t858 : s851 33 2 = s838 33 2 := g854 33 2 (by decide)
              have t859 : s851 191 16 = s838 191 16 := g854 191 16 (by decide)
              have r860 := y_B0.fr r849 (g854 211 0 (by decide)) (g854 213 0 (by decide))
              refine T_if1 (by decide +kernel) ?_
              refine T_useN (sf_X11_refresh_1Y hfu s851 c852 (y_V3.z r860 (by omega)) (by first | exact y_Y4.z (by omega) | exact y_Y4.z7 (by omega))) (fun v866 s861 hq => ?_)
              obtain ⟨c862, f863, o867, o868, o869, rfl⟩ := hq
              refine T_vN ?_
              have f864 := z_Fr.tr (R := R_X11_undo_1) f853 f863 rs_X11_refresh_1__X11_undo_1
              have t872 : s861 33 1 = s851 33 1 := f863 33 1 (by decide)
              have t873 : s861 33 2 = s851 33 2 := f863 33 2 (by decide)
              have u874 := CI_b c862 (k := 191) (j := 16) bd_191_16
              refine T_if1 (by decide +kernel) ?_
              refine T_let 191 (by decide +kernel) ?_
              refine T_if1 (by decide +kernel) ?_
              refine T_leq (fun x875 e876 => ?_)
              have u877 := CI_b c862 (k := 191) (j := 16) bd_191_16
              exact T_ret ⟨c862, f864, (y_V3.u o867 (Or.inr o868)), (y_Y4.c o869), ⟨x875, rfl, by omega, by omega⟩⟩
            · exact T_ret ⟨c839, f841, (y_V3.z r849 (by omega)), (by first | exact y_Y4.z (by omega) | exact y_Y4.z7 (by omega)), ⟨(-1), rfl, by omega, by omega⟩⟩
          · refine T_if1 (by decide +kernel) ?_
            refine T_let 139 (by decide +kernel) ?_
            refine T_of (fX2_place_J32.eq_1 ..) ?_
            refine T_rR ?_
            refine T_if1 (by decide) ?_
            refine T_if1 (by decide +kernel) ?_
            refine T_useN (sf_X9_copyFrom_6_139 hfu s535 c536) (fun v883 s878 hq => ?_)
            obtain ⟨c879, f880, rfl⟩ := hq
            refine T_vN ?_
            have f881 := z_Fr.tr (R := R_X11_undo_1) f537 f880 rs_X9_copyFrom_6_139__X11_undo_1
            have t886 : s878 33 1 = s535 33 1 := f880 33 1 (by decide)
            have t887 : s878 33 2 = s535 33 2 := f880 33 2 (by decide)
            have t888 : s878 191 16 = s535 191 16 := f880 191 16 (by decide)
            have r889 := y_B0.fr r545 (f880 211 0 (by decide)) (f880 213 0 (by decide))
            refine T_if1 (by unfold z_bl; omega) ?_
            refine T_rI ?_
            refine T_ite (fun h890 => ?_) (fun h890 => ?_)
            · refine T_if1 ⟨(by decide +kernel), by unfold z_bl; omega⟩ ?_
              refine T_upg c879 bd_1_16 (by omega) (fun s891 c892 g894 g895 e896 => ?_)
              have f893 := z_Fr.upf (R := R_X11_undo_1) f881 g894 g895 (Or.inr (Or.inr (Or.inr (Or.inr (Or.inr (Or.inr (Or.inr (Or.inr (Or.inr (Or.inl (⟨rfl, by decide⟩)))))))))))
              have t897 : s891 33 1 = s878 33 1 := g894 33 1 (by decide)
              have t898 : s891 33 2 = s878 33 2 := g894 33 2 (by decide)
              have t899 : s891 191 16 = s878 191 16 := g894 191 16 (by decide)
              have r900 := y_B0.fr r889 (g894 211 0 (by decide)) (g894 213 0 (by decide))
              refine T_if1 (by decide +kernel) ?_
              refine T_useN (sf_X11_refresh_1Y hfu s891 c892 (y_V3.z r900 (by omega)) (by first | exact y_Y4.z (by omega) | exact y_Y4.z7 (by omega))) (fun v906 s901 hq => ?_)
              obtain ⟨c902, f903, o907, o908, o909, rfl⟩ := hq
              refine T_vN ?_
              have f904 := z_Fr.tr (R := R_X11_undo_1) f893 f903 rs_X11_refresh_1__X11_undo_1
              have t912 : s901 33 1 = s891 33 1 := f903 33 1 (by decide)
              have t913 : s901 33 2 = s891 33 2 := f903 33 2 (by decide)
              have u914 := CI_b c902 (k := 191) (j := 16) bd_191_16
              refine T_if1 (by decide +kernel) ?_
              refine T_let 191 (by decide +kernel) ?_
              refine T_if1 (by decide +kernel) ?_
              refine T_leq (fun x915 e916 => ?_)
              have u917 := CI_b c902 (k := 191) (j := 16) bd_191_16
              exact T_ret ⟨c902, f904, (y_V3.u o907 (Or.inr o908)), (y_Y4.c o909), ⟨x915, rfl, by omega, by omega⟩⟩
            · exact T_ret ⟨c879, f881, (y_V3.z r889 (by omega)), (by first | exact y_Y4.z (by omega) | exact y_Y4.z7 (by omega)), ⟨(-1), rfl, by omega, by omega⟩⟩
          · refine T_if1 (by decide +kernel) ?_
            refine T_let 152 (by decide +kernel) ?_
            refine T_of (fX2_place_J32.eq_1 ..) ?_
            refine T_rR ?_
            refine T_if1 (by decide) ?_
            refine T_if1 (by decide +kernel) ?_
            refine T_useN (sf_X9_copyFrom_6_152 hfu s535 c536) (fun v923 s918 hq => ?_)
            obtain ⟨c919, f920, rfl⟩ := hq
            refine T_vN ?_
            have f921 := z_Fr.tr (R := R_X11_undo_1) f537 f920 rs_X9_copyFrom_6_152__X11_undo_1
            have t926 : s918 33 1 = s535 33 1 := f920 33 1 (by decide)
            have t927 : s918 33 2 = s535 33 2 := f920 33 2 (by decide)
            have t928 : s918 191 16 = s535 191 16 := f920 191 16 (by decide)
            have r929 := y_B0.fr r545 (f920 211 0 (by decide)) (f920 213 0 (by decide))
            refine T_if1 (by unfold z_bl; omega) ?_
            refine T_rI ?_
            refine T_ite (fun h930 => ?_) (fun h930 => ?_)
            · refine T_if1 ⟨(by decide +kernel), by unfold z_bl; omega⟩ ?_
              refine T_upg c919 bd_1_16 (by omega) (fun s931 c932 g934 g935 e936 => ?_)
              have f933 := z_Fr.upf (R := R_X11_undo_1) f921 g934 g935 (Or.inr (Or.inr (Or.inr (Or.inr (Or.inr (Or.inr (Or.inr (Or.inr (Or.inr (Or.inl (⟨rfl, by decide⟩)))))))))))
              have t937 : s931 33 1 = s918 33 1 := g934 33 1 (by decide)
              have t938 : s931 33 2 = s918 33 2 := g934 33 2 (by decide)
              have t939 : s931 191 16 = s918 191 16 := g934 191 16 (by decide)
              have r940 := y_B0.fr r929 (g934 211 0 (by decide)) (g934 213 0 (by decide))
              refine T_if1 (by decide +kernel) ?_
              refine T_useN (sf_X11_refresh_1Y hfu s931 c932 (y_V3.z r940 (by omega)) (by first | exact y_Y4.z (by omega) | exact y_Y4.z7 (by omega))) (fun v946 s941 hq => ?_)
              obtain ⟨c942, f943, o947, o948, o949, rfl⟩ := hq
              refine T_vN ?_
              have f944 := z_Fr.tr (R := R_X11_undo_1) f933 f943 rs_X11_refresh_1__X11_undo_1
              have t952 : s941 33 1 = s931 33 1 := f943 33 1 (by decide)
              have t953 : s941 33 2 = s931 33 2 := f943 33 2 (by decide)
              have u954 := CI_b c942 (k := 191) (j := 16) bd_191_16
              refine T_if1 (by decide +kernel) ?_
              refine T_let 191 (by decide +kernel) ?_
              refine T_if1 (by decide +kernel) ?_
              refine T_leq (fun x955 e956 => ?_)
              have u957 := CI_b c942 (k := 191) (j := 16) bd_191_16
              exact T_ret ⟨c942, f944, (y_V3.u o947 (Or.inr o948)), (y_Y4.c o949), ⟨x955, rfl, by omega, by omega⟩⟩
            · exact T_ret ⟨c919, f921, (y_V3.z r929 (by omega)), (by first | exact y_Y4.z (by omega) | exact y_Y4.z7 (by omega)), ⟨(-1), rfl, by omega, by omega⟩⟩
          · refine T_if1 (by decide +kernel) ?_
            refine T_let 165 (by decide +kernel) ?_
            refine T_of (fX2_place_J32.eq_1 ..) ?_
            refine T_rR ?_
            refine T_if1 (by decide) ?_
            refine T_if1 (by decide +kernel) ?_
            refine T_useN (sf_X9_copyFrom_6_165 hfu s535 c536) (fun v963 s958 hq => ?_)
            obtain ⟨c959, f960, rfl⟩ := hq
            refine T_vN ?_
            have f961 := z_Fr.tr (R := R_X11_undo_1) f537 f960 rs_X9_copyFrom_6_165__X11_undo_1
            have t966 : s958 33 1 = s535 33 1 := f960 33 1 (by decide)
            have t967 : s958 33 2 = s535 33 2 := f960 33 2 (by decide)
            have t968 : s958 191 16 = s535 191 16 := f960 191 16 (by decide)
            have r969 := y_B0.fr r545 (f960 211 0 (by decide)) (f960 213 0 (by decide))
            refine T_if1 (by unfold z_bl; omega) ?_
            refine T_rI ?_
            refine T_ite (fun h970 => ?_) (fun h970 => ?_)
            · refine T_if1 ⟨(by decide +kernel), by unfold z_bl; omega⟩ ?_
              refine T_upg c959 bd_1_16 (by omega) (fun s971 c972 g974 g975 e976 => ?_)
              have f973 := z_Fr.upf (R := R_X11_undo_1) f961 g974 g975 (Or.inr (Or.inr (Or.inr (Or.inr (Or.inr (Or.inr (Or.inr (Or.inr (Or.inr (Or.inl (⟨rfl, by decide⟩)))))))))))
              have t977 : s971 33 1 = s958 33 1 := g974 33 1 (by decide)
              have t978 : s971 33 2 = s958 33 2 := g974 33 2 (by decide)
              have t979 : s971 191 16 = s958 191 16 := g974 191 16 (by decide)
              have r980 := y_B0.fr r969 (g974 211 0 (by decide)) (g974 213 0 (by decide))
              refine T_if1 (by decide +kernel) ?_
              refine T_useN (sf_X11_refresh_1Y hfu s971 c972 (y_V3.z r980 (by omega)) (by first | exact y_Y4.z (by omega) | exact y_Y4.z7 (by omega))) (fun v986 s981 hq => ?_)
              obtain ⟨c982, f983, o987, o988, o989, rfl⟩ := hq
              refine T_vN ?_
              have f984 := z_Fr.tr (R := R_X11_undo_1) f973 f983 rs_X11_refresh_1__X11_undo_1
              have t992 : s981 33 1 = s971 33 1 := f983 33 1 (by decide)
              have t993 : s981 33 2 = s971 33 2 := f983 33 2 (by decide)
              have u994 := CI_b c982 (k := 191) (j := 16) bd_191_16
              refine T_if1 (by decide +kernel) ?_
              refine T_let 191 (by decide +kernel) ?_
              refine T_if1 (by decide +kernel) ?_
              refine T_leq (fun x995 e996 => ?_)
              have u997 := CI_b c982 (k := 191) (j := 16) bd_191_16
              exact T_ret ⟨c982, f984, (y_V3.u o987 (Or.inr o988)), (y_Y4.c o989), ⟨x995, rfl, by omega, by omega⟩⟩
            · exact T_ret ⟨c959, f961, (y_V3.z r969 (by omega)), (by first | exact y_Y4.z (by omega) | exact y_Y4.z7 (by omega)), ⟨(-1), rfl, by omega, by omega⟩⟩
          · refine T_if1 (by decide +kernel) ?_
            refine T_let 178 (by decide +kernel) ?_
            refine T_of (fX2_place_J32.eq_1 ..) ?_
            refine T_rR ?_
            refine T_if1 (by decide) ?_
            refine T_if1 (by decide +kernel) ?_
            refine T_useN (sf_X9_copyFrom_6_178 hfu s535 c536) (fun v1003 s998 hq => ?_)
            obtain ⟨c999, f1000, rfl⟩ := hq
            refine T_vN ?_
            have f1001 := z_Fr.tr (R := R_X11_undo_1) f537 f1000 rs_X9_copyFrom_6_178__X11_undo_1
            have t1006 : s998 33 1 = s535 33 1 := f1000 33 1 (by decide)
            have t1007 : s998 33 2 = s535 33 2 := f1000 33 2 (by decide)
            have t1008 : s998 191 16 = s535 191 16 := f1000 191 16 (by decide)
            have r1009 := y_B0.fr r545 (f1000 211 0 (by decide)) (f1000 213 0 (by decide))
            refine T_if1 (by unfold z_bl; omega) ?_
            refine T_rI ?_
            refine T_ite (fun h1010 => ?_) (fun h1010 => ?_)
            · refine T_if1 ⟨(by decide +kernel), by unfold z_bl; omega⟩ ?_
              refine T_upg c999 bd_1_16 (by omega) (fun s1011 c1012 g1014 g1015 e1016 => ?_)
              have f1013 := z_Fr.upf (R := R_X11_undo_1) f1001 g1014 g1015 (Or.inr (Or.inr (Or.inr (Or.inr (Or.inr (Or.inr (Or.inr (Or.inr (Or.inr (Or.inl (⟨rfl, by decide⟩)))))))))))
              have t1017 : s1011 33 1 = s998 33 1 := g1014 33 1 (by decide)
              have t1018 : s1011 33 2 = s998 33 2 := g1014 33 2 (by decide)
              have t1019 : s1011 191 16 = s998 191 16 := g1014 191 16 (by decide)
              have r1020 := y_B0.fr r1009 (g1014 211 0 (by decide)) (g1014 213 0 (by decide))
              refine T_if1 (by decide +kernel) ?_
              refine T_useN (sf_X11_refresh_1Y hfu s1011 c1012 (y_V3.z r1020 (by omega)) (by first | exact y_Y4.z (by omega) | exact y_Y4.z7 (by omega))) (fun v1026 s1021 hq => ?_)
              obtain ⟨c1022, f1023, o1027, o1028, o1029, rfl⟩ := hq
              refine T_vN ?_
              have f1024 := z_Fr.tr (R := R_X11_undo_1) f1013 f1023 rs_X11_refresh_1__X11_undo_1
              have t1032 : s1021 33 1 = s1011 33 1 := f1023 33 1 (by decide)
              have t1033 : s1021 33 2 = s1011 33 2 := f1023 33 2 (by decide)
              have u1034 := CI_b c1022 (k := 191) (j := 16) bd_191_16
              refine T_if1 (by decide +kernel) ?_
              refine T_let 191 (by decide +kernel) ?_
              refine T_if1 (by decide +kernel) ?_
              refine T_leq (fun x1035 e1036 => ?_)
              have u1037 := CI_b c1022 (k := 191) (j := 16) bd_191_16
              exact T_ret ⟨c1022, f1024, (y_V3.u o1027 (Or.inr o1028)), (y_Y4.c o1029), ⟨x1035, rfl, by omega, by omega⟩⟩
            · exact T_ret ⟨c999, f1001, (y_V3.z r1009 (by omega)), (by first | exact y_Y4.z (by omega) | exact y_Y4.z7 (by omega)), ⟨(-1), rfl, by omega, by omega⟩⟩
  · refine T_if1 (by unfold z_bl; omega) ?_
    refine T_rI ?_
    refine T_ite (fun h1038 => ?_) (fun h1038 => ?_)
    · refine T_if1 ⟨(by decide +kernel), by unfold z_bl; omega⟩ ?_
      refine T_upg c0 bd_1_16 (by omega) (fun s1039 c1040 g1042 g1043 e1044 => ?_)
      have f1041 := z_Fr.upf (R := R_X11_undo_1) z_Fr.rf g1042 g1043 (Or.inr (Or.inr (Or.inr (Or.inr (Or.inr (Or.inr (Or.inr (Or.inr (Or.inr (Or.inl (⟨rfl, by decide⟩)))))))))))
      have t1045 : s1039 33 1 = r0 33 1 := g1042 33 1 (by decide)
      have t1046 : s1039 33 2 = r0 33 2 := g1042 33 2 (by decide)
      have t1047 : s1039 191 16 = r0 191 16 := g1042 191 16 (by decide)
      have r1048 := y_B0.fr p0.1.1 (g1042 211 0 (by decide)) (g1042 213 0 (by decide))
      refine T_if1 (by decide +kernel) ?_
      refine T_useN (sf_X11_refresh_1Y hfu s1039 c1040 (y_V3.z r1048 (by omega)) (by first | exact y_Y4.z (by omega) | exact y_Y4.z7 (by omega))) (fun v1054 s1049 hq => ?_)
      obtain ⟨c1050, f1051, o1055, o1056, o1057, rfl⟩ := hq
      refine T_vN ?_
      have f1052 := z_Fr.tr (R := R_X11_undo_1) f1041 f1051 rs_X11_refresh_1__X11_undo_1
      have t1060 : s1049 33 1 = s1039 33 1 := f1051 33 1 (by decide)
      have t1061 : s1049 33 2 = s1039 33 2 := f1051 33 2 (by decide)
      have u1062 := CI_b c1050 (k := 191) (j := 16) bd_191_16
      refine T_if1 (by decide +kernel) ?_
      refine T_let 191 (by decide +kernel) ?_
      refine T_if1 (by decide +kernel) ?_
      refine T_leq (fun x1063 e1064 => ?_)
      have u1065 := CI_b c1050 (k := 191) (j := 16) bd_191_16
      exact T_ret ⟨c1050, f1052, (y_V3.u o1055 (Or.inr o1056)), (y_Y4.c o1057), ⟨x1063, rfl, by omega, by omega⟩⟩
    · exact T_ret ⟨c0, z_Fr.rf, p0, p1, ⟨(-1), rfl, by omega, by omega⟩⟩
abbrev P_X11_told_1Y (r0 : z_M) : z_V → z_M → Prop := fun v s' => z_CI s' ∧ z_Fr R_X11_told_1 r0 s' ∧ (y_V3 s') ∧ (y_Y4 s') ∧ ((∃ x, v = vL x ∧ -9223372036854775808 ≤ x ∧ x ≤ 9223372036854775807) ∨ v = vX 1)
theorem nr_X3_longest_258__260 (b : Int) : ¬ R_X3_longest_258 260 b := not_false
theorem nr_X3_longest_258__262 (b : Int) : ¬ R_X3_longest_258 262 b := not_false
theorem nr_X3_longest_258__264 (b : Int) : ¬ R_X3_longest_258 264 b := not_false
theorem nr_X3_longest_258__266 (b : Int) : ¬ R_X3_longest_258 266 b := not_false
theorem nr_X3_longest_258__268 (b : Int) : ¬ R_X3_longest_258 268 b := not_false
theorem nr_X3_longest_258__270 (b : Int) : ¬ R_X3_longest_258 270 b := not_false
theorem nr_X3_longest_258__272 (b : Int) : ¬ R_X3_longest_258 272 b := not_false
theorem nr_X3_longest_258__274 (b : Int) : ¬ R_X3_longest_258 274 b := not_false
theorem nr_X3_longest_258__276 (b : Int) : ¬ R_X3_longest_258 276 b := not_false
theorem nr_X3_longest_258__278 (b : Int) : ¬ R_X3_longest_258 278 b := not_false
theorem nr_X3_longest_258__281 (b : Int) : ¬ R_X3_longest_258 281 b := not_false
theorem nr_X3_longest_258__283 (b : Int) : ¬ R_X3_longest_258 283 b := not_false
theorem nr_X3_longest_258__285 (b : Int) : ¬ R_X3_longest_258 285 b := not_false
theorem nr_X3_longest_258__287 (b : Int) : ¬ R_X3_longest_258 287 b := not_false
theorem nr_X3_longest_258__289 (b : Int) : ¬ R_X3_longest_258 289 b := not_false
theorem nr_X3_longest_258__291 (b : Int) : ¬ R_X3_longest_258 291 b := not_false
theorem nr_X3_longest_258__293 (b : Int) : ¬ R_X3_longest_258 293 b := not_false
theorem nr_X3_longest_258__295 (b : Int) : ¬ R_X3_longest_258 295 b := not_false
theorem nr_X1_costs_240__260 (b : Int) : ¬ R_X1_costs_240 260 b := by
  unfold R_X1_costs_240; omega
theorem nr_X1_costs_240__262 (b : Int) : ¬ R_X1_costs_240 262 b := by
  unfold R_X1_costs_240; omega
theorem nr_X1_costs_240__264 (b : Int) : ¬ R_X1_costs_240 264 b := by
  unfold R_X1_costs_240; omega
theorem nr_X1_costs_240__266 (b : Int) : ¬ R_X1_costs_240 266 b := by
  unfold R_X1_costs_240; omega
theorem nr_X1_costs_240__268 (b : Int) : ¬ R_X1_costs_240 268 b := by
  unfold R_X1_costs_240; omega
theorem nr_X1_costs_240__270 (b : Int) : ¬ R_X1_costs_240 270 b := by
  unfold R_X1_costs_240; omega
theorem nr_X1_costs_240__272 (b : Int) : ¬ R_X1_costs_240 272 b := by
  unfold R_X1_costs_240; omega
theorem nr_X1_costs_240__274 (b : Int) : ¬ R_X1_costs_240 274 b := by
  unfold R_X1_costs_240; omega
theorem nr_X1_costs_240__276 (b : Int) : ¬ R_X1_costs_240 276 b := by
  unfold R_X1_costs_240; omega
theorem nr_X1_costs_240__278 (b : Int) : ¬ R_X1_costs_240 278 b := by
  unfold R_X1_costs_240; omega
theorem nr_X1_costs_240__281 (b : Int) : ¬ R_X1_costs_240 281 b := by
  unfold R_X1_costs_240; omega
theorem nr_X1_costs_240__283 (b : Int) : ¬ R_X1_costs_240 283 b := by
  unfold R_X1_costs_240; omega
theorem nr_X1_costs_240__285 (b : Int) : ¬ R_X1_costs_240 285 b := by
  unfold R_X1_costs_240; omega
theorem nr_X1_costs_240__287 (b : Int) : ¬ R_X1_costs_240 287 b := by
  unfold R_X1_costs_240; omega
theorem nr_X1_costs_240__289 (b : Int) : ¬ R_X1_costs_240 289 b := by
  unfold R_X1_costs_240; omega
theorem nr_X1_costs_240__291 (b : Int) : ¬ R_X1_costs_240 291 b := by
  unfold R_X1_costs_240; omega
theorem nr_X1_costs_240__293 (b : Int) : ¬ R_X1_costs_240 293 b := by
  unfold R_X1_costs_240; omega
theorem nr_X1_costs_240__295 (b : Int) : ¬ R_X1_costs_240 295 b := by
  unfold R_X1_costs_240; omega
theorem nr_X1_tooLong_240__260 (b : Int) : ¬ R_X1_tooLong_240 260 b := by
  unfold R_X1_tooLong_240; omega
theorem nr_X1_tooLong_240__262 (b : Int) : ¬ R_X1_tooLong_240 262 b := by
  unfold R_X1_tooLong_240; omega
theorem nr_X1_tooLong_240__264 (b : Int) : ¬ R_X1_tooLong_240 264 b := by
  unfold R_X1_tooLong_240; omega
theorem nr_X1_tooLong_240__266 (b : Int) : ¬ R_X1_tooLong_240 266 b := by
  unfold R_X1_tooLong_240; omega
theorem nr_X1_tooLong_240__268 (b : Int) : ¬ R_X1_tooLong_240 268 b := by
  unfold R_X1_tooLong_240; omega
theorem nr_X1_tooLong_240__270 (b : Int) : ¬ R_X1_tooLong_240 270 b := by
  unfold R_X1_tooLong_240; omega
theorem nr_X1_tooLong_240__272 (b : Int) : ¬ R_X1_tooLong_240 272 b := by
  unfold R_X1_tooLong_240; omega
theorem nr_X1_tooLong_240__274 (b : Int) : ¬ R_X1_tooLong_240 274 b := by
  unfold R_X1_tooLong_240; omega
theorem nr_X1_tooLong_240__276 (b : Int) : ¬ R_X1_tooLong_240 276 b := by
  unfold R_X1_tooLong_240; omega
theorem nr_X1_tooLong_240__278 (b : Int) : ¬ R_X1_tooLong_240 278 b := by
  unfold R_X1_tooLong_240; omega
theorem nr_X1_tooLong_240__281 (b : Int) : ¬ R_X1_tooLong_240 281 b := by
  unfold R_X1_tooLong_240; omega
theorem nr_X1_tooLong_240__283 (b : Int) : ¬ R_X1_tooLong_240 283 b := by
  unfold R_X1_tooLong_240; omega
theorem nr_X1_tooLong_240__285 (b : Int) : ¬ R_X1_tooLong_240 285 b := by
  unfold R_X1_tooLong_240; omega
theorem nr_X1_tooLong_240__287 (b : Int) : ¬ R_X1_tooLong_240 287 b := by
  unfold R_X1_tooLong_240; omega
theorem nr_X1_tooLong_240__289 (b : Int) : ¬ R_X1_tooLong_240 289 b := by
  unfold R_X1_tooLong_240; omega
theorem nr_X1_tooLong_240__291 (b : Int) : ¬ R_X1_tooLong_240 291 b := by
  unfold R_X1_tooLong_240; omega
theorem nr_X1_tooLong_240__293 (b : Int) : ¬ R_X1_tooLong_240 293 b := by
  unfold R_X1_tooLong_240; omega
theorem nr_X1_tooLong_240__295 (b : Int) : ¬ R_X1_tooLong_240 295 b := by
  unfold R_X1_tooLong_240; omega
set_option maxHeartbeats 4000000 in
theorem sf_X11_told_1Y {fu : Nat} (hfu : 8589934592 ≤ fu) (r0 : z_M) (c0 : z_CI r0) (a1 : Int) (b1 : -2147483648 ≤ a1 ∧ a1 ≤ 2147483647) (p0 : y_V3 r0) (p1 : y_Y4 r0) : z_T (fX11_told fu r0 1 a1) (P_X11_told_1Y r0) := by
  refine T_of (fX11_told.eq_1 ..) ?_
  refine T_if1 (by decide +kernel) ?_
  refine T_nw ?_ (fun h1 h2 => ?_)
  · exact T_ret ⟨CI_up c0 bd_1_15 (z_wb rfl).1, z_Fr.upf (R := R_X11_told_1) z_Fr.rf (fun a b h => z_up_k h) (fun b h => z_up_j h) (Or.inr (Or.inr (Or.inr (Or.inr (Or.inr (Or.inr (Or.inr (Or.inl (⟨rfl, by decide⟩))))))))), y_V3.fr p0 (z_up_j (by decide)) (z_up_j (by decide)) (z_up_k (by decide)) (z_up_k (by decide)) (z_up_k (by decide)) (z_up_k (by decide)) (fun _ => z_up_k (by decide)) (fun _ => z_up_k (by decide)) (fun _ => z_up_k (by decide)) (fun _ => z_up_k (by decide)) (fun _ => z_up_k (by decide)) (fun _ => z_up_k (by decide)) (fun _ => z_up_k (by decide)) (fun _ => z_up_k (by decide)) (fun _ => z_up_k (by decide)) (fun _ => z_up_k (by decide)) (fun _ => z_up_k (by decide)) (fun _ => z_up_k (by decide)) (fun _ => z_up_k (by decide)) (fun _ => z_up_k (by decide)) (fun _ => z_up_k (by decide)) (fun _ => z_up_k (by decide)) (fun _ => z_up_k (by decide)) (fun _ => z_up_k (by decide)) (fun _ => z_up_k (by decide)) (fun _ => z_up_k (by decide)) (fun _ => z_up_k (by decide)) (z_up_k (by decide)) (fun _ => z_up_k (by decide)), y_Y4.fr p1 (z_up_j (by decide)) (z_up_j (by decide)) (z_up_k (by decide)) (z_up_k (by decide)) (z_up_k (by decide)) (z_up_k (by decide)) (fun _ => z_up_k (by decide)) (fun _ => z_up_k (by decide)) (fun _ => z_up_k (by decide)) (fun _ => z_up_k (by decide)) (fun _ => z_up_k (by decide)) (fun _ => z_up_k (by decide)) (fun _ => z_up_k (by decide)) (fun _ => z_up_k (by decide)) (fun _ => z_up_k (by decide)) (fun _ => z_up_k (by decide)) (fun _ => z_up_k (by decide)) (fun _ => z_up_k (by decide)) (fun _ => z_up_k (by decide)) (fun _ => z_up_k (by decide)) (fun _ => z_up_k (by decide)) (fun _ => z_up_k (by decide)) (fun _ => z_up_k (by decide)) (fun _ => z_up_k (by decide)) (fun _ => z_up_k (by decide)) (fun _ => z_up_k (by decide)) (z_up_k (by decide)) (fun _ => z_up_k (by decide)) (fun _ => z_up_k (by decide)) (fun _ => z_up_k (by decide)) (fun _ => z_up_k (by decide)) (fun _ => z_up_k (by decide)) (fun _ => z_up_k (by decide)) (fun _ => z_up_k (by decide)) (fun _ => z_up_k (by decide)) (fun _ => z_up_k (by decide)) (fun _ => z_up_k (by decide)) (fun _ => z_up_k (by decide)) (z_up_k (by decide)) (fun _ => z_up_k (by decide)) (fun _ => z_up_k (by decide)) (fun _ => z_up_k (by decide)) (fun _ => z_up_k (by decide)) (fun _ => z_up_k (by decide)) (fun _ => z_up_k (by decide)) (fun _ => z_up_k (by decide)) (fun _ => z_up_k (by decide)), Or.inr rfl⟩
  refine T_if1 (by decide +kernel) ?_
  refine T_useN (sf_X11_refresh_1Y hfu r0 c0 p0 p1) (fun v8 s3 hq => ?_)
  obtain ⟨c4, f5, o9, o10, o11, rfl⟩ := hq
  refine T_vN ?_
  have f6 := z_Fr.tr (R := R_X11_told_1) z_Fr.rf f5 rs_X11_refresh_1__X11_told_1
  have t14 : s3 1 12 = r0 1 12 := f5 1 12 (by decide)
  have t15 : s3 6 6 = r0 6 6 := f5 6 6 (by decide)
  have t16 : s3 6 7 = r0 6 7 := f5 6 7 (by decide)
  have t17 : s3 33 2 = r0 33 2 := f5 33 2 (by decide)
  have u18 := CI_b c4 (k := 191) (j := 16) bd_191_16
  have u19 := CI_b c4 (k := 191) (j := 17) bd_191_17
  have u20 := CI_b c4 (k := 191) (j := 18) bd_191_18
  have u21 := CI_b c4 (k := 240) (j := 6) bd_240_6
  refine T_ite (fun h22 => ?_) (fun h22 => ?_)
  · refine T_if1 (by decide +kernel) ?_
    refine T_let 191 (by decide +kernel) ?_
    refine T_if1 (by decide +kernel) ?_
    refine T_leq (fun x23 e24 => ?_)
    have u25 := CI_b c4 (k := 191) (j := 16) bd_191_16
    exact T_ret ⟨c4, f6, (y_V3.u o9 (Or.inr o10)), (y_Y4.c o11), Or.inl (⟨x23, rfl, by omega, by omega⟩)⟩
  · refine T_ite (fun h26 => ?_) (fun h26 => ?_)
    · refine T_if1 (by decide +kernel) ?_
      refine T_let 6 (by decide +kernel) ?_
      refine T_if1 (by decide +kernel) ?_
      refine T_leq (fun x27 e28 => ?_)
      have u29 := CI_b c4 (k := 6) (j := 6) bd_6_6
      exact T_ret ⟨c4, f6, (y_V3.u o9 (Or.inr o10)), (y_Y4.c o11), Or.inl (⟨x27, rfl, by omega, by omega⟩)⟩
    · refine T_ite (fun h30 => ?_) (fun h30 => ?_)
      · refine T_if1 (by decide +kernel) ?_
        refine T_let 6 (by decide +kernel) ?_
        refine T_if1 (by decide +kernel) ?_
        refine T_leq (fun x31 e32 => ?_)
        have u33 := CI_b c4 (k := 6) (j := 7) bd_6_7
        exact T_ret ⟨c4, f6, (y_V3.u o9 (Or.inr o10)), (y_Y4.c o11), Or.inl (⟨x31, rfl, by omega, by omega⟩)⟩
      · refine T_ite (fun h34 => ?_) (fun h34 => ?_)
        · refine T_if1 (by decide +kernel) ?_
          refine T_let 240 (by decide +kernel) ?_
          refine T_if1 (by decide +kernel) ?_
          refine T_leq (fun x35 e36 => ?_)
          have u37 := CI_b c4 (k := 240) (j := 6) bd_240_6
          exact T_ret ⟨c4, f6, (y_V3.u o9 (Or.inr o10)), (y_Y4.c o11), Or.inl (⟨x35, rfl, by omega, by omega⟩)⟩
        · refine T_ite (fun h38 => ?_) (fun h38 => ?_)
          · refine T_if1 (by decide +kernel) ?_
            refine T_let 258 (by decide +kernel) ?_
            refine T_if1 (by decide +kernel) ?_
            refine T_useI (sf_X3_longest_258 hfu s3 c4) (fun v44 s39 hq => ?_)
            obtain ⟨c40, f41, ⟨x43, rfl, b45, b46⟩⟩ := hq
            refine T_vI ?_
            have f42 := z_Fr.tr (R := R_X11_told_1) f6 f41 (fun a b h => absurd h not_false)
            have t47 : s39 1 12 = s3 1 12 := f41 1 12 (by decide)
            have t48 : s39 6 6 = s3 6 6 := f41 6 6 (by decide)
            have t49 : s39 6 7 = s3 6 7 := f41 6 7 (by decide)
            have t50 : s39 33 2 = s3 33 2 := f41 33 2 (by decide)
            have t51 : s39 191 16 = s3 191 16 := f41 191 16 (by decide)
            have t52 : s39 191 17 = s3 191 17 := f41 191 17 (by decide)
            have t53 : s39 191 18 = s3 191 18 := f41 191 18 (by decide)
            have t54 : s39 240 6 = s3 240 6 := f41 240 6 (by decide)
            have r55 := y_U3.fr o9 (f41 191 16 (by decide)) (f41 6 6 (by decide)) (f41 191 17 (by decide)) (f41 191 18 (by decide)) (fun b => f41 3 b (nr_X3_longest_258__3 b)) (fun b => f41 8 b (nr_X3_longest_258__8 b)) (fun b => f41 12 b (nr_X3_longest_258__12 b)) (fun b => f41 14 b (nr_X3_longest_258__14 b)) (fun b => f41 16 b (nr_X3_longest_258__16 b)) (fun b => f41 18 b (nr_X3_longest_258__18 b)) (fun b => f41 193 b (nr_X3_longest_258__193 b)) (fun b => f41 195 b (nr_X3_longest_258__195 b)) (fun b => f41 197 b (nr_X3_longest_258__197 b)) (fun b => f41 199 b (nr_X3_longest_258__199 b)) (fun b => f41 201 b (nr_X3_longest_258__201 b)) (fun b => f41 203 b (nr_X3_longest_258__203 b)) (fun b => f41 205 b (nr_X3_longest_258__205 b)) (fun b => f41 207 b (nr_X3_longest_258__207 b)) (fun b => f41 209 b (nr_X3_longest_258__209 b)) (fun b => f41 211 b (nr_X3_longest_258__211 b)) (fun b => f41 213 b (nr_X3_longest_258__213 b)) (fun b => f41 215 b (nr_X3_longest_258__215 b)) (fun b => f41 217 b (nr_X3_longest_258__217 b)) (fun b => f41 219 b (nr_X3_longest_258__219 b)) (fun b => f41 222 b (nr_X3_longest_258__222 b))
            have r56 := y_SA.fr o10 (f41 191 16 (by decide)) (f41 6 6 (by decide)) (f41 191 17 (by decide)) (f41 191 18 (by decide)) (fun b => f41 3 b (nr_X3_longest_258__3 b)) (fun b => f41 8 b (nr_X3_longest_258__8 b)) (fun b => f41 12 b (nr_X3_longest_258__12 b)) (fun b => f41 14 b (nr_X3_longest_258__14 b)) (fun b => f41 16 b (nr_X3_longest_258__16 b)) (fun b => f41 18 b (nr_X3_longest_258__18 b)) (fun b => f41 193 b (nr_X3_longest_258__193 b)) (fun b => f41 195 b (nr_X3_longest_258__195 b)) (fun b => f41 197 b (nr_X3_longest_258__197 b)) (fun b => f41 199 b (nr_X3_longest_258__199 b)) (fun b => f41 201 b (nr_X3_longest_258__201 b)) (fun b => f41 203 b (nr_X3_longest_258__203 b)) (fun b => f41 205 b (nr_X3_longest_258__205 b)) (fun b => f41 207 b (nr_X3_longest_258__207 b)) (fun b => f41 209 b (nr_X3_longest_258__209 b)) (fun b => f41 211 b (nr_X3_longest_258__211 b)) (fun b => f41 213 b (nr_X3_longest_258__213 b)) (fun b => f41 215 b (nr_X3_longest_258__215 b)) (fun b => f41 217 b (nr_X3_longest_258__217 b)) (fun b => f41 219 b (nr_X3_longest_258__219 b)) (f41 240 6 (by decide)) (fun b => f41 248 b (nr_X3_longest_258__248 b))
            have r57 := y_YC.fr o11 (f41 191 16 (by decide)) (f41 6 6 (by decide)) (f41 191 17 (by decide)) (f41 191 18 (by decide)) (fun b => f41 3 b (nr_X3_longest_258__3 b)) (fun b => f41 8 b (nr_X3_longest_258__8 b)) (fun b => f41 12 b (nr_X3_longest_258__12 b)) (fun b => f41 14 b (nr_X3_longest_258__14 b)) (fun b => f41 16 b (nr_X3_longest_258__16 b)) (fun b => f41 18 b (nr_X3_longest_258__18 b)) (fun b => f41 193 b (nr_X3_longest_258__193 b)) (fun b => f41 195 b (nr_X3_longest_258__195 b)) (fun b => f41 197 b (nr_X3_longest_258__197 b)) (fun b => f41 199 b (nr_X3_longest_258__199 b)) (fun b => f41 201 b (nr_X3_longest_258__201 b)) (fun b => f41 203 b (nr_X3_longest_258__203 b)) (fun b => f41 205 b (nr_X3_longest_258__205 b)) (fun b => f41 207 b (nr_X3_longest_258__207 b)) (fun b => f41 209 b (nr_X3_longest_258__209 b)) (fun b => f41 211 b (nr_X3_longest_258__211 b)) (fun b => f41 213 b (nr_X3_longest_258__213 b)) (fun b => f41 215 b (nr_X3_longest_258__215 b)) (fun b => f41 217 b (nr_X3_longest_258__217 b)) (fun b => f41 219 b (nr_X3_longest_258__219 b)) (f41 240 6 (by decide)) (fun b => f41 248 b (nr_X3_longest_258__248 b)) (fun b => f41 260 b (nr_X3_longest_258__260 b)) (fun b => f41 262 b (nr_X3_longest_258__262 b)) (fun b => f41 264 b (nr_X3_longest_258__264 b)) (fun b => f41 266 b (nr_X3_longest_258__266 b)) (fun b => f41 268 b (nr_X3_longest_258__268 b)) (fun b => f41 270 b (nr_X3_longest_258__270 b)) (fun b => f41 272 b (nr_X3_longest_258__272 b)) (fun b => f41 274 b (nr_X3_longest_258__274 b)) (fun b => f41 276 b (nr_X3_longest_258__276 b)) (fun b => f41 278 b (nr_X3_longest_258__278 b)) (f41 279 9 (by decide)) (fun b => f41 281 b (nr_X3_longest_258__281 b)) (fun b => f41 283 b (nr_X3_longest_258__283 b)) (fun b => f41 285 b (nr_X3_longest_258__285 b)) (fun b => f41 287 b (nr_X3_longest_258__287 b)) (fun b => f41 289 b (nr_X3_longest_258__289 b)) (fun b => f41 291 b (nr_X3_longest_258__291 b)) (fun b => f41 293 b (nr_X3_longest_258__293 b)) (fun b => f41 295 b (nr_X3_longest_258__295 b))
            have r58 := y_B0.fr o9.1.1 (f41 211 0 (by decide)) (f41 213 0 (by decide))
            exact T_ret ⟨c40, f42, (y_V3.u r55 (Or.inr r56)), (y_Y4.c r57), Or.inl (⟨x43, rfl, by omega, by omega⟩)⟩
          · refine T_ite (fun h59 => ?_) (fun h59 => ?_)
            · refine T_if1 (by decide +kernel) ?_
              refine T_let 240 (by decide +kernel) ?_
              refine T_if1 (by decide +kernel) ?_
              refine T_let 2 (by decide +kernel) ?_
              refine T_if1 (by decide +kernel) ?_
              refine T_get (by decide +kernel) (c := 3) (by decide +kernel) bdr_3 (by decide) c4 (fun x60 e61 b62 w63 => ?_)
              have l64 : z_ln 2 = 9 := by decide +kernel
              refine T_if1 (by decide +kernel) ?_
              refine T_useL (sf_X1_costs_240K hfu s3 c4 x60 (by omega) o9 o10) (fun v70 s65 hq => ?_)
              obtain ⟨c66, f67, o71, ⟨x69, rfl, b72, b73⟩⟩ := hq
              refine T_vL ?_
              have f68 := z_Fr.tr (R := R_X11_told_1) f6 f67 rs_X1_costs_240__X11_told_1
              have t74 : s65 1 12 = s3 1 12 := f67 1 12 (by decide)
              have t75 : s65 6 6 = s3 6 6 := f67 6 6 (by decide)
              have t76 : s65 6 7 = s3 6 7 := f67 6 7 (by decide)
              have t77 : s65 33 2 = s3 33 2 := f67 33 2 (by decide)
              have t78 : s65 191 16 = s3 191 16 := f67 191 16 (by decide)
              have t79 : s65 191 17 = s3 191 17 := f67 191 17 (by decide)
              have t80 : s65 191 18 = s3 191 18 := f67 191 18 (by decide)
              have t81 : s65 240 6 = s3 240 6 := f67 240 6 (by decide)
              have r82 := y_SA.fr o10 (f67 191 16 (by decide)) (f67 6 6 (by decide)) (f67 191 17 (by decide)) (f67 191 18 (by decide)) (fun b => f67 3 b (nr_X1_costs_240__3 b)) (fun b => f67 8 b (nr_X1_costs_240__8 b)) (fun b => f67 12 b (nr_X1_costs_240__12 b)) (fun b => f67 14 b (nr_X1_costs_240__14 b)) (fun b => f67 16 b (nr_X1_costs_240__16 b)) (fun b => f67 18 b (nr_X1_costs_240__18 b)) (fun b => f67 193 b (nr_X1_costs_240__193 b)) (fun b => f67 195 b (nr_X1_costs_240__195 b)) (fun b => f67 197 b (nr_X1_costs_240__197 b)) (fun b => f67 199 b (nr_X1_costs_240__199 b)) (fun b => f67 201 b (nr_X1_costs_240__201 b)) (fun b => f67 203 b (nr_X1_costs_240__203 b)) (fun b => f67 205 b (nr_X1_costs_240__205 b)) (fun b => f67 207 b (nr_X1_costs_240__207 b)) (fun b => f67 209 b (nr_X1_costs_240__209 b)) (fun b => f67 211 b (nr_X1_costs_240__211 b)) (fun b => f67 213 b (nr_X1_costs_240__213 b)) (fun b => f67 215 b (nr_X1_costs_240__215 b)) (fun b => f67 217 b (nr_X1_costs_240__217 b)) (fun b => f67 219 b (nr_X1_costs_240__219 b)) (f67 240 6 (by decide)) (fun b => f67 248 b (nr_X1_costs_240__248 b))
              have r83 := y_YC.fr o11 (f67 191 16 (by decide)) (f67 6 6 (by decide)) (f67 191 17 (by decide)) (f67 191 18 (by decide)) (fun b => f67 3 b (nr_X1_costs_240__3 b)) (fun b => f67 8 b (nr_X1_costs_240__8 b)) (fun b => f67 12 b (nr_X1_costs_240__12 b)) (fun b => f67 14 b (nr_X1_costs_240__14 b)) (fun b => f67 16 b (nr_X1_costs_240__16 b)) (fun b => f67 18 b (nr_X1_costs_240__18 b)) (fun b => f67 193 b (nr_X1_costs_240__193 b)) (fun b => f67 195 b (nr_X1_costs_240__195 b)) (fun b => f67 197 b (nr_X1_costs_240__197 b)) (fun b => f67 199 b (nr_X1_costs_240__199 b)) (fun b => f67 201 b (nr_X1_costs_240__201 b)) (fun b => f67 203 b (nr_X1_costs_240__203 b)) (fun b => f67 205 b (nr_X1_costs_240__205 b)) (fun b => f67 207 b (nr_X1_costs_240__207 b)) (fun b => f67 209 b (nr_X1_costs_240__209 b)) (fun b => f67 211 b (nr_X1_costs_240__211 b)) (fun b => f67 213 b (nr_X1_costs_240__213 b)) (fun b => f67 215 b (nr_X1_costs_240__215 b)) (fun b => f67 217 b (nr_X1_costs_240__217 b)) (fun b => f67 219 b (nr_X1_costs_240__219 b)) (f67 240 6 (by decide)) (fun b => f67 248 b (nr_X1_costs_240__248 b)) (fun b => f67 260 b (nr_X1_costs_240__260 b)) (fun b => f67 262 b (nr_X1_costs_240__262 b)) (fun b => f67 264 b (nr_X1_costs_240__264 b)) (fun b => f67 266 b (nr_X1_costs_240__266 b)) (fun b => f67 268 b (nr_X1_costs_240__268 b)) (fun b => f67 270 b (nr_X1_costs_240__270 b)) (fun b => f67 272 b (nr_X1_costs_240__272 b)) (fun b => f67 274 b (nr_X1_costs_240__274 b)) (fun b => f67 276 b (nr_X1_costs_240__276 b)) (fun b => f67 278 b (nr_X1_costs_240__278 b)) (f67 279 9 (by decide)) (fun b => f67 281 b (nr_X1_costs_240__281 b)) (fun b => f67 283 b (nr_X1_costs_240__283 b)) (fun b => f67 285 b (nr_X1_costs_240__285 b)) (fun b => f67 287 b (nr_X1_costs_240__287 b)) (fun b => f67 289 b (nr_X1_costs_240__289 b)) (fun b => f67 291 b (nr_X1_costs_240__291 b)) (fun b => f67 293 b (nr_X1_costs_240__293 b)) (fun b => f67 295 b (nr_X1_costs_240__295 b))
              have r84 := y_B0.fr o9.1.1 (f67 211 0 (by decide)) (f67 213 0 (by decide))
              exact T_ret ⟨c66, f68, (y_V3.u o71 (Or.inr r82)), (y_Y4.c r83), Or.inl (⟨x69, rfl, by omega, by omega⟩)⟩
            · refine T_ite (fun h85 => ?_) (fun h85 => ?_)
              · refine T_if1 (by decide +kernel) ?_
                refine T_let 2 (by decide +kernel) ?_
                refine T_leq (fun x86 e87 => ?_)
                have w88 := z_wr e87
                refine T_if1 (by decide +kernel) ?_
                refine T_get (by decide +kernel) (c := 3) (by decide +kernel) bdr_3 (by decide) c4 (fun x89 e90 b91 w92 => ?_)
                have l93 : z_ln 2 = 9 := by decide +kernel
                exact T_ret ⟨c4, f6, (y_V3.u o9 (Or.inr o10)), (y_Y4.c o11), Or.inl (⟨x89, rfl, by omega, by omega⟩)⟩
              · refine T_ite (fun h94 => ?_) (fun h94 => ?_)
                · refine T_if1 (by decide +kernel) ?_
                  refine T_let 2 (by decide +kernel) ?_
                  refine T_leq (fun x95 e96 => ?_)
                  have w97 := z_wr e96
                  refine T_if1 (by decide +kernel) ?_
                  refine T_get (by decide +kernel) (c := 3) (by decide +kernel) bdr_3 (by decide) c4 (fun x98 e99 b100 w101 => ?_)
                  have l102 : z_ln 2 = 9 := by decide +kernel
                  exact T_ret ⟨c4, f6, (y_V3.u o9 (Or.inr o10)), (y_Y4.c o11), Or.inl (⟨x98, rfl, by omega, by omega⟩)⟩
                · refine T_ite (fun h103 => ?_) (fun h103 => ?_)
                  · refine T_if1 (by decide +kernel) ?_
                    refine T_let 2 (by decide +kernel) ?_
                    refine T_leq (fun x104 e105 => ?_)
                    have w106 := z_wr e105
                    refine T_if1 (by decide +kernel) ?_
                    refine T_get (by decide +kernel) (c := 3) (by decide +kernel) bdr_3 (by decide) c4 (fun x107 e108 b109 w110 => ?_)
                    have l111 : z_ln 2 = 9 := by decide +kernel
                    exact T_ret ⟨c4, f6, (y_V3.u o9 (Or.inr o10)), (y_Y4.c o11), Or.inl (⟨x107, rfl, by omega, by omega⟩)⟩
                  · refine T_ite (fun h112 => ?_) (fun h112 => ?_)
                    · refine T_if1 (by decide +kernel) ?_
                      refine T_let 2 (by decide +kernel) ?_
                      refine T_leq (fun x113 e114 => ?_)
                      have w115 := z_wr e114
                      refine T_if1 (by decide +kernel) ?_
                      refine T_get (by decide +kernel) (c := 3) (by decide +kernel) bdr_3 (by decide) c4 (fun x116 e117 b118 w119 => ?_)
                      have l120 : z_ln 2 = 9 := by decide +kernel
                      exact T_ret ⟨c4, f6, (y_V3.u o9 (Or.inr o10)), (y_Y4.c o11), Or.inl (⟨x116, rfl, by omega, by omega⟩)⟩
                    · refine T_ite (fun h121 => ?_) (fun h121 => ?_)
                      · refine T_if1 (by decide +kernel) ?_
                        refine T_let 2 (by decide +kernel) ?_
                        refine T_leq (fun x122 e123 => ?_)
                        have w124 := z_wr e123
                        refine T_if1 (by decide +kernel) ?_
                        refine T_get (by decide +kernel) (c := 3) (by decide +kernel) bdr_3 (by decide) c4 (fun x125 e126 b127 w128 => ?_)
                        have l129 : z_ln 2 = 9 := by decide +kernel
                        exact T_ret ⟨c4, f6, (y_V3.u o9 (Or.inr o10)), (y_Y4.c o11), Or.inl (⟨x125, rfl, by omega, by omega⟩)⟩
                      · refine T_ite (fun h130 => ?_) (fun h130 => ?_)
                        · refine T_if1 (by decide +kernel) ?_
                          refine T_let 2 (by decide +kernel) ?_
                          refine T_leq (fun x131 e132 => ?_)
                          have w133 := z_wr e132
                          refine T_if1 (by decide +kernel) ?_
                          refine T_get (by decide +kernel) (c := 3) (by decide +kernel) bdr_3 (by decide) c4 (fun x134 e135 b136 w137 => ?_)
                          have l138 : z_ln 2 = 9 := by decide +kernel
                          exact T_ret ⟨c4, f6, (y_V3.u o9 (Or.inr o10)), (y_Y4.c o11), Or.inl (⟨x134, rfl, by omega, by omega⟩)⟩
                        · refine T_ite (fun h139 => ?_) (fun h139 => ?_)
                          · refine T_if1 (by decide +kernel) ?_
                            refine T_let 2 (by decide +kernel) ?_
                            refine T_leq (fun x140 e141 => ?_)
                            have w142 := z_wr e141
                            refine T_if1 (by decide +kernel) ?_
                            refine T_get (by decide +kernel) (c := 3) (by decide +kernel) bdr_3 (by decide) c4 (fun x143 e144 b145 w146 => ?_)
                            have l147 : z_ln 2 = 9 := by decide +kernel
                            exact T_ret ⟨c4, f6, (y_V3.u o9 (Or.inr o10)), (y_Y4.c o11), Or.inl (⟨x143, rfl, by omega, by omega⟩)⟩
                          · refine T_ite (fun h148 => ?_) (fun h148 => ?_)
                            · refine T_if1 (by decide +kernel) ?_
                              refine T_let 33 (by decide +kernel) ?_
                              refine T_if1 (by decide +kernel) ?_
                              refine T_leq (fun x149 e150 => ?_)
                              have u151 := CI_b c4 (k := 33) (j := 2) bd_33_2
                              exact T_ret ⟨c4, f6, (y_V3.u o9 (Or.inr o10)), (y_Y4.c o11), Or.inl (⟨x149, rfl, by omega, by omega⟩)⟩
                            · refine T_ite (fun h152 => ?_) (fun h152 => ?_)
                              · refine T_if1 (by decide +kernel) ?_
                                refine T_leq (fun x153 e154 => ?_)
                                have u155 := CI_b c4 (k := 1) (j := 12) bd_1_12
                                exact T_ret ⟨c4, f6, (y_V3.u o9 (Or.inr o10)), (y_Y4.c o11), Or.inl (⟨x153, rfl, by omega, by omega⟩)⟩
                              · refine T_ite (fun h156 => ?_) (fun h156 => ?_)
                                · refine T_if1 (by decide +kernel) ?_
                                  refine T_let 240 (by decide +kernel) ?_
                                  refine T_if1 (by decide +kernel) ?_
                                  refine T_let 2 (by decide +kernel) ?_
                                  refine T_if1 (by decide +kernel) ?_
                                  refine T_get (by decide +kernel) (c := 3) (by decide +kernel) bdr_3 (by decide) c4 (fun x157 e158 b159 w160 => ?_)
                                  have l161 : z_ln 2 = 9 := by decide +kernel
                                  refine T_if1 (by decide +kernel) ?_
                                  refine T_useI (sf_X1_tooLong_240K hfu s3 c4 x157 (by omega) o9 o10) (fun v167 s162 hq => ?_)
                                  obtain ⟨c163, f164, o168, ⟨x166, rfl, b169, b170⟩⟩ := hq
                                  refine T_vI ?_
                                  have f165 := z_Fr.tr (R := R_X11_told_1) f6 f164 rs_X1_tooLong_240__X11_told_1
                                  have t171 : s162 1 12 = s3 1 12 := f164 1 12 (by decide)
                                  have t172 : s162 6 6 = s3 6 6 := f164 6 6 (by decide)
                                  have t173 : s162 6 7 = s3 6 7 := f164 6 7 (by decide)
                                  have t174 : s162 33 2 = s3 33 2 := f164 33 2 (by decide)
                                  have t175 : s162 191 16 = s3 191 16 := f164 191 16 (by decide)
                                  have t176 : s162 191 17 = s3 191 17 := f164 191 17 (by decide)
                                  have t177 : s162 191 18 = s3 191 18 := f164 191 18 (by decide)
                                  have t178 : s162 240 6 = s3 240 6 := f164 240 6 (by decide)
                                  have r179 := y_SA.fr o10 (f164 191 16 (by decide)) (f164 6 6 (by decide)) (f164 191 17 (by decide)) (f164 191 18 (by decide)) (fun b => f164 3 b (nr_X1_tooLong_240__3 b)) (fun b => f164 8 b (nr_X1_tooLong_240__8 b)) (fun b => f164 12 b (nr_X1_tooLong_240__12 b)) (fun b => f164 14 b (nr_X1_tooLong_240__14 b)) (fun b => f164 16 b (nr_X1_tooLong_240__16 b)) (fun b => f164 18 b (nr_X1_tooLong_240__18 b)) (fun b => f164 193 b (nr_X1_tooLong_240__193 b)) (fun b => f164 195 b (nr_X1_tooLong_240__195 b)) (fun b => f164 197 b (nr_X1_tooLong_240__197 b)) (fun b => f164 199 b (nr_X1_tooLong_240__199 b)) (fun b => f164 201 b (nr_X1_tooLong_240__201 b)) (fun b => f164 203 b (nr_X1_tooLong_240__203 b)) (fun b => f164 205 b (nr_X1_tooLong_240__205 b)) (fun b => f164 207 b (nr_X1_tooLong_240__207 b)) (fun b => f164 209 b (nr_X1_tooLong_240__209 b)) (fun b => f164 211 b (nr_X1_tooLong_240__211 b)) (fun b => f164 213 b (nr_X1_tooLong_240__213 b)) (fun b => f164 215 b (nr_X1_tooLong_240__215 b)) (fun b => f164 217 b (nr_X1_tooLong_240__217 b)) (fun b => f164 219 b (nr_X1_tooLong_240__219 b)) (f164 240 6 (by decide)) (fun b => f164 248 b (nr_X1_tooLong_240__248 b))
                                  have r180 := y_YC.fr o11 (f164 191 16 (by decide)) (f164 6 6 (by decide)) (f164 191 17 (by decide)) (f164 191 18 (by decide)) (fun b => f164 3 b (nr_X1_tooLong_240__3 b)) (fun b => f164 8 b (nr_X1_tooLong_240__8 b)) (fun b => f164 12 b (nr_X1_tooLong_240__12 b)) (fun b => f164 14 b (nr_X1_tooLong_240__14 b)) (fun b => f164 16 b (nr_X1_tooLong_240__16 b)) (fun b => f164 18 b (nr_X1_tooLong_240__18 b)) (fun b => f164 193 b (nr_X1_tooLong_240__193 b)) (fun b => f164 195 b (nr_X1_tooLong_240__195 b)) (fun b => f164 197 b (nr_X1_tooLong_240__197 b)) (fun b => f164 199 b (nr_X1_tooLong_240__199 b)) (fun b => f164 201 b (nr_X1_tooLong_240__201 b)) (fun b => f164 203 b (nr_X1_tooLong_240__203 b)) (fun b => f164 205 b (nr_X1_tooLong_240__205 b)) (fun b => f164 207 b (nr_X1_tooLong_240__207 b)) (fun b => f164 209 b (nr_X1_tooLong_240__209 b)) (fun b => f164 211 b (nr_X1_tooLong_240__211 b)) (fun b => f164 213 b (nr_X1_tooLong_240__213 b)) (fun b => f164 215 b (nr_X1_tooLong_240__215 b)) (fun b => f164 217 b (nr_X1_tooLong_240__217 b)) (fun b => f164 219 b (nr_X1_tooLong_240__219 b)) (f164 240 6 (by decide)) (fun b => f164 248 b (nr_X1_tooLong_240__248 b)) (fun b => f164 260 b (nr_X1_tooLong_240__260 b)) (fun b => f164 262 b (nr_X1_tooLong_240__262 b)) (fun b => f164 264 b (nr_X1_tooLong_240__264 b)) (fun b => f164 266 b (nr_X1_tooLong_240__266 b)) (fun b => f164 268 b (nr_X1_tooLong_240__268 b)) (fun b => f164 270 b (nr_X1_tooLong_240__270 b)) (fun b => f164 272 b (nr_X1_tooLong_240__272 b)) (fun b => f164 274 b (nr_X1_tooLong_240__274 b)) (fun b => f164 276 b (nr_X1_tooLong_240__276 b)) (fun b => f164 278 b (nr_X1_tooLong_240__278 b)) (f164 279 9 (by decide)) (fun b => f164 281 b (nr_X1_tooLong_240__281 b)) (fun b => f164 283 b (nr_X1_tooLong_240__283 b)) (fun b => f164 285 b (nr_X1_tooLong_240__285 b)) (fun b => f164 287 b (nr_X1_tooLong_240__287 b)) (fun b => f164 289 b (nr_X1_tooLong_240__289 b)) (fun b => f164 291 b (nr_X1_tooLong_240__291 b)) (fun b => f164 293 b (nr_X1_tooLong_240__293 b)) (fun b => f164 295 b (nr_X1_tooLong_240__295 b))
                                  have r181 := y_B0.fr o9.1.1 (f164 211 0 (by decide)) (f164 213 0 (by decide))
                                  exact T_ret ⟨c163, f165, (y_V3.u o168 (Or.inr r179)), (y_Y4.c r180), Or.inl (⟨x166, rfl, by omega, by omega⟩)⟩
                                · refine T_ite (fun h182 => ?_) (fun h182 => ?_)
                                  · refine T_if1 (by decide +kernel) ?_
                                    refine T_let 2 (by decide +kernel) ?_
                                    refine T_if1 (by decide +kernel) ?_
                                    refine T_get (by decide +kernel) (c := 3) (by decide +kernel) bdr_3 (by decide) c4 (fun x183 e184 b185 w186 => ?_)
                                    have l187 : z_ln 2 = 9 := by decide +kernel
                                    exact T_ret ⟨c4, f6, (y_V3.u o9 (Or.inr o10)), (y_Y4.c o11), Or.inl (⟨x183, rfl, by omega, by omega⟩)⟩
                                  · refine T_ite (fun h188 => ?_) (fun h188 => ?_)
                                    · refine T_if1 (by decide +kernel) ?_
                                      refine T_let 2 (by decide +kernel) ?_
                                      refine T_if1 (by decide +kernel) ?_
                                      refine T_get (by decide +kernel) (c := 3) (by decide +kernel) bdr_3 (by decide) c4 (fun x189 e190 b191 w192 => ?_)
                                      have l193 : z_ln 2 = 9 := by decide +kernel
                                      exact T_ret ⟨c4, f6, (y_V3.u o9 (Or.inr o10)), (y_Y4.c o11), Or.inl (⟨x189, rfl, by omega, by omega⟩)⟩
                                    · refine T_ite (fun h194 => ?_) (fun h194 => ?_)
                                      · refine T_if1 (by decide +kernel) ?_
                                        refine T_let 191 (by decide +kernel) ?_
                                        refine T_if1 (by decide +kernel) ?_
                                        refine T_leq (fun x195 e196 => ?_)
                                        have u197 := CI_b c4 (k := 191) (j := 17) bd_191_17
                                        exact T_ret ⟨c4, f6, (y_V3.u o9 (Or.inr o10)), (y_Y4.c o11), Or.inl (⟨x195, rfl, by omega, by omega⟩)⟩
                                      · refine T_ite (fun h198 => ?_) (fun h198 => ?_)
                                        · refine T_if1 (by decide +kernel) ?_
                                          refine T_let 191 (by decide +kernel) ?_
                                          refine T_if1 (by decide +kernel) ?_
                                          refine T_leq (fun x199 e200 => ?_)
                                          have u201 := CI_b c4 (k := 191) (j := 18) bd_191_18
                                          exact T_ret ⟨c4, f6, (y_V3.u o9 (Or.inr o10)), (y_Y4.c o11), Or.inl (⟨x199, rfl, by omega, by omega⟩)⟩
                                        · refine T_if1 (by decide +kernel) ?_
                                          refine T_let 2 (by decide +kernel) ?_
                                          refine T_leq (fun x202 e203 => ?_)
                                          have w204 := z_wr e203
                                          refine T_if1 (by decide +kernel) ?_
                                          refine T_get (by decide +kernel) (c := 3) (by decide +kernel) bdr_3 (by decide) c4 (fun x205 e206 b207 w208 => ?_)
                                          have l209 : z_ln 2 = 9 := by decide +kernel
                                          exact T_ret ⟨c4, f6, (y_V3.u o9 (Or.inr o10)), (y_Y4.c o11), Or.inl (⟨x205, rfl, by omega, by omega⟩)⟩
abbrev P_X11_unit_1Y (r0 : z_M) : z_V → z_M → Prop := fun v s' => z_CI s' ∧ z_Fr R_X11_unit_1 r0 s' ∧ (y_V3 s') ∧ (y_Y4 s') ∧ ((∃ x, v = vI x ∧ -2147483648 ≤ x ∧ x ≤ 2147483647) ∨ v = vX 0 ∨ v = vX 1)
set_option maxHeartbeats 4000000 in
theorem sf_X11_unit_1Y {fu : Nat} (hfu : 8589934592 ≤ fu) (r0 : z_M) (c0 : z_CI r0) (a1 : Int) (a2 : Int) (b1 : -2147483648 ≤ a1 ∧ a1 ≤ 2147483647) (b2 : -2147483648 ≤ a2 ∧ a2 ≤ 2147483647) (p0 : y_V3 r0) (p1 : y_Y4 r0) : z_T (fX11_unit fu r0 1 a1 a2) (P_X11_unit_1Y r0) := by
  refine T_of (fX11_unit.eq_1 ..) ?_
  refine T_if1 (by decide +kernel) ?_
  refine T_useN (sf_X11_refresh_1Y hfu r0 c0 p0 p1) (fun v6 s1 hq => ?_)
  obtain ⟨c2, f3, o7, o8, o9, rfl⟩ := hq
  refine T_vN ?_
  have f4 := z_Fr.tr (R := R_X11_unit_1) z_Fr.rf f3 rs_X11_refresh_1__X11_unit_1
  have u12 := CI_b c2 (k := 191) (j := 16) bd_191_16
  refine T_if1 (by decide +kernel) ?_
  refine T_let 191 (by decide +kernel) ?_
  refine T_if1 (by decide +kernel) ?_
  refine T_leq (fun x13 e14 => ?_)
  have u15 := CI_b c2 (k := 191) (j := 16) bd_191_16
  refine T_if1 (by decide +kernel) ?_
  refine T_ne ?_ (fun h16 h17 => ?_)
  · exact T_ret ⟨CI_up c2 bd_1_14 (z_wb rfl).1, z_Fr.upf (R := R_X11_unit_1) f4 (fun a b h => z_up_k h) (fun b h => z_up_j h) (Or.inr (Or.inr (Or.inr (Or.inr (Or.inr (Or.inr (Or.inr (Or.inl (⟨rfl, by decide⟩))))))))), y_V3.u (y_U3.fr o7 (z_up_k (by decide)) (z_up_k (by decide)) (z_up_k (by decide)) (z_up_k (by decide)) (fun _ => z_up_k (by decide)) (fun _ => z_up_k (by decide)) (fun _ => z_up_k (by decide)) (fun _ => z_up_k (by decide)) (fun _ => z_up_k (by decide)) (fun _ => z_up_k (by decide)) (fun _ => z_up_k (by decide)) (fun _ => z_up_k (by decide)) (fun _ => z_up_k (by decide)) (fun _ => z_up_k (by decide)) (fun _ => z_up_k (by decide)) (fun _ => z_up_k (by decide)) (fun _ => z_up_k (by decide)) (fun _ => z_up_k (by decide)) (fun _ => z_up_k (by decide)) (fun _ => z_up_k (by decide)) (fun _ => z_up_k (by decide)) (fun _ => z_up_k (by decide)) (fun _ => z_up_k (by decide)) (fun _ => z_up_k (by decide)) (fun _ => z_up_k (by decide))) (y_L3.fr (show y_L3 s1 from (Or.inr o8)) (z_up_j (by decide)) (z_up_k (by decide)) (z_up_k (by decide)) (z_up_k (by decide)) (z_up_k (by decide)) (fun _ => z_up_k (by decide)) (fun _ => z_up_k (by decide)) (fun _ => z_up_k (by decide)) (fun _ => z_up_k (by decide)) (fun _ => z_up_k (by decide)) (fun _ => z_up_k (by decide)) (fun _ => z_up_k (by decide)) (fun _ => z_up_k (by decide)) (fun _ => z_up_k (by decide)) (fun _ => z_up_k (by decide)) (fun _ => z_up_k (by decide)) (fun _ => z_up_k (by decide)) (fun _ => z_up_k (by decide)) (fun _ => z_up_k (by decide)) (fun _ => z_up_k (by decide)) (fun _ => z_up_k (by decide)) (fun _ => z_up_k (by decide)) (fun _ => z_up_k (by decide)) (fun _ => z_up_k (by decide)) (fun _ => z_up_k (by decide)) (z_up_k (by decide)) (fun _ => z_up_k (by decide))), y_Y4.c (y_YC.fr o9 (z_up_k (by decide)) (z_up_k (by decide)) (z_up_k (by decide)) (z_up_k (by decide)) (fun _ => z_up_k (by decide)) (fun _ => z_up_k (by decide)) (fun _ => z_up_k (by decide)) (fun _ => z_up_k (by decide)) (fun _ => z_up_k (by decide)) (fun _ => z_up_k (by decide)) (fun _ => z_up_k (by decide)) (fun _ => z_up_k (by decide)) (fun _ => z_up_k (by decide)) (fun _ => z_up_k (by decide)) (fun _ => z_up_k (by decide)) (fun _ => z_up_k (by decide)) (fun _ => z_up_k (by decide)) (fun _ => z_up_k (by decide)) (fun _ => z_up_k (by decide)) (fun _ => z_up_k (by decide)) (fun _ => z_up_k (by decide)) (fun _ => z_up_k (by decide)) (fun _ => z_up_k (by decide)) (fun _ => z_up_k (by decide)) (z_up_k (by decide)) (fun _ => z_up_k (by decide)) (fun _ => z_up_k (by decide)) (fun _ => z_up_k (by decide)) (fun _ => z_up_k (by decide)) (fun _ => z_up_k (by decide)) (fun _ => z_up_k (by decide)) (fun _ => z_up_k (by decide)) (fun _ => z_up_k (by decide)) (fun _ => z_up_k (by decide)) (fun _ => z_up_k (by decide)) (fun _ => z_up_k (by decide)) (z_up_k (by decide)) (fun _ => z_up_k (by decide)) (fun _ => z_up_k (by decide)) (fun _ => z_up_k (by decide)) (fun _ => z_up_k (by decide)) (fun _ => z_up_k (by decide)) (fun _ => z_up_k (by decide)) (fun _ => z_up_k (by decide)) (fun _ => z_up_k (by decide))), Or.inr (Or.inl rfl)⟩
  refine T_if1 (by decide +kernel) ?_
  refine T_nw ?_ (fun h18 h19 => ?_)
  · exact T_ret ⟨CI_up c2 bd_1_15 (z_wb rfl).1, z_Fr.upf (R := R_X11_unit_1) f4 (fun a b h => z_up_k h) (fun b h => z_up_j h) (Or.inr (Or.inr (Or.inr (Or.inr (Or.inr (Or.inr (Or.inr (Or.inl (⟨rfl, by decide⟩))))))))), y_V3.u (y_U3.fr o7 (z_up_k (by decide)) (z_up_k (by decide)) (z_up_k (by decide)) (z_up_k (by decide)) (fun _ => z_up_k (by decide)) (fun _ => z_up_k (by decide)) (fun _ => z_up_k (by decide)) (fun _ => z_up_k (by decide)) (fun _ => z_up_k (by decide)) (fun _ => z_up_k (by decide)) (fun _ => z_up_k (by decide)) (fun _ => z_up_k (by decide)) (fun _ => z_up_k (by decide)) (fun _ => z_up_k (by decide)) (fun _ => z_up_k (by decide)) (fun _ => z_up_k (by decide)) (fun _ => z_up_k (by decide)) (fun _ => z_up_k (by decide)) (fun _ => z_up_k (by decide)) (fun _ => z_up_k (by decide)) (fun _ => z_up_k (by decide)) (fun _ => z_up_k (by decide)) (fun _ => z_up_k (by decide)) (fun _ => z_up_k (by decide)) (fun _ => z_up_k (by decide))) (y_L3.fr (show y_L3 s1 from (Or.inr o8)) (z_up_j (by decide)) (z_up_k (by decide)) (z_up_k (by decide)) (z_up_k (by decide)) (z_up_k (by decide)) (fun _ => z_up_k (by decide)) (fun _ => z_up_k (by decide)) (fun _ => z_up_k (by decide)) (fun _ => z_up_k (by decide)) (fun _ => z_up_k (by decide)) (fun _ => z_up_k (by decide)) (fun _ => z_up_k (by decide)) (fun _ => z_up_k (by decide)) (fun _ => z_up_k (by decide)) (fun _ => z_up_k (by decide)) (fun _ => z_up_k (by decide)) (fun _ => z_up_k (by decide)) (fun _ => z_up_k (by decide)) (fun _ => z_up_k (by decide)) (fun _ => z_up_k (by decide)) (fun _ => z_up_k (by decide)) (fun _ => z_up_k (by decide)) (fun _ => z_up_k (by decide)) (fun _ => z_up_k (by decide)) (fun _ => z_up_k (by decide)) (z_up_k (by decide)) (fun _ => z_up_k (by decide))), y_Y4.c (y_YC.fr o9 (z_up_k (by decide)) (z_up_k (by decide)) (z_up_k (by decide)) (z_up_k (by decide)) (fun _ => z_up_k (by decide)) (fun _ => z_up_k (by decide)) (fun _ => z_up_k (by decide)) (fun _ => z_up_k (by decide)) (fun _ => z_up_k (by decide)) (fun _ => z_up_k (by decide)) (fun _ => z_up_k (by decide)) (fun _ => z_up_k (by decide)) (fun _ => z_up_k (by decide)) (fun _ => z_up_k (by decide)) (fun _ => z_up_k (by decide)) (fun _ => z_up_k (by decide)) (fun _ => z_up_k (by decide)) (fun _ => z_up_k (by decide)) (fun _ => z_up_k (by decide)) (fun _ => z_up_k (by decide)) (fun _ => z_up_k (by decide)) (fun _ => z_up_k (by decide)) (fun _ => z_up_k (by decide)) (fun _ => z_up_k (by decide)) (z_up_k (by decide)) (fun _ => z_up_k (by decide)) (fun _ => z_up_k (by decide)) (fun _ => z_up_k (by decide)) (fun _ => z_up_k (by decide)) (fun _ => z_up_k (by decide)) (fun _ => z_up_k (by decide)) (fun _ => z_up_k (by decide)) (fun _ => z_up_k (by decide)) (fun _ => z_up_k (by decide)) (fun _ => z_up_k (by decide)) (fun _ => z_up_k (by decide)) (z_up_k (by decide)) (fun _ => z_up_k (by decide)) (fun _ => z_up_k (by decide)) (fun _ => z_up_k (by decide)) (fun _ => z_up_k (by decide)) (fun _ => z_up_k (by decide)) (fun _ => z_up_k (by decide)) (fun _ => z_up_k (by decide)) (fun _ => z_up_k (by decide))), Or.inr (Or.inr rfl)⟩
  refine T_ite (fun h20 => ?_) (fun h20 => ?_)
  · refine T_if1 (by decide +kernel) ?_
    refine T_let 191 (by decide +kernel) ?_
    refine T_if1 (by decide +kernel) ?_
    refine T_let 192 (by decide +kernel) ?_
    refine T_if1 (by decide +kernel) ?_
    refine T_get (by decide +kernel) (c := 193) (by decide +kernel) bdr_193 (by decide) c2 (fun x21 e22 b23 w24 => ?_)
    have l25 : z_ln 192 = 200 := by decide +kernel
    exact T_ret ⟨c2, f4, (y_V3.u o7 (Or.inr o8)), (y_Y4.c o9), Or.inl (⟨x21, rfl, by omega, by omega⟩)⟩
  · refine T_ite (fun h26 => ?_) (fun h26 => ?_)
    · refine T_if1 (by decide +kernel) ?_
      refine T_let 191 (by decide +kernel) ?_
      refine T_if1 (by decide +kernel) ?_
      refine T_let 194 (by decide +kernel) ?_
      refine T_if1 (by decide +kernel) ?_
      refine T_get (by decide +kernel) (c := 195) (by decide +kernel) bdr_195 (by decide) c2 (fun x27 e28 b29 w30 => ?_)
      have l31 : z_ln 194 = 200 := by decide +kernel
      exact T_ret ⟨c2, f4, (y_V3.u o7 (Or.inr o8)), (y_Y4.c o9), Or.inl (⟨x27, rfl, by omega, by omega⟩)⟩
    · refine T_ite (fun h32 => ?_) (fun h32 => ?_)
      · refine T_if1 (by decide +kernel) ?_
        refine T_let 191 (by decide +kernel) ?_
        refine T_if1 (by decide +kernel) ?_
        refine T_let 196 (by decide +kernel) ?_
        refine T_if1 (by decide +kernel) ?_
        refine T_get (by decide +kernel) (c := 197) (by decide +kernel) bdr_197 (by decide) c2 (fun x33 e34 b35 w36 => ?_)
        have l37 : z_ln 196 = 200 := by decide +kernel
        exact T_ret ⟨c2, f4, (y_V3.u o7 (Or.inr o8)), (y_Y4.c o9), Or.inl (⟨x33, rfl, by omega, by omega⟩)⟩
      · refine T_ite (fun h38 => ?_) (fun h38 => ?_)
        · refine T_if1 (by decide +kernel) ?_
          refine T_let 258 (by decide +kernel) ?_
          refine T_if1 (by decide +kernel) ?_
          refine T_let 263 (by decide +kernel) ?_
          refine T_if1 (by decide +kernel) ?_
          refine T_get (by decide +kernel) (c := 264) (by decide +kernel) bdr_264 (by decide) c2 (fun x39 e40 b41 w42 => ?_)
          have l43 : z_ln 263 = 200 := by decide +kernel
          exact T_ret ⟨c2, f4, (y_V3.u o7 (Or.inr o8)), (y_Y4.c o9), Or.inl (⟨x39, rfl, by omega, by omega⟩)⟩
        · refine T_ite (fun h44 => ?_) (fun h44 => ?_)
          · refine T_if1 (by decide +kernel) ?_
            refine T_let 258 (by decide +kernel) ?_
            refine T_if1 (by decide +kernel) ?_
            refine T_let 259 (by decide +kernel) ?_
            refine T_if1 (by decide +kernel) ?_
            refine T_get (by decide +kernel) (c := 260) (by decide +kernel) bdr_260 (by decide) c2 (fun x45 e46 b47 w48 => ?_)
            have l49 : z_ln 259 = 200 := by decide +kernel
            exact T_ret ⟨c2, f4, (y_V3.u o7 (Or.inr o8)), (y_Y4.c o9), Or.inl (⟨x45, rfl, by omega, by omega⟩)⟩
          · refine T_ite (fun h50 => ?_) (fun h50 => ?_)
            · refine T_if1 (by decide +kernel) ?_
              refine T_let 258 (by decide +kernel) ?_
              refine T_if1 (by decide +kernel) ?_
              refine T_let 261 (by decide +kernel) ?_
              refine T_if1 (by decide +kernel) ?_
              refine T_get (by decide +kernel) (c := 262) (by decide +kernel) bdr_262 (by decide) c2 (fun x51 e52 b53 w54 => ?_)
              have l55 : z_ln 261 = 200 := by decide +kernel
              exact T_ret ⟨c2, f4, (y_V3.u o7 (Or.inr o8)), (y_Y4.c o9), Or.inl (⟨x51, rfl, by omega, by omega⟩)⟩
            · refine T_ite (fun h56 => ?_) (fun h56 => ?_)
              · refine T_if1 (by decide +kernel) ?_
                refine T_let 191 (by decide +kernel) ?_
                refine T_if1 (by decide +kernel) ?_
                refine T_let 200 (by decide +kernel) ?_
                refine T_if1 (by decide +kernel) ?_
                refine T_get (by decide +kernel) (c := 201) (by decide +kernel) bdr_201 (by decide) c2 (fun x57 e58 b59 w60 => ?_)
                have l61 : z_ln 200 = 200 := by decide +kernel
                exact T_ret ⟨c2, f4, (y_V3.u o7 (Or.inr o8)), (y_Y4.c o9), Or.inl (⟨x57, rfl, by omega, by omega⟩)⟩
              · refine T_if1 (by decide +kernel) ?_
                refine T_let 258 (by decide +kernel) ?_
                refine T_if1 (by decide +kernel) ?_
                refine T_let 265 (by decide +kernel) ?_
                refine T_if1 (by decide +kernel) ?_
                refine T_get (by decide +kernel) (c := 266) (by decide +kernel) bdr_266 (by decide) c2 (fun x62 e63 b64 w65 => ?_)
                have l66 : z_ln 265 = 200 := by decide +kernel
                exact T_ret ⟨c2, f4, (y_V3.u o7 (Or.inr o8)), (y_Y4.c o9), Or.inl (⟨x62, rfl, by omega, by omega⟩)⟩
abbrev P_X11_sign_1Y (r0 : z_M) : z_V → z_M → Prop := fun v s' => z_CI s' ∧ z_Fr R_X11_sign_1 r0 s' ∧ (y_V3 s') ∧ (y_Y4 s') ∧ ((∃ x, v = vI x ∧ -2147483648 ≤ x ∧ x ≤ 2147483647) ∨ v = vX 0 ∨ v = vX 1)
theorem nr_X10_markOf_191__260 (b : Int) : ¬ R_X10_markOf_191 260 b := not_false
theorem nr_X10_markOf_191__262 (b : Int) : ¬ R_X10_markOf_191 262 b := not_false
theorem nr_X10_markOf_191__264 (b : Int) : ¬ R_X10_markOf_191 264 b := not_false
theorem nr_X10_markOf_191__266 (b : Int) : ¬ R_X10_markOf_191 266 b := not_false
theorem nr_X10_markOf_191__268 (b : Int) : ¬ R_X10_markOf_191 268 b := not_false
theorem nr_X10_markOf_191__270 (b : Int) : ¬ R_X10_markOf_191 270 b := not_false
theorem nr_X10_markOf_191__272 (b : Int) : ¬ R_X10_markOf_191 272 b := not_false
theorem nr_X10_markOf_191__274 (b : Int) : ¬ R_X10_markOf_191 274 b := not_false
theorem nr_X10_markOf_191__276 (b : Int) : ¬ R_X10_markOf_191 276 b := not_false
theorem nr_X10_markOf_191__278 (b : Int) : ¬ R_X10_markOf_191 278 b := not_false
theorem nr_X10_markOf_191__281 (b : Int) : ¬ R_X10_markOf_191 281 b := not_false
theorem nr_X10_markOf_191__283 (b : Int) : ¬ R_X10_markOf_191 283 b := not_false
theorem nr_X10_markOf_191__285 (b : Int) : ¬ R_X10_markOf_191 285 b := not_false
theorem nr_X10_markOf_191__287 (b : Int) : ¬ R_X10_markOf_191 287 b := not_false
theorem nr_X10_markOf_191__289 (b : Int) : ¬ R_X10_markOf_191 289 b := not_false
theorem nr_X10_markOf_191__291 (b : Int) : ¬ R_X10_markOf_191 291 b := not_false
theorem nr_X10_markOf_191__293 (b : Int) : ¬ R_X10_markOf_191 293 b := not_false
theorem nr_X10_markOf_191__295 (b : Int) : ¬ R_X10_markOf_191 295 b := not_false
set_option maxHeartbeats 4000000 in
theorem sf_X11_sign_1Y {fu : Nat} (hfu : 8589934592 ≤ fu) (r0 : z_M) (c0 : z_CI r0) (a1 : Int) (a2 : Int) (b1 : -2147483648 ≤ a1 ∧ a1 ≤ 2147483647) (b2 : -2147483648 ≤ a2 ∧ a2 ≤ 2147483647) (p0 : y_V3 r0) (p1 : y_Y4 r0) : z_T (fX11_sign fu r0 1 a1 a2) (P_X11_sign_1Y r0) := by
  refine T_of (fX11_sign.eq_1 ..) ?_
  refine T_if1 (by decide +kernel) ?_
  refine T_useN (sf_X11_refresh_1Y hfu r0 c0 p0 p1) (fun v6 s1 hq => ?_)
  obtain ⟨c2, f3, o7, o8, o9, rfl⟩ := hq
  refine T_vN ?_
  have f4 := z_Fr.tr (R := R_X11_sign_1) z_Fr.rf f3 rs_X11_refresh_1__X11_sign_1
  have t12 : s1 6 6 = r0 6 6 := f3 6 6 (by decide)
  refine T_if1 (by decide +kernel) ?_
  refine T_let 6 (by decide +kernel) ?_
  refine T_if1 (by decide +kernel) ?_
  refine T_leq (fun x13 e14 => ?_)
  have u15 := CI_b c2 (k := 6) (j := 6) bd_6_6
  refine T_if1 (by decide +kernel) ?_
  refine T_ne ?_ (fun h16 h17 => ?_)
  · exact T_ret ⟨CI_up c2 bd_1_14 (z_wb rfl).1, z_Fr.upf (R := R_X11_sign_1) f4 (fun a b h => z_up_k h) (fun b h => z_up_j h) (Or.inr (Or.inr (Or.inr (Or.inr (Or.inr (Or.inr (Or.inr (Or.inl (⟨rfl, by decide⟩))))))))), y_V3.u (y_U3.fr o7 (z_up_k (by decide)) (z_up_k (by decide)) (z_up_k (by decide)) (z_up_k (by decide)) (fun _ => z_up_k (by decide)) (fun _ => z_up_k (by decide)) (fun _ => z_up_k (by decide)) (fun _ => z_up_k (by decide)) (fun _ => z_up_k (by decide)) (fun _ => z_up_k (by decide)) (fun _ => z_up_k (by decide)) (fun _ => z_up_k (by decide)) (fun _ => z_up_k (by decide)) (fun _ => z_up_k (by decide)) (fun _ => z_up_k (by decide)) (fun _ => z_up_k (by decide)) (fun _ => z_up_k (by decide)) (fun _ => z_up_k (by decide)) (fun _ => z_up_k (by decide)) (fun _ => z_up_k (by decide)) (fun _ => z_up_k (by decide)) (fun _ => z_up_k (by decide)) (fun _ => z_up_k (by decide)) (fun _ => z_up_k (by decide)) (fun _ => z_up_k (by decide))) (y_L3.fr (show y_L3 s1 from (Or.inr o8)) (z_up_j (by decide)) (z_up_k (by decide)) (z_up_k (by decide)) (z_up_k (by decide)) (z_up_k (by decide)) (fun _ => z_up_k (by decide)) (fun _ => z_up_k (by decide)) (fun _ => z_up_k (by decide)) (fun _ => z_up_k (by decide)) (fun _ => z_up_k (by decide)) (fun _ => z_up_k (by decide)) (fun _ => z_up_k (by decide)) (fun _ => z_up_k (by decide)) (fun _ => z_up_k (by decide)) (fun _ => z_up_k (by decide)) (fun _ => z_up_k (by decide)) (fun _ => z_up_k (by decide)) (fun _ => z_up_k (by decide)) (fun _ => z_up_k (by decide)) (fun _ => z_up_k (by decide)) (fun _ => z_up_k (by decide)) (fun _ => z_up_k (by decide)) (fun _ => z_up_k (by decide)) (fun _ => z_up_k (by decide)) (fun _ => z_up_k (by decide)) (z_up_k (by decide)) (fun _ => z_up_k (by decide))), y_Y4.c (y_YC.fr o9 (z_up_k (by decide)) (z_up_k (by decide)) (z_up_k (by decide)) (z_up_k (by decide)) (fun _ => z_up_k (by decide)) (fun _ => z_up_k (by decide)) (fun _ => z_up_k (by decide)) (fun _ => z_up_k (by decide)) (fun _ => z_up_k (by decide)) (fun _ => z_up_k (by decide)) (fun _ => z_up_k (by decide)) (fun _ => z_up_k (by decide)) (fun _ => z_up_k (by decide)) (fun _ => z_up_k (by decide)) (fun _ => z_up_k (by decide)) (fun _ => z_up_k (by decide)) (fun _ => z_up_k (by decide)) (fun _ => z_up_k (by decide)) (fun _ => z_up_k (by decide)) (fun _ => z_up_k (by decide)) (fun _ => z_up_k (by decide)) (fun _ => z_up_k (by decide)) (fun _ => z_up_k (by decide)) (fun _ => z_up_k (by decide)) (z_up_k (by decide)) (fun _ => z_up_k (by decide)) (fun _ => z_up_k (by decide)) (fun _ => z_up_k (by decide)) (fun _ => z_up_k (by decide)) (fun _ => z_up_k (by decide)) (fun _ => z_up_k (by decide)) (fun _ => z_up_k (by decide)) (fun _ => z_up_k (by decide)) (fun _ => z_up_k (by decide)) (fun _ => z_up_k (by decide)) (fun _ => z_up_k (by decide)) (z_up_k (by decide)) (fun _ => z_up_k (by decide)) (fun _ => z_up_k (by decide)) (fun _ => z_up_k (by decide)) (fun _ => z_up_k (by decide)) (fun _ => z_up_k (by decide)) (fun _ => z_up_k (by decide)) (fun _ => z_up_k (by decide)) (fun _ => z_up_k (by decide))), Or.inr (Or.inl rfl)⟩
  refine T_if1 (by decide +kernel) ?_
  refine T_nw ?_ (fun h18 h19 => ?_)
  · exact T_ret ⟨CI_up c2 bd_1_15 (z_wb rfl).1, z_Fr.upf (R := R_X11_sign_1) f4 (fun a b h => z_up_k h) (fun b h => z_up_j h) (Or.inr (Or.inr (Or.inr (Or.inr (Or.inr (Or.inr (Or.inr (Or.inl (⟨rfl, by decide⟩))))))))), y_V3.u (y_U3.fr o7 (z_up_k (by decide)) (z_up_k (by decide)) (z_up_k (by decide)) (z_up_k (by decide)) (fun _ => z_up_k (by decide)) (fun _ => z_up_k (by decide)) (fun _ => z_up_k (by decide)) (fun _ => z_up_k (by decide)) (fun _ => z_up_k (by decide)) (fun _ => z_up_k (by decide)) (fun _ => z_up_k (by decide)) (fun _ => z_up_k (by decide)) (fun _ => z_up_k (by decide)) (fun _ => z_up_k (by decide)) (fun _ => z_up_k (by decide)) (fun _ => z_up_k (by decide)) (fun _ => z_up_k (by decide)) (fun _ => z_up_k (by decide)) (fun _ => z_up_k (by decide)) (fun _ => z_up_k (by decide)) (fun _ => z_up_k (by decide)) (fun _ => z_up_k (by decide)) (fun _ => z_up_k (by decide)) (fun _ => z_up_k (by decide)) (fun _ => z_up_k (by decide))) (y_L3.fr (show y_L3 s1 from (Or.inr o8)) (z_up_j (by decide)) (z_up_k (by decide)) (z_up_k (by decide)) (z_up_k (by decide)) (z_up_k (by decide)) (fun _ => z_up_k (by decide)) (fun _ => z_up_k (by decide)) (fun _ => z_up_k (by decide)) (fun _ => z_up_k (by decide)) (fun _ => z_up_k (by decide)) (fun _ => z_up_k (by decide)) (fun _ => z_up_k (by decide)) (fun _ => z_up_k (by decide)) (fun _ => z_up_k (by decide)) (fun _ => z_up_k (by decide)) (fun _ => z_up_k (by decide)) (fun _ => z_up_k (by decide)) (fun _ => z_up_k (by decide)) (fun _ => z_up_k (by decide)) (fun _ => z_up_k (by decide)) (fun _ => z_up_k (by decide)) (fun _ => z_up_k (by decide)) (fun _ => z_up_k (by decide)) (fun _ => z_up_k (by decide)) (fun _ => z_up_k (by decide)) (z_up_k (by decide)) (fun _ => z_up_k (by decide))), y_Y4.c (y_YC.fr o9 (z_up_k (by decide)) (z_up_k (by decide)) (z_up_k (by decide)) (z_up_k (by decide)) (fun _ => z_up_k (by decide)) (fun _ => z_up_k (by decide)) (fun _ => z_up_k (by decide)) (fun _ => z_up_k (by decide)) (fun _ => z_up_k (by decide)) (fun _ => z_up_k (by decide)) (fun _ => z_up_k (by decide)) (fun _ => z_up_k (by decide)) (fun _ => z_up_k (by decide)) (fun _ => z_up_k (by decide)) (fun _ => z_up_k (by decide)) (fun _ => z_up_k (by decide)) (fun _ => z_up_k (by decide)) (fun _ => z_up_k (by decide)) (fun _ => z_up_k (by decide)) (fun _ => z_up_k (by decide)) (fun _ => z_up_k (by decide)) (fun _ => z_up_k (by decide)) (fun _ => z_up_k (by decide)) (fun _ => z_up_k (by decide)) (z_up_k (by decide)) (fun _ => z_up_k (by decide)) (fun _ => z_up_k (by decide)) (fun _ => z_up_k (by decide)) (fun _ => z_up_k (by decide)) (fun _ => z_up_k (by decide)) (fun _ => z_up_k (by decide)) (fun _ => z_up_k (by decide)) (fun _ => z_up_k (by decide)) (fun _ => z_up_k (by decide)) (fun _ => z_up_k (by decide)) (fun _ => z_up_k (by decide)) (z_up_k (by decide)) (fun _ => z_up_k (by decide)) (fun _ => z_up_k (by decide)) (fun _ => z_up_k (by decide)) (fun _ => z_up_k (by decide)) (fun _ => z_up_k (by decide)) (fun _ => z_up_k (by decide)) (fun _ => z_up_k (by decide)) (fun _ => z_up_k (by decide))), Or.inr (Or.inr rfl)⟩
  refine T_ite (fun h20 => ?_) (fun h20 => ?_)
  · refine T_if1 (by decide +kernel) ?_
    refine T_let 6 (by decide +kernel) ?_
    refine T_if1 (by decide +kernel) ?_
    refine T_let 7 (by decide +kernel) ?_
    refine T_if1 (by decide +kernel) ?_
    refine T_get (by decide +kernel) (c := 8) (by decide +kernel) bdr_8 (by decide) c2 (fun x21 e22 b23 w24 => ?_)
    have l25 : z_ln 7 = 200 := by decide +kernel
    exact T_ret ⟨c2, f4, (y_V3.u o7 (Or.inr o8)), (y_Y4.c o9), Or.inl (⟨x21, rfl, by omega, by omega⟩)⟩
  · refine T_ite (fun h26 => ?_) (fun h26 => ?_)
    · refine T_if1 (by decide +kernel) ?_
      refine T_let 191 (by decide +kernel) ?_
      refine T_if1 (by decide +kernel) ?_
      refine T_let 214 (by decide +kernel) ?_
      refine T_if1 (by decide +kernel) ?_
      refine T_get (by decide +kernel) (c := 215) (by decide +kernel) bdr_215 (by decide) c2 (fun x27 e28 b29 w30 => ?_)
      have l31 : z_ln 214 = 200 := by decide +kernel
      exact T_ret ⟨c2, f4, (y_V3.u o7 (Or.inr o8)), (y_Y4.c o9), Or.inl (⟨x27, rfl, by omega, by omega⟩)⟩
    · refine T_ite (fun h32 => ?_) (fun h32 => ?_)
      · refine T_if1 (by decide +kernel) ?_
        refine T_let 258 (by decide +kernel) ?_
        refine T_if1 (by decide +kernel) ?_
        refine T_let 259 (by decide +kernel) ?_
        refine T_if1 (by decide +kernel) ?_
        refine T_let 191 (by decide +kernel) ?_
        refine T_if1 (by decide +kernel) ?_
        refine T_let 214 (by decide +kernel) ?_
        refine T_if1 (by decide +kernel) ?_
        refine T_get (by decide +kernel) (c := 215) (by decide +kernel) bdr_215 (by decide) c2 (fun x33 e34 b35 w36 => ?_)
        have l37 : z_ln 214 = 200 := by decide +kernel
        refine T_if1 (by decide +kernel) ?_
        refine T_get (by decide +kernel) (c := 260) (by decide +kernel) bdr_260 (by decide) c2 (fun x38 e39 b40 w41 => ?_)
        have l42 : z_ln 259 = 200 := by decide +kernel
        exact T_ret ⟨c2, f4, (y_V3.u o7 (Or.inr o8)), (y_Y4.c o9), Or.inl (⟨x38, rfl, by omega, by omega⟩)⟩
      · refine T_ite (fun h43 => ?_) (fun h43 => ?_)
        · refine T_if1 (by decide +kernel) ?_
          refine T_let 258 (by decide +kernel) ?_
          refine T_if1 (by decide +kernel) ?_
          refine T_let 267 (by decide +kernel) ?_
          refine T_if1 (by decide +kernel) ?_
          refine T_get (by decide +kernel) (c := 268) (by decide +kernel) bdr_268 (by decide) c2 (fun x44 e45 b46 w47 => ?_)
          have l48 : z_ln 267 = 200 := by decide +kernel
          exact T_ret ⟨c2, f4, (y_V3.u o7 (Or.inr o8)), (y_Y4.c o9), Or.inl (⟨x44, rfl, by omega, by omega⟩)⟩
        · refine T_ite (fun h49 => ?_) (fun h49 => ?_)
          · refine T_if1 (by decide +kernel) ?_
            refine T_let 191 (by decide +kernel) ?_
            refine T_if1 (by decide +kernel) ?_
            refine T_let 218 (by decide +kernel) ?_
            refine T_if1 (by decide +kernel) ?_
            refine T_get (by decide +kernel) (c := 219) (by decide +kernel) bdr_219 (by decide) c2 (fun x50 e51 b52 w53 => ?_)
            have l54 : z_ln 218 = 200 := by decide +kernel
            exact T_ret ⟨c2, f4, (y_V3.u o7 (Or.inr o8)), (y_Y4.c o9), Or.inl (⟨x50, rfl, by omega, by omega⟩)⟩
          · refine T_ite (fun h55 => ?_) (fun h55 => ?_)
            · refine T_if1 (by decide +kernel) ?_
              refine T_let 191 (by decide +kernel) ?_
              refine T_if1 (by decide +kernel) ?_
              refine T_useI (sf_X10_markOf_191 hfu s1 c2 a1 0 (by omega) (by omega)) (fun v61 s56 hq => ?_)
              obtain ⟨c57, f58, ⟨x60, rfl, b62, b63⟩⟩ := hq
              refine T_vI ?_
              have f59 := z_Fr.tr (R := R_X11_sign_1) f4 f58 (fun a b h => absurd h not_false)
              have t64 : s56 6 6 = s1 6 6 := f58 6 6 (by decide)
              have r65 := y_U3.fr o7 (f58 191 16 (by decide)) (f58 6 6 (by decide)) (f58 191 17 (by decide)) (f58 191 18 (by decide)) (fun b => f58 3 b (nr_X10_markOf_191__3 b)) (fun b => f58 8 b (nr_X10_markOf_191__8 b)) (fun b => f58 12 b (nr_X10_markOf_191__12 b)) (fun b => f58 14 b (nr_X10_markOf_191__14 b)) (fun b => f58 16 b (nr_X10_markOf_191__16 b)) (fun b => f58 18 b (nr_X10_markOf_191__18 b)) (fun b => f58 193 b (nr_X10_markOf_191__193 b)) (fun b => f58 195 b (nr_X10_markOf_191__195 b)) (fun b => f58 197 b (nr_X10_markOf_191__197 b)) (fun b => f58 199 b (nr_X10_markOf_191__199 b)) (fun b => f58 201 b (nr_X10_markOf_191__201 b)) (fun b => f58 203 b (nr_X10_markOf_191__203 b)) (fun b => f58 205 b (nr_X10_markOf_191__205 b)) (fun b => f58 207 b (nr_X10_markOf_191__207 b)) (fun b => f58 209 b (nr_X10_markOf_191__209 b)) (fun b => f58 211 b (nr_X10_markOf_191__211 b)) (fun b => f58 213 b (nr_X10_markOf_191__213 b)) (fun b => f58 215 b (nr_X10_markOf_191__215 b)) (fun b => f58 217 b (nr_X10_markOf_191__217 b)) (fun b => f58 219 b (nr_X10_markOf_191__219 b)) (fun b => f58 222 b (nr_X10_markOf_191__222 b))
              have r66 := y_SA.fr o8 (f58 191 16 (by decide)) (f58 6 6 (by decide)) (f58 191 17 (by decide)) (f58 191 18 (by decide)) (fun b => f58 3 b (nr_X10_markOf_191__3 b)) (fun b => f58 8 b (nr_X10_markOf_191__8 b)) (fun b => f58 12 b (nr_X10_markOf_191__12 b)) (fun b => f58 14 b (nr_X10_markOf_191__14 b)) (fun b => f58 16 b (nr_X10_markOf_191__16 b)) (fun b => f58 18 b (nr_X10_markOf_191__18 b)) (fun b => f58 193 b (nr_X10_markOf_191__193 b)) (fun b => f58 195 b (nr_X10_markOf_191__195 b)) (fun b => f58 197 b (nr_X10_markOf_191__197 b)) (fun b => f58 199 b (nr_X10_markOf_191__199 b)) (fun b => f58 201 b (nr_X10_markOf_191__201 b)) (fun b => f58 203 b (nr_X10_markOf_191__203 b)) (fun b => f58 205 b (nr_X10_markOf_191__205 b)) (fun b => f58 207 b (nr_X10_markOf_191__207 b)) (fun b => f58 209 b (nr_X10_markOf_191__209 b)) (fun b => f58 211 b (nr_X10_markOf_191__211 b)) (fun b => f58 213 b (nr_X10_markOf_191__213 b)) (fun b => f58 215 b (nr_X10_markOf_191__215 b)) (fun b => f58 217 b (nr_X10_markOf_191__217 b)) (fun b => f58 219 b (nr_X10_markOf_191__219 b)) (f58 240 6 (by decide)) (fun b => f58 248 b (nr_X10_markOf_191__248 b))
              have r67 := y_YC.fr o9 (f58 191 16 (by decide)) (f58 6 6 (by decide)) (f58 191 17 (by decide)) (f58 191 18 (by decide)) (fun b => f58 3 b (nr_X10_markOf_191__3 b)) (fun b => f58 8 b (nr_X10_markOf_191__8 b)) (fun b => f58 12 b (nr_X10_markOf_191__12 b)) (fun b => f58 14 b (nr_X10_markOf_191__14 b)) (fun b => f58 16 b (nr_X10_markOf_191__16 b)) (fun b => f58 18 b (nr_X10_markOf_191__18 b)) (fun b => f58 193 b (nr_X10_markOf_191__193 b)) (fun b => f58 195 b (nr_X10_markOf_191__195 b)) (fun b => f58 197 b (nr_X10_markOf_191__197 b)) (fun b => f58 199 b (nr_X10_markOf_191__199 b)) (fun b => f58 201 b (nr_X10_markOf_191__201 b)) (fun b => f58 203 b (nr_X10_markOf_191__203 b)) (fun b => f58 205 b (nr_X10_markOf_191__205 b)) (fun b => f58 207 b (nr_X10_markOf_191__207 b)) (fun b => f58 209 b (nr_X10_markOf_191__209 b)) (fun b => f58 211 b (nr_X10_markOf_191__211 b)) (fun b => f58 213 b (nr_X10_markOf_191__213 b)) (fun b => f58 215 b (nr_X10_markOf_191__215 b)) (fun b => f58 217 b (nr_X10_markOf_191__217 b)) (fun b => f58 219 b (nr_X10_markOf_191__219 b)) (f58 240 6 (by decide)) (fun b => f58 248 b (nr_X10_markOf_191__248 b)) (fun b => f58 260 b (nr_X10_markOf_191__260 b)) (fun b => f58 262 b (nr_X10_markOf_191__262 b)) (fun b => f58 264 b (nr_X10_markOf_191__264 b)) (fun b => f58 266 b (nr_X10_markOf_191__266 b)) (fun b => f58 268 b (nr_X10_markOf_191__268 b)) (fun b => f58 270 b (nr_X10_markOf_191__270 b)) (fun b => f58 272 b (nr_X10_markOf_191__272 b)) (fun b => f58 274 b (nr_X10_markOf_191__274 b)) (fun b => f58 276 b (nr_X10_markOf_191__276 b)) (fun b => f58 278 b (nr_X10_markOf_191__278 b)) (f58 279 9 (by decide)) (fun b => f58 281 b (nr_X10_markOf_191__281 b)) (fun b => f58 283 b (nr_X10_markOf_191__283 b)) (fun b => f58 285 b (nr_X10_markOf_191__285 b)) (fun b => f58 287 b (nr_X10_markOf_191__287 b)) (fun b => f58 289 b (nr_X10_markOf_191__289 b)) (fun b => f58 291 b (nr_X10_markOf_191__291 b)) (fun b => f58 293 b (nr_X10_markOf_191__293 b)) (fun b => f58 295 b (nr_X10_markOf_191__295 b))
              have r68 := y_B0.fr o7.1.1 (f58 211 0 (by decide)) (f58 213 0 (by decide))
              exact T_ret ⟨c57, f59, (y_V3.u r65 (Or.inr r66)), (y_Y4.c r67), Or.inl (⟨x60, rfl, by omega, by omega⟩)⟩
            · refine T_if1 (by decide +kernel) ?_
              refine T_let 191 (by decide +kernel) ?_
              refine T_if1 (by decide +kernel) ?_
              refine T_useI (sf_X10_markOf_191 hfu s1 c2 a1 1 (by omega) (by omega)) (fun v74 s69 hq => ?_)
              obtain ⟨c70, f71, ⟨x73, rfl, b75, b76⟩⟩ := hq
              refine T_vI ?_
              have f72 := z_Fr.tr (R := R_X11_sign_1) f4 f71 (fun a b h => absurd h not_false)
              have t77 : s69 6 6 = s1 6 6 := f71 6 6 (by decide)
              have r78 := y_U3.fr o7 (f71 191 16 (by decide)) (f71 6 6 (by decide)) (f71 191 17 (by decide)) (f71 191 18 (by decide)) (fun b => f71 3 b (nr_X10_markOf_191__3 b)) (fun b => f71 8 b (nr_X10_markOf_191__8 b)) (fun b => f71 12 b (nr_X10_markOf_191__12 b)) (fun b => f71 14 b (nr_X10_markOf_191__14 b)) (fun b => f71 16 b (nr_X10_markOf_191__16 b)) (fun b => f71 18 b (nr_X10_markOf_191__18 b)) (fun b => f71 193 b (nr_X10_markOf_191__193 b)) (fun b => f71 195 b (nr_X10_markOf_191__195 b)) (fun b => f71 197 b (nr_X10_markOf_191__197 b)) (fun b => f71 199 b (nr_X10_markOf_191__199 b)) (fun b => f71 201 b (nr_X10_markOf_191__201 b)) (fun b => f71 203 b (nr_X10_markOf_191__203 b)) (fun b => f71 205 b (nr_X10_markOf_191__205 b)) (fun b => f71 207 b (nr_X10_markOf_191__207 b)) (fun b => f71 209 b (nr_X10_markOf_191__209 b)) (fun b => f71 211 b (nr_X10_markOf_191__211 b)) (fun b => f71 213 b (nr_X10_markOf_191__213 b)) (fun b => f71 215 b (nr_X10_markOf_191__215 b)) (fun b => f71 217 b (nr_X10_markOf_191__217 b)) (fun b => f71 219 b (nr_X10_markOf_191__219 b)) (fun b => f71 222 b (nr_X10_markOf_191__222 b))
              have r79 := y_SA.fr o8 (f71 191 16 (by decide)) (f71 6 6 (by decide)) (f71 191 17 (by decide)) (f71 191 18 (by decide)) (fun b => f71 3 b (nr_X10_markOf_191__3 b)) (fun b => f71 8 b (nr_X10_markOf_191__8 b)) (fun b => f71 12 b (nr_X10_markOf_191__12 b)) (fun b => f71 14 b (nr_X10_markOf_191__14 b)) (fun b => f71 16 b (nr_X10_markOf_191__16 b)) (fun b => f71 18 b (nr_X10_markOf_191__18 b)) (fun b => f71 193 b (nr_X10_markOf_191__193 b)) (fun b => f71 195 b (nr_X10_markOf_191__195 b)) (fun b => f71 197 b (nr_X10_markOf_191__197 b)) (fun b => f71 199 b (nr_X10_markOf_191__199 b)) (fun b => f71 201 b (nr_X10_markOf_191__201 b)) (fun b => f71 203 b (nr_X10_markOf_191__203 b)) (fun b => f71 205 b (nr_X10_markOf_191__205 b)) (fun b => f71 207 b (nr_X10_markOf_191__207 b)) (fun b => f71 209 b (nr_X10_markOf_191__209 b)) (fun b => f71 211 b (nr_X10_markOf_191__211 b)) (fun b => f71 213 b (nr_X10_markOf_191__213 b)) (fun b => f71 215 b (nr_X10_markOf_191__215 b)) (fun b => f71 217 b (nr_X10_markOf_191__217 b)) (fun b => f71 219 b (nr_X10_markOf_191__219 b)) (f71 240 6 (by decide)) (fun b => f71 248 b (nr_X10_markOf_191__248 b))
              have r80 := y_YC.fr o9 (f71 191 16 (by decide)) (f71 6 6 (by decide)) (f71 191 17 (by decide)) (f71 191 18 (by decide)) (fun b => f71 3 b (nr_X10_markOf_191__3 b)) (fun b => f71 8 b (nr_X10_markOf_191__8 b)) (fun b => f71 12 b (nr_X10_markOf_191__12 b)) (fun b => f71 14 b (nr_X10_markOf_191__14 b)) (fun b => f71 16 b (nr_X10_markOf_191__16 b)) (fun b => f71 18 b (nr_X10_markOf_191__18 b)) (fun b => f71 193 b (nr_X10_markOf_191__193 b)) (fun b => f71 195 b (nr_X10_markOf_191__195 b)) (fun b => f71 197 b (nr_X10_markOf_191__197 b)) (fun b => f71 199 b (nr_X10_markOf_191__199 b)) (fun b => f71 201 b (nr_X10_markOf_191__201 b)) (fun b => f71 203 b (nr_X10_markOf_191__203 b)) (fun b => f71 205 b (nr_X10_markOf_191__205 b)) (fun b => f71 207 b (nr_X10_markOf_191__207 b)) (fun b => f71 209 b (nr_X10_markOf_191__209 b)) (fun b => f71 211 b (nr_X10_markOf_191__211 b)) (fun b => f71 213 b (nr_X10_markOf_191__213 b)) (fun b => f71 215 b (nr_X10_markOf_191__215 b)) (fun b => f71 217 b (nr_X10_markOf_191__217 b)) (fun b => f71 219 b (nr_X10_markOf_191__219 b)) (f71 240 6 (by decide)) (fun b => f71 248 b (nr_X10_markOf_191__248 b)) (fun b => f71 260 b (nr_X10_markOf_191__260 b)) (fun b => f71 262 b (nr_X10_markOf_191__262 b)) (fun b => f71 264 b (nr_X10_markOf_191__264 b)) (fun b => f71 266 b (nr_X10_markOf_191__266 b)) (fun b => f71 268 b (nr_X10_markOf_191__268 b)) (fun b => f71 270 b (nr_X10_markOf_191__270 b)) (fun b => f71 272 b (nr_X10_markOf_191__272 b)) (fun b => f71 274 b (nr_X10_markOf_191__274 b)) (fun b => f71 276 b (nr_X10_markOf_191__276 b)) (fun b => f71 278 b (nr_X10_markOf_191__278 b)) (f71 279 9 (by decide)) (fun b => f71 281 b (nr_X10_markOf_191__281 b)) (fun b => f71 283 b (nr_X10_markOf_191__283 b)) (fun b => f71 285 b (nr_X10_markOf_191__285 b)) (fun b => f71 287 b (nr_X10_markOf_191__287 b)) (fun b => f71 289 b (nr_X10_markOf_191__289 b)) (fun b => f71 291 b (nr_X10_markOf_191__291 b)) (fun b => f71 293 b (nr_X10_markOf_191__293 b)) (fun b => f71 295 b (nr_X10_markOf_191__295 b))
              have r81 := y_B0.fr o7.1.1 (f71 211 0 (by decide)) (f71 213 0 (by decide))
              exact T_ret ⟨c70, f72, (y_V3.u r78 (Or.inr r79)), (y_Y4.c r80), Or.inl (⟨x73, rfl, by omega, by omega⟩)⟩
abbrev P_X11_line_1Y (r0 : z_M) : z_V → z_M → Prop := fun v s' => z_CI s' ∧ z_Fr R_X11_line_1 r0 s' ∧ (y_V3 s') ∧ (y_Y4 s') ∧ ((∃ x, v = vI x ∧ -2147483648 ≤ x ∧ x ≤ 2147483647) ∨ v = vX 0 ∨ v = vX 1)
set_option maxHeartbeats 4000000 in
theorem sf_X11_line_1Y {fu : Nat} (hfu : 8589934592 ≤ fu) (r0 : z_M) (c0 : z_CI r0) (a1 : Int) (a2 : Int) (b1 : -2147483648 ≤ a1 ∧ a1 ≤ 2147483647) (b2 : -2147483648 ≤ a2 ∧ a2 ≤ 2147483647) (p0 : y_V3 r0) (p1 : y_Y4 r0) : z_T (fX11_line fu r0 1 a1 a2) (P_X11_line_1Y r0) := by
  refine T_of (fX11_line.eq_1 ..) ?_
  refine T_if1 (by decide +kernel) ?_
  refine T_useN (sf_X11_refresh_1Y hfu r0 c0 p0 p1) (fun v6 s1 hq => ?_)
  obtain ⟨c2, f3, o7, o8, o9, rfl⟩ := hq
  refine T_vN ?_
  have f4 := z_Fr.tr (R := R_X11_line_1) z_Fr.rf f3 rs_X11_refresh_1__X11_line_1
  have u12 := CI_b c2 (k := 240) (j := 6) bd_240_6
  refine T_if1 (by decide +kernel) ?_
  refine T_let 240 (by decide +kernel) ?_
  refine T_if1 (by decide +kernel) ?_
  refine T_leq (fun x13 e14 => ?_)
  have u15 := CI_b c2 (k := 240) (j := 6) bd_240_6
  refine T_if1 (by decide +kernel) ?_
  refine T_ne ?_ (fun h16 h17 => ?_)
  · exact T_ret ⟨CI_up c2 bd_1_14 (z_wb rfl).1, z_Fr.upf (R := R_X11_line_1) f4 (fun a b h => z_up_k h) (fun b h => z_up_j h) (Or.inr (Or.inr (Or.inr (Or.inr (Or.inr (Or.inr (Or.inr (Or.inl (⟨rfl, by decide⟩))))))))), y_V3.u (y_U3.fr o7 (z_up_k (by decide)) (z_up_k (by decide)) (z_up_k (by decide)) (z_up_k (by decide)) (fun _ => z_up_k (by decide)) (fun _ => z_up_k (by decide)) (fun _ => z_up_k (by decide)) (fun _ => z_up_k (by decide)) (fun _ => z_up_k (by decide)) (fun _ => z_up_k (by decide)) (fun _ => z_up_k (by decide)) (fun _ => z_up_k (by decide)) (fun _ => z_up_k (by decide)) (fun _ => z_up_k (by decide)) (fun _ => z_up_k (by decide)) (fun _ => z_up_k (by decide)) (fun _ => z_up_k (by decide)) (fun _ => z_up_k (by decide)) (fun _ => z_up_k (by decide)) (fun _ => z_up_k (by decide)) (fun _ => z_up_k (by decide)) (fun _ => z_up_k (by decide)) (fun _ => z_up_k (by decide)) (fun _ => z_up_k (by decide)) (fun _ => z_up_k (by decide))) (y_L3.fr (show y_L3 s1 from (Or.inr o8)) (z_up_j (by decide)) (z_up_k (by decide)) (z_up_k (by decide)) (z_up_k (by decide)) (z_up_k (by decide)) (fun _ => z_up_k (by decide)) (fun _ => z_up_k (by decide)) (fun _ => z_up_k (by decide)) (fun _ => z_up_k (by decide)) (fun _ => z_up_k (by decide)) (fun _ => z_up_k (by decide)) (fun _ => z_up_k (by decide)) (fun _ => z_up_k (by decide)) (fun _ => z_up_k (by decide)) (fun _ => z_up_k (by decide)) (fun _ => z_up_k (by decide)) (fun _ => z_up_k (by decide)) (fun _ => z_up_k (by decide)) (fun _ => z_up_k (by decide)) (fun _ => z_up_k (by decide)) (fun _ => z_up_k (by decide)) (fun _ => z_up_k (by decide)) (fun _ => z_up_k (by decide)) (fun _ => z_up_k (by decide)) (fun _ => z_up_k (by decide)) (z_up_k (by decide)) (fun _ => z_up_k (by decide))), y_Y4.c (y_YC.fr o9 (z_up_k (by decide)) (z_up_k (by decide)) (z_up_k (by decide)) (z_up_k (by decide)) (fun _ => z_up_k (by decide)) (fun _ => z_up_k (by decide)) (fun _ => z_up_k (by decide)) (fun _ => z_up_k (by decide)) (fun _ => z_up_k (by decide)) (fun _ => z_up_k (by decide)) (fun _ => z_up_k (by decide)) (fun _ => z_up_k (by decide)) (fun _ => z_up_k (by decide)) (fun _ => z_up_k (by decide)) (fun _ => z_up_k (by decide)) (fun _ => z_up_k (by decide)) (fun _ => z_up_k (by decide)) (fun _ => z_up_k (by decide)) (fun _ => z_up_k (by decide)) (fun _ => z_up_k (by decide)) (fun _ => z_up_k (by decide)) (fun _ => z_up_k (by decide)) (fun _ => z_up_k (by decide)) (fun _ => z_up_k (by decide)) (z_up_k (by decide)) (fun _ => z_up_k (by decide)) (fun _ => z_up_k (by decide)) (fun _ => z_up_k (by decide)) (fun _ => z_up_k (by decide)) (fun _ => z_up_k (by decide)) (fun _ => z_up_k (by decide)) (fun _ => z_up_k (by decide)) (fun _ => z_up_k (by decide)) (fun _ => z_up_k (by decide)) (fun _ => z_up_k (by decide)) (fun _ => z_up_k (by decide)) (z_up_k (by decide)) (fun _ => z_up_k (by decide)) (fun _ => z_up_k (by decide)) (fun _ => z_up_k (by decide)) (fun _ => z_up_k (by decide)) (fun _ => z_up_k (by decide)) (fun _ => z_up_k (by decide)) (fun _ => z_up_k (by decide)) (fun _ => z_up_k (by decide))), Or.inr (Or.inl rfl)⟩
  refine T_if1 (by decide +kernel) ?_
  refine T_nw ?_ (fun h18 h19 => ?_)
  · exact T_ret ⟨CI_up c2 bd_1_15 (z_wb rfl).1, z_Fr.upf (R := R_X11_line_1) f4 (fun a b h => z_up_k h) (fun b h => z_up_j h) (Or.inr (Or.inr (Or.inr (Or.inr (Or.inr (Or.inr (Or.inr (Or.inl (⟨rfl, by decide⟩))))))))), y_V3.u (y_U3.fr o7 (z_up_k (by decide)) (z_up_k (by decide)) (z_up_k (by decide)) (z_up_k (by decide)) (fun _ => z_up_k (by decide)) (fun _ => z_up_k (by decide)) (fun _ => z_up_k (by decide)) (fun _ => z_up_k (by decide)) (fun _ => z_up_k (by decide)) (fun _ => z_up_k (by decide)) (fun _ => z_up_k (by decide)) (fun _ => z_up_k (by decide)) (fun _ => z_up_k (by decide)) (fun _ => z_up_k (by decide)) (fun _ => z_up_k (by decide)) (fun _ => z_up_k (by decide)) (fun _ => z_up_k (by decide)) (fun _ => z_up_k (by decide)) (fun _ => z_up_k (by decide)) (fun _ => z_up_k (by decide)) (fun _ => z_up_k (by decide)) (fun _ => z_up_k (by decide)) (fun _ => z_up_k (by decide)) (fun _ => z_up_k (by decide)) (fun _ => z_up_k (by decide))) (y_L3.fr (show y_L3 s1 from (Or.inr o8)) (z_up_j (by decide)) (z_up_k (by decide)) (z_up_k (by decide)) (z_up_k (by decide)) (z_up_k (by decide)) (fun _ => z_up_k (by decide)) (fun _ => z_up_k (by decide)) (fun _ => z_up_k (by decide)) (fun _ => z_up_k (by decide)) (fun _ => z_up_k (by decide)) (fun _ => z_up_k (by decide)) (fun _ => z_up_k (by decide)) (fun _ => z_up_k (by decide)) (fun _ => z_up_k (by decide)) (fun _ => z_up_k (by decide)) (fun _ => z_up_k (by decide)) (fun _ => z_up_k (by decide)) (fun _ => z_up_k (by decide)) (fun _ => z_up_k (by decide)) (fun _ => z_up_k (by decide)) (fun _ => z_up_k (by decide)) (fun _ => z_up_k (by decide)) (fun _ => z_up_k (by decide)) (fun _ => z_up_k (by decide)) (fun _ => z_up_k (by decide)) (z_up_k (by decide)) (fun _ => z_up_k (by decide))), y_Y4.c (y_YC.fr o9 (z_up_k (by decide)) (z_up_k (by decide)) (z_up_k (by decide)) (z_up_k (by decide)) (fun _ => z_up_k (by decide)) (fun _ => z_up_k (by decide)) (fun _ => z_up_k (by decide)) (fun _ => z_up_k (by decide)) (fun _ => z_up_k (by decide)) (fun _ => z_up_k (by decide)) (fun _ => z_up_k (by decide)) (fun _ => z_up_k (by decide)) (fun _ => z_up_k (by decide)) (fun _ => z_up_k (by decide)) (fun _ => z_up_k (by decide)) (fun _ => z_up_k (by decide)) (fun _ => z_up_k (by decide)) (fun _ => z_up_k (by decide)) (fun _ => z_up_k (by decide)) (fun _ => z_up_k (by decide)) (fun _ => z_up_k (by decide)) (fun _ => z_up_k (by decide)) (fun _ => z_up_k (by decide)) (fun _ => z_up_k (by decide)) (z_up_k (by decide)) (fun _ => z_up_k (by decide)) (fun _ => z_up_k (by decide)) (fun _ => z_up_k (by decide)) (fun _ => z_up_k (by decide)) (fun _ => z_up_k (by decide)) (fun _ => z_up_k (by decide)) (fun _ => z_up_k (by decide)) (fun _ => z_up_k (by decide)) (fun _ => z_up_k (by decide)) (fun _ => z_up_k (by decide)) (fun _ => z_up_k (by decide)) (z_up_k (by decide)) (fun _ => z_up_k (by decide)) (fun _ => z_up_k (by decide)) (fun _ => z_up_k (by decide)) (fun _ => z_up_k (by decide)) (fun _ => z_up_k (by decide)) (fun _ => z_up_k (by decide)) (fun _ => z_up_k (by decide)) (fun _ => z_up_k (by decide))), Or.inr (Or.inr rfl)⟩
  refine T_ite (fun h20 => ?_) (fun h20 => ?_)
  · refine T_if1 (by decide +kernel) ?_
    refine T_let 240 (by decide +kernel) ?_
    refine T_if1 (by decide +kernel) ?_
    refine T_let 247 (by decide +kernel) ?_
    refine T_if1 (by decide +kernel) ?_
    refine T_get (by decide +kernel) (c := 248) (by decide +kernel) bdr_248 (by decide) c2 (fun x21 e22 b23 w24 => ?_)
    have l25 : z_ln 247 = 201 := by decide +kernel
    exact T_ret ⟨c2, f4, (y_V3.u o7 (Or.inr o8)), (y_Y4.c o9), Or.inl (⟨x21, rfl, by omega, by omega⟩)⟩
  · refine T_ite (fun h26 => ?_) (fun h26 => ?_)
    · refine T_if1 (by decide +kernel) ?_
      refine T_let 240 (by decide +kernel) ?_
      refine T_if1 (by decide +kernel) ?_
      refine T_let 247 (by decide +kernel) ?_
      refine T_leq (fun x27 e28 => ?_)
      have w29 := z_wr e28
      refine T_if1 (by decide +kernel) ?_
      refine T_get (by decide +kernel) (c := 248) (by decide +kernel) bdr_248 (by decide) c2 (fun x30 e31 b32 w33 => ?_)
      have l34 : z_ln 247 = 201 := by decide +kernel
      refine T_if1 (by decide +kernel) ?_
      refine T_let 240 (by decide +kernel) ?_
      refine T_if1 (by decide +kernel) ?_
      refine T_let 247 (by decide +kernel) ?_
      refine T_if1 (by decide +kernel) ?_
      refine T_get (by decide +kernel) (c := 248) (by decide +kernel) bdr_248 (by decide) c2 (fun x35 e36 b37 w38 => ?_)
      have l39 : z_ln 247 = 201 := by decide +kernel
      refine T_leq (fun x40 e41 => ?_)
      have w42 := z_wr e41
      exact T_ret ⟨c2, f4, (y_V3.u o7 (Or.inr o8)), (y_Y4.c o9), Or.inl (⟨x40, rfl, by omega, by omega⟩)⟩
    · refine T_ite (fun h43 => ?_) (fun h43 => ?_)
      · refine T_if1 (by decide +kernel) ?_
        refine T_let 258 (by decide +kernel) ?_
        refine T_if1 (by decide +kernel) ?_
        refine T_let 269 (by decide +kernel) ?_
        refine T_if1 (by decide +kernel) ?_
        refine T_get (by decide +kernel) (c := 270) (by decide +kernel) bdr_270 (by decide) c2 (fun x44 e45 b46 w47 => ?_)
        have l48 : z_ln 269 = 200 := by decide +kernel
        exact T_ret ⟨c2, f4, (y_V3.u o7 (Or.inr o8)), (y_Y4.c o9), Or.inl (⟨x44, rfl, by omega, by omega⟩)⟩
      · refine T_ite (fun h49 => ?_) (fun h49 => ?_)
        · refine T_if1 (by decide +kernel) ?_
          refine T_let 2 (by decide +kernel) ?_
          refine T_if1 (by decide +kernel) ?_
          refine T_get (by decide +kernel) (c := 3) (by decide +kernel) bdr_3 (by decide) c2 (fun x50 e51 b52 w53 => ?_)
          have l54 : z_ln 2 = 9 := by decide +kernel
          refine T_if1 (by decide +kernel) ?_
          refine T_let 258 (by decide +kernel) ?_
          refine T_if1 (by decide +kernel) ?_
          refine T_let 269 (by decide +kernel) ?_
          refine T_if1 (by decide +kernel) ?_
          refine T_get (by decide +kernel) (c := 270) (by decide +kernel) bdr_270 (by decide) c2 (fun x55 e56 b57 w58 => ?_)
          have l59 : z_ln 269 = 200 := by decide +kernel
          refine T_leq (fun x60 e61 => ?_)
          have w62 := z_wr e61
          exact T_ret ⟨c2, f4, (y_V3.u o7 (Or.inr o8)), (y_Y4.c o9), Or.inl (⟨x60, rfl, by omega, by omega⟩)⟩
        · refine T_ite (fun h63 => ?_) (fun h63 => ?_)
          · refine T_if1 (by decide +kernel) ?_
            refine T_let 258 (by decide +kernel) ?_
            refine T_if1 (by decide +kernel) ?_
            refine T_let 271 (by decide +kernel) ?_
            refine T_if1 (by decide +kernel) ?_
            refine T_get (by decide +kernel) (c := 272) (by decide +kernel) bdr_272 (by decide) c2 (fun x64 e65 b66 w67 => ?_)
            have l68 : z_ln 271 = 200 := by decide +kernel
            exact T_ret ⟨c2, f4, (y_V3.u o7 (Or.inr o8)), (y_Y4.c o9), Or.inl (⟨x64, rfl, by omega, by omega⟩)⟩
          · refine T_ite (fun h69 => ?_) (fun h69 => ?_)
            · refine T_if1 (by decide +kernel) ?_
              refine T_let 258 (by decide +kernel) ?_
              refine T_if1 (by decide +kernel) ?_
              refine T_let 277 (by decide +kernel) ?_
              refine T_leq (fun x70 e71 => ?_)
              have w72 := z_wr e71
              refine T_if1 (by decide +kernel) ?_
              refine T_get (by decide +kernel) (c := 278) (by decide +kernel) bdr_278 (by decide) c2 (fun x73 e74 b75 w76 => ?_)
              have l77 : z_ln 277 = 201 := by decide +kernel
              refine T_if1 (by decide +kernel) ?_
              refine T_let 258 (by decide +kernel) ?_
              refine T_if1 (by decide +kernel) ?_
              refine T_let 277 (by decide +kernel) ?_
              refine T_if1 (by decide +kernel) ?_
              refine T_get (by decide +kernel) (c := 278) (by decide +kernel) bdr_278 (by decide) c2 (fun x78 e79 b80 w81 => ?_)
              have l82 : z_ln 277 = 201 := by decide +kernel
              refine T_leq (fun x83 e84 => ?_)
              have w85 := z_wr e84
              exact T_ret ⟨c2, f4, (y_V3.u o7 (Or.inr o8)), (y_Y4.c o9), Or.inl (⟨x83, rfl, by omega, by omega⟩)⟩
            · refine T_ite (fun h86 => ?_) (fun h86 => ?_)
              · refine T_if1 (by decide +kernel) ?_
                refine T_let 258 (by decide +kernel) ?_
                refine T_if1 (by decide +kernel) ?_
                refine T_let 273 (by decide +kernel) ?_
                refine T_if1 (by decide +kernel) ?_
                refine T_get (by decide +kernel) (c := 274) (by decide +kernel) bdr_274 (by decide) c2 (fun x87 e88 b89 w90 => ?_)
                have l91 : z_ln 273 = 200 := by decide +kernel
                exact T_ret ⟨c2, f4, (y_V3.u o7 (Or.inr o8)), (y_Y4.c o9), Or.inl (⟨x87, rfl, by omega, by omega⟩)⟩
              · refine T_if1 (by decide +kernel) ?_
                refine T_let 258 (by decide +kernel) ?_
                refine T_if1 (by decide +kernel) ?_
                refine T_let 275 (by decide +kernel) ?_
                refine T_if1 (by decide +kernel) ?_
                refine T_get (by decide +kernel) (c := 276) (by decide +kernel) bdr_276 (by decide) c2 (fun x92 e93 b94 w95 => ?_)
                have l96 : z_ln 275 = 200 := by decide +kernel
                exact T_ret ⟨c2, f4, (y_V3.u o7 (Or.inr o8)), (y_Y4.c o9), Or.inl (⟨x92, rfl, by omega, by omega⟩)⟩
abbrev P_X11_block_1Y (r0 : z_M) : z_V → z_M → Prop := fun v s' => z_CI s' ∧ z_Fr R_X11_block_1 r0 s' ∧ (y_V3 s') ∧ (y_Y4 s') ∧ ((∃ x, v = vI x ∧ -2147483648 ≤ x ∧ x ≤ 2147483647) ∨ v = vX 0 ∨ v = vX 1)
theorem nr_X0_padAhead_279__260 (b : Int) : ¬ R_X0_padAhead_279 260 b := not_false
theorem nr_X0_padAhead_279__262 (b : Int) : ¬ R_X0_padAhead_279 262 b := not_false
theorem nr_X0_padAhead_279__264 (b : Int) : ¬ R_X0_padAhead_279 264 b := not_false
theorem nr_X0_padAhead_279__266 (b : Int) : ¬ R_X0_padAhead_279 266 b := not_false
theorem nr_X0_padAhead_279__268 (b : Int) : ¬ R_X0_padAhead_279 268 b := not_false
theorem nr_X0_padAhead_279__270 (b : Int) : ¬ R_X0_padAhead_279 270 b := not_false
theorem nr_X0_padAhead_279__272 (b : Int) : ¬ R_X0_padAhead_279 272 b := not_false
theorem nr_X0_padAhead_279__274 (b : Int) : ¬ R_X0_padAhead_279 274 b := not_false
theorem nr_X0_padAhead_279__276 (b : Int) : ¬ R_X0_padAhead_279 276 b := not_false
theorem nr_X0_padAhead_279__278 (b : Int) : ¬ R_X0_padAhead_279 278 b := not_false
theorem nr_X0_padAhead_279__281 (b : Int) : ¬ R_X0_padAhead_279 281 b := not_false
theorem nr_X0_padAhead_279__283 (b : Int) : ¬ R_X0_padAhead_279 283 b := not_false
theorem nr_X0_padAhead_279__285 (b : Int) : ¬ R_X0_padAhead_279 285 b := not_false
theorem nr_X0_padAhead_279__287 (b : Int) : ¬ R_X0_padAhead_279 287 b := not_false
theorem nr_X0_padAhead_279__289 (b : Int) : ¬ R_X0_padAhead_279 289 b := not_false
theorem nr_X0_padAhead_279__291 (b : Int) : ¬ R_X0_padAhead_279 291 b := not_false
theorem nr_X0_padAhead_279__293 (b : Int) : ¬ R_X0_padAhead_279 293 b := not_false
theorem nr_X0_padAhead_279__295 (b : Int) : ¬ R_X0_padAhead_279 295 b := not_false
theorem nr_X0_padBehind_279__260 (b : Int) : ¬ R_X0_padBehind_279 260 b := not_false
theorem nr_X0_padBehind_279__262 (b : Int) : ¬ R_X0_padBehind_279 262 b := not_false
theorem nr_X0_padBehind_279__264 (b : Int) : ¬ R_X0_padBehind_279 264 b := not_false
theorem nr_X0_padBehind_279__266 (b : Int) : ¬ R_X0_padBehind_279 266 b := not_false
theorem nr_X0_padBehind_279__268 (b : Int) : ¬ R_X0_padBehind_279 268 b := not_false
theorem nr_X0_padBehind_279__270 (b : Int) : ¬ R_X0_padBehind_279 270 b := not_false
theorem nr_X0_padBehind_279__272 (b : Int) : ¬ R_X0_padBehind_279 272 b := not_false
theorem nr_X0_padBehind_279__274 (b : Int) : ¬ R_X0_padBehind_279 274 b := not_false
theorem nr_X0_padBehind_279__276 (b : Int) : ¬ R_X0_padBehind_279 276 b := not_false
theorem nr_X0_padBehind_279__278 (b : Int) : ¬ R_X0_padBehind_279 278 b := not_false
theorem nr_X0_padBehind_279__281 (b : Int) : ¬ R_X0_padBehind_279 281 b := not_false
theorem nr_X0_padBehind_279__283 (b : Int) : ¬ R_X0_padBehind_279 283 b := not_false
theorem nr_X0_padBehind_279__285 (b : Int) : ¬ R_X0_padBehind_279 285 b := not_false
theorem nr_X0_padBehind_279__287 (b : Int) : ¬ R_X0_padBehind_279 287 b := not_false
theorem nr_X0_padBehind_279__289 (b : Int) : ¬ R_X0_padBehind_279 289 b := not_false
theorem nr_X0_padBehind_279__291 (b : Int) : ¬ R_X0_padBehind_279 291 b := not_false
theorem nr_X0_padBehind_279__293 (b : Int) : ¬ R_X0_padBehind_279 293 b := not_false
theorem nr_X0_padBehind_279__295 (b : Int) : ¬ R_X0_padBehind_279 295 b := not_false
set_option maxHeartbeats 4000000 in
theorem sf_X11_block_1Y {fu : Nat} (hfu : 8589934592 ≤ fu) (r0 : z_M) (c0 : z_CI r0) (a1 : Int) (a2 : Int) (b1 : -2147483648 ≤ a1 ∧ a1 ≤ 2147483647) (b2 : -2147483648 ≤ a2 ∧ a2 ≤ 2147483647) (p0 : y_V3 r0) (p1 : y_Y4 r0) : z_T (fX11_block fu r0 1 a1 a2) (P_X11_block_1Y r0) := by
  refine T_of (fX11_block.eq_1 ..) ?_
  refine T_if1 (by decide +kernel) ?_
  refine T_useN (sf_X11_refresh_1Y hfu r0 c0 p0 p1) (fun v6 s1 hq => ?_)
  obtain ⟨c2, f3, o7, o8, o9, rfl⟩ := hq
  refine T_vN ?_
  have f4 := z_Fr.tr (R := R_X11_block_1) z_Fr.rf f3 rs_X11_refresh_1__X11_block_1
  have u12 := CI_b c2 (k := 279) (j := 9) bd_279_9
  refine T_if1 (by decide +kernel) ?_
  refine T_let 258 (by decide +kernel) ?_
  refine T_if1 (by decide +kernel) ?_
  refine T_let 279 (by decide +kernel) ?_
  refine T_if1 (by decide +kernel) ?_
  refine T_leq (fun x13 e14 => ?_)
  have u15 := CI_b c2 (k := 279) (j := 9) bd_279_9
  refine T_if1 (by decide +kernel) ?_
  refine T_ne ?_ (fun h16 h17 => ?_)
  · exact T_ret ⟨CI_up c2 bd_1_14 (z_wb rfl).1, z_Fr.upf (R := R_X11_block_1) f4 (fun a b h => z_up_k h) (fun b h => z_up_j h) (Or.inr (Or.inr (Or.inr (Or.inr (Or.inr (Or.inr (Or.inr (Or.inl (⟨rfl, by decide⟩))))))))), y_V3.u (y_U3.fr o7 (z_up_k (by decide)) (z_up_k (by decide)) (z_up_k (by decide)) (z_up_k (by decide)) (fun _ => z_up_k (by decide)) (fun _ => z_up_k (by decide)) (fun _ => z_up_k (by decide)) (fun _ => z_up_k (by decide)) (fun _ => z_up_k (by decide)) (fun _ => z_up_k (by decide)) (fun _ => z_up_k (by decide)) (fun _ => z_up_k (by decide)) (fun _ => z_up_k (by decide)) (fun _ => z_up_k (by decide)) (fun _ => z_up_k (by decide)) (fun _ => z_up_k (by decide)) (fun _ => z_up_k (by decide)) (fun _ => z_up_k (by decide)) (fun _ => z_up_k (by decide)) (fun _ => z_up_k (by decide)) (fun _ => z_up_k (by decide)) (fun _ => z_up_k (by decide)) (fun _ => z_up_k (by decide)) (fun _ => z_up_k (by decide)) (fun _ => z_up_k (by decide))) (y_L3.fr (show y_L3 s1 from (Or.inr o8)) (z_up_j (by decide)) (z_up_k (by decide)) (z_up_k (by decide)) (z_up_k (by decide)) (z_up_k (by decide)) (fun _ => z_up_k (by decide)) (fun _ => z_up_k (by decide)) (fun _ => z_up_k (by decide)) (fun _ => z_up_k (by decide)) (fun _ => z_up_k (by decide)) (fun _ => z_up_k (by decide)) (fun _ => z_up_k (by decide)) (fun _ => z_up_k (by decide)) (fun _ => z_up_k (by decide)) (fun _ => z_up_k (by decide)) (fun _ => z_up_k (by decide)) (fun _ => z_up_k (by decide)) (fun _ => z_up_k (by decide)) (fun _ => z_up_k (by decide)) (fun _ => z_up_k (by decide)) (fun _ => z_up_k (by decide)) (fun _ => z_up_k (by decide)) (fun _ => z_up_k (by decide)) (fun _ => z_up_k (by decide)) (fun _ => z_up_k (by decide)) (z_up_k (by decide)) (fun _ => z_up_k (by decide))), y_Y4.c (y_YC.fr o9 (z_up_k (by decide)) (z_up_k (by decide)) (z_up_k (by decide)) (z_up_k (by decide)) (fun _ => z_up_k (by decide)) (fun _ => z_up_k (by decide)) (fun _ => z_up_k (by decide)) (fun _ => z_up_k (by decide)) (fun _ => z_up_k (by decide)) (fun _ => z_up_k (by decide)) (fun _ => z_up_k (by decide)) (fun _ => z_up_k (by decide)) (fun _ => z_up_k (by decide)) (fun _ => z_up_k (by decide)) (fun _ => z_up_k (by decide)) (fun _ => z_up_k (by decide)) (fun _ => z_up_k (by decide)) (fun _ => z_up_k (by decide)) (fun _ => z_up_k (by decide)) (fun _ => z_up_k (by decide)) (fun _ => z_up_k (by decide)) (fun _ => z_up_k (by decide)) (fun _ => z_up_k (by decide)) (fun _ => z_up_k (by decide)) (z_up_k (by decide)) (fun _ => z_up_k (by decide)) (fun _ => z_up_k (by decide)) (fun _ => z_up_k (by decide)) (fun _ => z_up_k (by decide)) (fun _ => z_up_k (by decide)) (fun _ => z_up_k (by decide)) (fun _ => z_up_k (by decide)) (fun _ => z_up_k (by decide)) (fun _ => z_up_k (by decide)) (fun _ => z_up_k (by decide)) (fun _ => z_up_k (by decide)) (z_up_k (by decide)) (fun _ => z_up_k (by decide)) (fun _ => z_up_k (by decide)) (fun _ => z_up_k (by decide)) (fun _ => z_up_k (by decide)) (fun _ => z_up_k (by decide)) (fun _ => z_up_k (by decide)) (fun _ => z_up_k (by decide)) (fun _ => z_up_k (by decide))), Or.inr (Or.inl rfl)⟩
  refine T_if1 (by decide +kernel) ?_
  refine T_nw ?_ (fun h18 h19 => ?_)
  · exact T_ret ⟨CI_up c2 bd_1_15 (z_wb rfl).1, z_Fr.upf (R := R_X11_block_1) f4 (fun a b h => z_up_k h) (fun b h => z_up_j h) (Or.inr (Or.inr (Or.inr (Or.inr (Or.inr (Or.inr (Or.inr (Or.inl (⟨rfl, by decide⟩))))))))), y_V3.u (y_U3.fr o7 (z_up_k (by decide)) (z_up_k (by decide)) (z_up_k (by decide)) (z_up_k (by decide)) (fun _ => z_up_k (by decide)) (fun _ => z_up_k (by decide)) (fun _ => z_up_k (by decide)) (fun _ => z_up_k (by decide)) (fun _ => z_up_k (by decide)) (fun _ => z_up_k (by decide)) (fun _ => z_up_k (by decide)) (fun _ => z_up_k (by decide)) (fun _ => z_up_k (by decide)) (fun _ => z_up_k (by decide)) (fun _ => z_up_k (by decide)) (fun _ => z_up_k (by decide)) (fun _ => z_up_k (by decide)) (fun _ => z_up_k (by decide)) (fun _ => z_up_k (by decide)) (fun _ => z_up_k (by decide)) (fun _ => z_up_k (by decide)) (fun _ => z_up_k (by decide)) (fun _ => z_up_k (by decide)) (fun _ => z_up_k (by decide)) (fun _ => z_up_k (by decide))) (y_L3.fr (show y_L3 s1 from (Or.inr o8)) (z_up_j (by decide)) (z_up_k (by decide)) (z_up_k (by decide)) (z_up_k (by decide)) (z_up_k (by decide)) (fun _ => z_up_k (by decide)) (fun _ => z_up_k (by decide)) (fun _ => z_up_k (by decide)) (fun _ => z_up_k (by decide)) (fun _ => z_up_k (by decide)) (fun _ => z_up_k (by decide)) (fun _ => z_up_k (by decide)) (fun _ => z_up_k (by decide)) (fun _ => z_up_k (by decide)) (fun _ => z_up_k (by decide)) (fun _ => z_up_k (by decide)) (fun _ => z_up_k (by decide)) (fun _ => z_up_k (by decide)) (fun _ => z_up_k (by decide)) (fun _ => z_up_k (by decide)) (fun _ => z_up_k (by decide)) (fun _ => z_up_k (by decide)) (fun _ => z_up_k (by decide)) (fun _ => z_up_k (by decide)) (fun _ => z_up_k (by decide)) (z_up_k (by decide)) (fun _ => z_up_k (by decide))), y_Y4.c (y_YC.fr o9 (z_up_k (by decide)) (z_up_k (by decide)) (z_up_k (by decide)) (z_up_k (by decide)) (fun _ => z_up_k (by decide)) (fun _ => z_up_k (by decide)) (fun _ => z_up_k (by decide)) (fun _ => z_up_k (by decide)) (fun _ => z_up_k (by decide)) (fun _ => z_up_k (by decide)) (fun _ => z_up_k (by decide)) (fun _ => z_up_k (by decide)) (fun _ => z_up_k (by decide)) (fun _ => z_up_k (by decide)) (fun _ => z_up_k (by decide)) (fun _ => z_up_k (by decide)) (fun _ => z_up_k (by decide)) (fun _ => z_up_k (by decide)) (fun _ => z_up_k (by decide)) (fun _ => z_up_k (by decide)) (fun _ => z_up_k (by decide)) (fun _ => z_up_k (by decide)) (fun _ => z_up_k (by decide)) (fun _ => z_up_k (by decide)) (z_up_k (by decide)) (fun _ => z_up_k (by decide)) (fun _ => z_up_k (by decide)) (fun _ => z_up_k (by decide)) (fun _ => z_up_k (by decide)) (fun _ => z_up_k (by decide)) (fun _ => z_up_k (by decide)) (fun _ => z_up_k (by decide)) (fun _ => z_up_k (by decide)) (fun _ => z_up_k (by decide)) (fun _ => z_up_k (by decide)) (fun _ => z_up_k (by decide)) (z_up_k (by decide)) (fun _ => z_up_k (by decide)) (fun _ => z_up_k (by decide)) (fun _ => z_up_k (by decide)) (fun _ => z_up_k (by decide)) (fun _ => z_up_k (by decide)) (fun _ => z_up_k (by decide)) (fun _ => z_up_k (by decide)) (fun _ => z_up_k (by decide))), Or.inr (Or.inr rfl)⟩
  refine T_ite (fun h20 => ?_) (fun h20 => ?_)
  · refine T_if1 (by decide +kernel) ?_
    refine T_let 280 (by decide +kernel) ?_
    refine T_if1 (by decide +kernel) ?_
    refine T_get (by decide +kernel) (c := 281) (by decide +kernel) bdr_281 (by decide) c2 (fun x21 e22 b23 w24 => ?_)
    have l25 : z_ln 280 = 200 := by decide +kernel
    exact T_ret ⟨c2, f4, (y_V3.u o7 (Or.inr o8)), (y_Y4.c o9), Or.inl (⟨x21, rfl, by omega, by omega⟩)⟩
  · refine T_ite (fun h26 => ?_) (fun h26 => ?_)
    · refine T_if1 (by decide +kernel) ?_
      refine T_let 282 (by decide +kernel) ?_
      refine T_if1 (by decide +kernel) ?_
      refine T_get (by decide +kernel) (c := 283) (by decide +kernel) bdr_283 (by decide) c2 (fun x27 e28 b29 w30 => ?_)
      have l31 : z_ln 282 = 200 := by decide +kernel
      refine T_if1 (by decide +kernel) ?_
      refine T_let 280 (by decide +kernel) ?_
      refine T_if1 (by decide +kernel) ?_
      refine T_get (by decide +kernel) (c := 281) (by decide +kernel) bdr_281 (by decide) c2 (fun x32 e33 b34 w35 => ?_)
      have l36 : z_ln 280 = 200 := by decide +kernel
      refine T_leq (fun x37 e38 => ?_)
      have w39 := z_wr e38
      refine T_leq (fun x40 e41 => ?_)
      have w42 := z_wr e41
      exact T_ret ⟨c2, f4, (y_V3.u o7 (Or.inr o8)), (y_Y4.c o9), Or.inl (⟨x40, rfl, by omega, by omega⟩)⟩
    · refine T_ite (fun h43 => ?_) (fun h43 => ?_)
      · refine T_if1 (by decide +kernel) ?_
        refine T_let 284 (by decide +kernel) ?_
        refine T_if1 (by decide +kernel) ?_
        refine T_get (by decide +kernel) (c := 285) (by decide +kernel) bdr_285 (by decide) c2 (fun x44 e45 b46 w47 => ?_)
        have l48 : z_ln 284 = 200 := by decide +kernel
        exact T_ret ⟨c2, f4, (y_V3.u o7 (Or.inr o8)), (y_Y4.c o9), Or.inl (⟨x44, rfl, by omega, by omega⟩)⟩
      · refine T_ite (fun h49 => ?_) (fun h49 => ?_)
        · refine T_if1 (by decide +kernel) ?_
          refine T_let 286 (by decide +kernel) ?_
          refine T_if1 (by decide +kernel) ?_
          refine T_get (by decide +kernel) (c := 287) (by decide +kernel) bdr_287 (by decide) c2 (fun x50 e51 b52 w53 => ?_)
          have l54 : z_ln 286 = 200 := by decide +kernel
          exact T_ret ⟨c2, f4, (y_V3.u o7 (Or.inr o8)), (y_Y4.c o9), Or.inl (⟨x50, rfl, by omega, by omega⟩)⟩
        · refine T_ite (fun h55 => ?_) (fun h55 => ?_)
          · refine T_if1 (by decide +kernel) ?_
            refine T_let 288 (by decide +kernel) ?_
            refine T_if1 (by decide +kernel) ?_
            refine T_get (by decide +kernel) (c := 289) (by decide +kernel) bdr_289 (by decide) c2 (fun x56 e57 b58 w59 => ?_)
            have l60 : z_ln 288 = 200 := by decide +kernel
            exact T_ret ⟨c2, f4, (y_V3.u o7 (Or.inr o8)), (y_Y4.c o9), Or.inl (⟨x56, rfl, by omega, by omega⟩)⟩
          · refine T_ite (fun h61 => ?_) (fun h61 => ?_)
            · refine T_if1 (by decide +kernel) ?_
              refine T_let 290 (by decide +kernel) ?_
              refine T_if1 (by decide +kernel) ?_
              refine T_get (by decide +kernel) (c := 291) (by decide +kernel) bdr_291 (by decide) c2 (fun x62 e63 b64 w65 => ?_)
              have l66 : z_ln 290 = 200 := by decide +kernel
              exact T_ret ⟨c2, f4, (y_V3.u o7 (Or.inr o8)), (y_Y4.c o9), Or.inl (⟨x62, rfl, by omega, by omega⟩)⟩
            · refine T_ite (fun h67 => ?_) (fun h67 => ?_)
              · refine T_if1 (by decide +kernel) ?_
                refine T_useI (sf_X0_padAhead_279 hfu s1 c2 a1 (by omega)) (fun v73 s68 hq => ?_)
                obtain ⟨c69, f70, ⟨x72, rfl, b74, b75⟩⟩ := hq
                refine T_vI ?_
                have f71 := z_Fr.tr (R := R_X11_block_1) f4 f70 (fun a b h => absurd h not_false)
                have t76 : s68 279 9 = s1 279 9 := f70 279 9 (by decide)
                have r77 := y_U3.fr o7 (f70 191 16 (by decide)) (f70 6 6 (by decide)) (f70 191 17 (by decide)) (f70 191 18 (by decide)) (fun b => f70 3 b (nr_X0_padAhead_279__3 b)) (fun b => f70 8 b (nr_X0_padAhead_279__8 b)) (fun b => f70 12 b (nr_X0_padAhead_279__12 b)) (fun b => f70 14 b (nr_X0_padAhead_279__14 b)) (fun b => f70 16 b (nr_X0_padAhead_279__16 b)) (fun b => f70 18 b (nr_X0_padAhead_279__18 b)) (fun b => f70 193 b (nr_X0_padAhead_279__193 b)) (fun b => f70 195 b (nr_X0_padAhead_279__195 b)) (fun b => f70 197 b (nr_X0_padAhead_279__197 b)) (fun b => f70 199 b (nr_X0_padAhead_279__199 b)) (fun b => f70 201 b (nr_X0_padAhead_279__201 b)) (fun b => f70 203 b (nr_X0_padAhead_279__203 b)) (fun b => f70 205 b (nr_X0_padAhead_279__205 b)) (fun b => f70 207 b (nr_X0_padAhead_279__207 b)) (fun b => f70 209 b (nr_X0_padAhead_279__209 b)) (fun b => f70 211 b (nr_X0_padAhead_279__211 b)) (fun b => f70 213 b (nr_X0_padAhead_279__213 b)) (fun b => f70 215 b (nr_X0_padAhead_279__215 b)) (fun b => f70 217 b (nr_X0_padAhead_279__217 b)) (fun b => f70 219 b (nr_X0_padAhead_279__219 b)) (fun b => f70 222 b (nr_X0_padAhead_279__222 b))
                have r78 := y_SA.fr o8 (f70 191 16 (by decide)) (f70 6 6 (by decide)) (f70 191 17 (by decide)) (f70 191 18 (by decide)) (fun b => f70 3 b (nr_X0_padAhead_279__3 b)) (fun b => f70 8 b (nr_X0_padAhead_279__8 b)) (fun b => f70 12 b (nr_X0_padAhead_279__12 b)) (fun b => f70 14 b (nr_X0_padAhead_279__14 b)) (fun b => f70 16 b (nr_X0_padAhead_279__16 b)) (fun b => f70 18 b (nr_X0_padAhead_279__18 b)) (fun b => f70 193 b (nr_X0_padAhead_279__193 b)) (fun b => f70 195 b (nr_X0_padAhead_279__195 b)) (fun b => f70 197 b (nr_X0_padAhead_279__197 b)) (fun b => f70 199 b (nr_X0_padAhead_279__199 b)) (fun b => f70 201 b (nr_X0_padAhead_279__201 b)) (fun b => f70 203 b (nr_X0_padAhead_279__203 b)) (fun b => f70 205 b (nr_X0_padAhead_279__205 b)) (fun b => f70 207 b (nr_X0_padAhead_279__207 b)) (fun b => f70 209 b (nr_X0_padAhead_279__209 b)) (fun b => f70 211 b (nr_X0_padAhead_279__211 b)) (fun b => f70 213 b (nr_X0_padAhead_279__213 b)) (fun b => f70 215 b (nr_X0_padAhead_279__215 b)) (fun b => f70 217 b (nr_X0_padAhead_279__217 b)) (fun b => f70 219 b (nr_X0_padAhead_279__219 b)) (f70 240 6 (by decide)) (fun b => f70 248 b (nr_X0_padAhead_279__248 b))
                have r79 := y_YC.fr o9 (f70 191 16 (by decide)) (f70 6 6 (by decide)) (f70 191 17 (by decide)) (f70 191 18 (by decide)) (fun b => f70 3 b (nr_X0_padAhead_279__3 b)) (fun b => f70 8 b (nr_X0_padAhead_279__8 b)) (fun b => f70 12 b (nr_X0_padAhead_279__12 b)) (fun b => f70 14 b (nr_X0_padAhead_279__14 b)) (fun b => f70 16 b (nr_X0_padAhead_279__16 b)) (fun b => f70 18 b (nr_X0_padAhead_279__18 b)) (fun b => f70 193 b (nr_X0_padAhead_279__193 b)) (fun b => f70 195 b (nr_X0_padAhead_279__195 b)) (fun b => f70 197 b (nr_X0_padAhead_279__197 b)) (fun b => f70 199 b (nr_X0_padAhead_279__199 b)) (fun b => f70 201 b (nr_X0_padAhead_279__201 b)) (fun b => f70 203 b (nr_X0_padAhead_279__203 b)) (fun b => f70 205 b (nr_X0_padAhead_279__205 b)) (fun b => f70 207 b (nr_X0_padAhead_279__207 b)) (fun b => f70 209 b (nr_X0_padAhead_279__209 b)) (fun b => f70 211 b (nr_X0_padAhead_279__211 b)) (fun b => f70 213 b (nr_X0_padAhead_279__213 b)) (fun b => f70 215 b (nr_X0_padAhead_279__215 b)) (fun b => f70 217 b (nr_X0_padAhead_279__217 b)) (fun b => f70 219 b (nr_X0_padAhead_279__219 b)) (f70 240 6 (by decide)) (fun b => f70 248 b (nr_X0_padAhead_279__248 b)) (fun b => f70 260 b (nr_X0_padAhead_279__260 b)) (fun b => f70 262 b (nr_X0_padAhead_279__262 b)) (fun b => f70 264 b (nr_X0_padAhead_279__264 b)) (fun b => f70 266 b (nr_X0_padAhead_279__266 b)) (fun b => f70 268 b (nr_X0_padAhead_279__268 b)) (fun b => f70 270 b (nr_X0_padAhead_279__270 b)) (fun b => f70 272 b (nr_X0_padAhead_279__272 b)) (fun b => f70 274 b (nr_X0_padAhead_279__274 b)) (fun b => f70 276 b (nr_X0_padAhead_279__276 b)) (fun b => f70 278 b (nr_X0_padAhead_279__278 b)) (f70 279 9 (by decide)) (fun b => f70 281 b (nr_X0_padAhead_279__281 b)) (fun b => f70 283 b (nr_X0_padAhead_279__283 b)) (fun b => f70 285 b (nr_X0_padAhead_279__285 b)) (fun b => f70 287 b (nr_X0_padAhead_279__287 b)) (fun b => f70 289 b (nr_X0_padAhead_279__289 b)) (fun b => f70 291 b (nr_X0_padAhead_279__291 b)) (fun b => f70 293 b (nr_X0_padAhead_279__293 b)) (fun b => f70 295 b (nr_X0_padAhead_279__295 b))
                have r80 := y_B0.fr o7.1.1 (f70 211 0 (by decide)) (f70 213 0 (by decide))
                exact T_ret ⟨c69, f71, (y_V3.u r77 (Or.inr r78)), (y_Y4.c r79), Or.inl (⟨x72, rfl, by omega, by omega⟩)⟩
              · refine T_if1 (by decide +kernel) ?_
                refine T_useI (sf_X0_padBehind_279 hfu s1 c2 a1 (by omega)) (fun v86 s81 hq => ?_)
                obtain ⟨c82, f83, ⟨x85, rfl, b87, b88⟩⟩ := hq
                refine T_vI ?_
                have f84 := z_Fr.tr (R := R_X11_block_1) f4 f83 (fun a b h => absurd h not_false)
                have t89 : s81 279 9 = s1 279 9 := f83 279 9 (by decide)
                have r90 := y_U3.fr o7 (f83 191 16 (by decide)) (f83 6 6 (by decide)) (f83 191 17 (by decide)) (f83 191 18 (by decide)) (fun b => f83 3 b (nr_X0_padBehind_279__3 b)) (fun b => f83 8 b (nr_X0_padBehind_279__8 b)) (fun b => f83 12 b (nr_X0_padBehind_279__12 b)) (fun b => f83 14 b (nr_X0_padBehind_279__14 b)) (fun b => f83 16 b (nr_X0_padBehind_279__16 b)) (fun b => f83 18 b (nr_X0_padBehind_279__18 b)) (fun b => f83 193 b (nr_X0_padBehind_279__193 b)) (fun b => f83 195 b (nr_X0_padBehind_279__195 b)) (fun b => f83 197 b (nr_X0_padBehind_279__197 b)) (fun b => f83 199 b (nr_X0_padBehind_279__199 b)) (fun b => f83 201 b (nr_X0_padBehind_279__201 b)) (fun b => f83 203 b (nr_X0_padBehind_279__203 b)) (fun b => f83 205 b (nr_X0_padBehind_279__205 b)) (fun b => f83 207 b (nr_X0_padBehind_279__207 b)) (fun b => f83 209 b (nr_X0_padBehind_279__209 b)) (fun b => f83 211 b (nr_X0_padBehind_279__211 b)) (fun b => f83 213 b (nr_X0_padBehind_279__213 b)) (fun b => f83 215 b (nr_X0_padBehind_279__215 b)) (fun b => f83 217 b (nr_X0_padBehind_279__217 b)) (fun b => f83 219 b (nr_X0_padBehind_279__219 b)) (fun b => f83 222 b (nr_X0_padBehind_279__222 b))
                have r91 := y_SA.fr o8 (f83 191 16 (by decide)) (f83 6 6 (by decide)) (f83 191 17 (by decide)) (f83 191 18 (by decide)) (fun b => f83 3 b (nr_X0_padBehind_279__3 b)) (fun b => f83 8 b (nr_X0_padBehind_279__8 b)) (fun b => f83 12 b (nr_X0_padBehind_279__12 b)) (fun b => f83 14 b (nr_X0_padBehind_279__14 b)) (fun b => f83 16 b (nr_X0_padBehind_279__16 b)) (fun b => f83 18 b (nr_X0_padBehind_279__18 b)) (fun b => f83 193 b (nr_X0_padBehind_279__193 b)) (fun b => f83 195 b (nr_X0_padBehind_279__195 b)) (fun b => f83 197 b (nr_X0_padBehind_279__197 b)) (fun b => f83 199 b (nr_X0_padBehind_279__199 b)) (fun b => f83 201 b (nr_X0_padBehind_279__201 b)) (fun b => f83 203 b (nr_X0_padBehind_279__203 b)) (fun b => f83 205 b (nr_X0_padBehind_279__205 b)) (fun b => f83 207 b (nr_X0_padBehind_279__207 b)) (fun b => f83 209 b (nr_X0_padBehind_279__209 b)) (fun b => f83 211 b (nr_X0_padBehind_279__211 b)) (fun b => f83 213 b (nr_X0_padBehind_279__213 b)) (fun b => f83 215 b (nr_X0_padBehind_279__215 b)) (fun b => f83 217 b (nr_X0_padBehind_279__217 b)) (fun b => f83 219 b (nr_X0_padBehind_279__219 b)) (f83 240 6 (by decide)) (fun b => f83 248 b (nr_X0_padBehind_279__248 b))
                have r92 := y_YC.fr o9 (f83 191 16 (by decide)) (f83 6 6 (by decide)) (f83 191 17 (by decide)) (f83 191 18 (by decide)) (fun b => f83 3 b (nr_X0_padBehind_279__3 b)) (fun b => f83 8 b (nr_X0_padBehind_279__8 b)) (fun b => f83 12 b (nr_X0_padBehind_279__12 b)) (fun b => f83 14 b (nr_X0_padBehind_279__14 b)) (fun b => f83 16 b (nr_X0_padBehind_279__16 b)) (fun b => f83 18 b (nr_X0_padBehind_279__18 b)) (fun b => f83 193 b (nr_X0_padBehind_279__193 b)) (fun b => f83 195 b (nr_X0_padBehind_279__195 b)) (fun b => f83 197 b (nr_X0_padBehind_279__197 b)) (fun b => f83 199 b (nr_X0_padBehind_279__199 b)) (fun b => f83 201 b (nr_X0_padBehind_279__201 b)) (fun b => f83 203 b (nr_X0_padBehind_279__203 b)) (fun b => f83 205 b (nr_X0_padBehind_279__205 b)) (fun b => f83 207 b (nr_X0_padBehind_279__207 b)) (fun b => f83 209 b (nr_X0_padBehind_279__209 b)) (fun b => f83 211 b (nr_X0_padBehind_279__211 b)) (fun b => f83 213 b (nr_X0_padBehind_279__213 b)) (fun b => f83 215 b (nr_X0_padBehind_279__215 b)) (fun b => f83 217 b (nr_X0_padBehind_279__217 b)) (fun b => f83 219 b (nr_X0_padBehind_279__219 b)) (f83 240 6 (by decide)) (fun b => f83 248 b (nr_X0_padBehind_279__248 b)) (fun b => f83 260 b (nr_X0_padBehind_279__260 b)) (fun b => f83 262 b (nr_X0_padBehind_279__262 b)) (fun b => f83 264 b (nr_X0_padBehind_279__264 b)) (fun b => f83 266 b (nr_X0_padBehind_279__266 b)) (fun b => f83 268 b (nr_X0_padBehind_279__268 b)) (fun b => f83 270 b (nr_X0_padBehind_279__270 b)) (fun b => f83 272 b (nr_X0_padBehind_279__272 b)) (fun b => f83 274 b (nr_X0_padBehind_279__274 b)) (fun b => f83 276 b (nr_X0_padBehind_279__276 b)) (fun b => f83 278 b (nr_X0_padBehind_279__278 b)) (f83 279 9 (by decide)) (fun b => f83 281 b (nr_X0_padBehind_279__281 b)) (fun b => f83 283 b (nr_X0_padBehind_279__283 b)) (fun b => f83 285 b (nr_X0_padBehind_279__285 b)) (fun b => f83 287 b (nr_X0_padBehind_279__287 b)) (fun b => f83 289 b (nr_X0_padBehind_279__289 b)) (fun b => f83 291 b (nr_X0_padBehind_279__291 b)) (fun b => f83 293 b (nr_X0_padBehind_279__293 b)) (fun b => f83 295 b (nr_X0_padBehind_279__295 b))
                have r93 := y_B0.fr o7.1.1 (f83 211 0 (by decide)) (f83 213 0 (by decide))
                exact T_ret ⟨c82, f84, (y_V3.u r90 (Or.inr r91)), (y_Y4.c r92), Or.inl (⟨x85, rfl, by omega, by omega⟩)⟩
abbrev P_X11_reading_1Y (r0 : z_M) : z_V → z_M → Prop := fun v s' => z_CI s' ∧ z_Fr R_X11_reading_1 r0 s' ∧ (y_V3 s') ∧ (y_Y4 s') ∧ ((∃ x, v = vI x ∧ -2147483648 ≤ x ∧ x ≤ 2147483647) ∨ v = vX 0 ∨ v = vX 1)
theorem nr_X0_letters_279__260 (b : Int) : ¬ R_X0_letters_279 260 b := not_false
theorem nr_X0_letters_279__262 (b : Int) : ¬ R_X0_letters_279 262 b := not_false
theorem nr_X0_letters_279__264 (b : Int) : ¬ R_X0_letters_279 264 b := not_false
theorem nr_X0_letters_279__266 (b : Int) : ¬ R_X0_letters_279 266 b := not_false
theorem nr_X0_letters_279__268 (b : Int) : ¬ R_X0_letters_279 268 b := not_false
theorem nr_X0_letters_279__270 (b : Int) : ¬ R_X0_letters_279 270 b := not_false
theorem nr_X0_letters_279__272 (b : Int) : ¬ R_X0_letters_279 272 b := not_false
theorem nr_X0_letters_279__274 (b : Int) : ¬ R_X0_letters_279 274 b := not_false
theorem nr_X0_letters_279__276 (b : Int) : ¬ R_X0_letters_279 276 b := not_false
theorem nr_X0_letters_279__278 (b : Int) : ¬ R_X0_letters_279 278 b := not_false
theorem nr_X0_letters_279__281 (b : Int) : ¬ R_X0_letters_279 281 b := not_false
theorem nr_X0_letters_279__283 (b : Int) : ¬ R_X0_letters_279 283 b := not_false
theorem nr_X0_letters_279__285 (b : Int) : ¬ R_X0_letters_279 285 b := not_false
theorem nr_X0_letters_279__287 (b : Int) : ¬ R_X0_letters_279 287 b := not_false
theorem nr_X0_letters_279__289 (b : Int) : ¬ R_X0_letters_279 289 b := not_false
theorem nr_X0_letters_279__291 (b : Int) : ¬ R_X0_letters_279 291 b := not_false
theorem nr_X0_letters_279__293 (b : Int) : ¬ R_X0_letters_279 293 b := not_false
theorem nr_X0_letters_279__295 (b : Int) : ¬ R_X0_letters_279 295 b := not_false
theorem nr_X3_letterPlace_258__260 (b : Int) : ¬ R_X3_letterPlace_258 260 b := not_false
theorem nr_X3_letterPlace_258__262 (b : Int) : ¬ R_X3_letterPlace_258 262 b := not_false
theorem nr_X3_letterPlace_258__264 (b : Int) : ¬ R_X3_letterPlace_258 264 b := not_false
theorem nr_X3_letterPlace_258__266 (b : Int) : ¬ R_X3_letterPlace_258 266 b := not_false
theorem nr_X3_letterPlace_258__268 (b : Int) : ¬ R_X3_letterPlace_258 268 b := not_false
theorem nr_X3_letterPlace_258__270 (b : Int) : ¬ R_X3_letterPlace_258 270 b := not_false
theorem nr_X3_letterPlace_258__272 (b : Int) : ¬ R_X3_letterPlace_258 272 b := not_false
theorem nr_X3_letterPlace_258__274 (b : Int) : ¬ R_X3_letterPlace_258 274 b := not_false
theorem nr_X3_letterPlace_258__276 (b : Int) : ¬ R_X3_letterPlace_258 276 b := not_false
theorem nr_X3_letterPlace_258__278 (b : Int) : ¬ R_X3_letterPlace_258 278 b := not_false
theorem nr_X3_letterPlace_258__281 (b : Int) : ¬ R_X3_letterPlace_258 281 b := not_false
theorem nr_X3_letterPlace_258__283 (b : Int) : ¬ R_X3_letterPlace_258 283 b := not_false
theorem nr_X3_letterPlace_258__285 (b : Int) : ¬ R_X3_letterPlace_258 285 b := not_false
theorem nr_X3_letterPlace_258__287 (b : Int) : ¬ R_X3_letterPlace_258 287 b := not_false
theorem nr_X3_letterPlace_258__289 (b : Int) : ¬ R_X3_letterPlace_258 289 b := not_false
theorem nr_X3_letterPlace_258__291 (b : Int) : ¬ R_X3_letterPlace_258 291 b := not_false
theorem nr_X3_letterPlace_258__293 (b : Int) : ¬ R_X3_letterPlace_258 293 b := not_false
theorem nr_X3_letterPlace_258__295 (b : Int) : ¬ R_X3_letterPlace_258 295 b := not_false
theorem sj_X11_reading_1Y_J112 {fu : Nat} (hfu : 8589934592 ≤ fu) (r0 s : z_M) (c : z_CI s) (f : z_Fr R_X11_reading_1 r0 s) (t0 : Int) (d0 : -2147483648 ≤ t0 ∧ t0 ≤ 2147483647) (p0 : y_V3 s) (p1 : y_Y4 s) : z_T (fX11_reading_J112 fu s t0) (P_X11_reading_1Y r0) := by
  refine T_of (fX11_reading_J112.eq_1 ..) ?_
  have u1 := CI_b c (k := 279) (j := 9) bd_279_9
  exact T_ret ⟨c, f, p0, p1, Or.inl (⟨t0, rfl, by omega, by omega⟩)⟩
theorem nr_X3_letterCode_258__260 (b : Int) : ¬ R_X3_letterCode_258 260 b := not_false
theorem nr_X3_letterCode_258__262 (b : Int) : ¬ R_X3_letterCode_258 262 b := not_false
theorem nr_X3_letterCode_258__264 (b : Int) : ¬ R_X3_letterCode_258 264 b := not_false
theorem nr_X3_letterCode_258__266 (b : Int) : ¬ R_X3_letterCode_258 266 b := not_false
theorem nr_X3_letterCode_258__268 (b : Int) : ¬ R_X3_letterCode_258 268 b := not_false
theorem nr_X3_letterCode_258__270 (b : Int) : ¬ R_X3_letterCode_258 270 b := not_false
theorem nr_X3_letterCode_258__272 (b : Int) : ¬ R_X3_letterCode_258 272 b := not_false
theorem nr_X3_letterCode_258__274 (b : Int) : ¬ R_X3_letterCode_258 274 b := not_false
theorem nr_X3_letterCode_258__276 (b : Int) : ¬ R_X3_letterCode_258 276 b := not_false
theorem nr_X3_letterCode_258__278 (b : Int) : ¬ R_X3_letterCode_258 278 b := not_false
theorem nr_X3_letterCode_258__281 (b : Int) : ¬ R_X3_letterCode_258 281 b := not_false
theorem nr_X3_letterCode_258__283 (b : Int) : ¬ R_X3_letterCode_258 283 b := not_false
theorem nr_X3_letterCode_258__285 (b : Int) : ¬ R_X3_letterCode_258 285 b := not_false
theorem nr_X3_letterCode_258__287 (b : Int) : ¬ R_X3_letterCode_258 287 b := not_false
theorem nr_X3_letterCode_258__289 (b : Int) : ¬ R_X3_letterCode_258 289 b := not_false
theorem nr_X3_letterCode_258__291 (b : Int) : ¬ R_X3_letterCode_258 291 b := not_false
theorem nr_X3_letterCode_258__293 (b : Int) : ¬ R_X3_letterCode_258 293 b := not_false
theorem nr_X3_letterCode_258__295 (b : Int) : ¬ R_X3_letterCode_258 295 b := not_false
theorem sj_X11_reading_1Y_J90 {fu : Nat} (hfu : 8589934592 ≤ fu) (r0 s : z_M) (c : z_CI s) (f : z_Fr R_X11_reading_1 r0 s) (t0 : Int) (d0 : -2147483648 ≤ t0 ∧ t0 ≤ 2147483647) (p0 : y_V3 s) (p1 : y_Y4 s) : z_T (fX11_reading_J90 fu s t0) (P_X11_reading_1Y r0) := by
  refine T_of (fX11_reading_J90.eq_1 ..) ?_
  have u1 := CI_b c (k := 279) (j := 9) bd_279_9
  exact T_ret ⟨c, f, p0, p1, Or.inl (⟨t0, rfl, by omega, by omega⟩)⟩
set_option maxHeartbeats 4000000 in
theorem sj_X11_reading_1Y_J64 {fu : Nat} (hfu : 8589934592 ≤ fu) (r0 s : z_M) (c : z_CI s) (f : z_Fr R_X11_reading_1 r0 s) (a1 : Int) (a2 : Int) (a3 : Int) (a4 : Int) (t0 : Int) (b1 : -2147483648 ≤ a1 ∧ a1 ≤ 2147483647) (b2 : -2147483648 ≤ a2 ∧ a2 ≤ 2147483647) (b3 : -2147483648 ≤ a3 ∧ a3 ≤ 2147483647) (b4 : -2147483648 ≤ a4 ∧ a4 ≤ 2147483647) (d0 : 0 ≤ t0 ∧ t0 ≤ 1) (p0 : y_V3 s) (p1 : y_Y4 s) : z_T (fX11_reading_J64 fu s 1 a1 a2 a3 a4 t0) (P_X11_reading_1Y r0) := by
  refine T_of (fX11_reading_J64.eq_1 ..) ?_
  have u1 := CI_b c (k := 279) (j := 9) bd_279_9
  refine T_ite (fun h2 => ?_) (fun h2 => ?_)
  · refine T_ite (fun h3 => ?_) (fun h3 => ?_)
    · refine T_if1 (by decide +kernel) ?_
      refine T_let 258 (by decide +kernel) ?_
      refine T_if1 (by decide +kernel) ?_
      refine T_useI (sf_X3_letterPlace_258 hfu s c a1 a2 a3 (by omega) (by omega) (by omega)) (fun v9 s4 hq => ?_)
      obtain ⟨c5, f6, ⟨x8, rfl, b10, b11⟩⟩ := hq
      refine T_vI ?_
      have f7 := z_Fr.tr (R := R_X11_reading_1) f f6 (fun a b h => absurd h not_false)
      have t12 : s4 279 9 = s 279 9 := f6 279 9 (by decide)
      have r13 := y_V3.fr p0 (f6 1 16 (by decide)) (f6 1 17 (by decide)) (f6 191 16 (by decide)) (f6 6 6 (by decide)) (f6 191 17 (by decide)) (f6 191 18 (by decide)) (fun b => f6 3 b (nr_X3_letterPlace_258__3 b)) (fun b => f6 8 b (nr_X3_letterPlace_258__8 b)) (fun b => f6 12 b (nr_X3_letterPlace_258__12 b)) (fun b => f6 14 b (nr_X3_letterPlace_258__14 b)) (fun b => f6 16 b (nr_X3_letterPlace_258__16 b)) (fun b => f6 18 b (nr_X3_letterPlace_258__18 b)) (fun b => f6 193 b (nr_X3_letterPlace_258__193 b)) (fun b => f6 195 b (nr_X3_letterPlace_258__195 b)) (fun b => f6 197 b (nr_X3_letterPlace_258__197 b)) (fun b => f6 199 b (nr_X3_letterPlace_258__199 b)) (fun b => f6 201 b (nr_X3_letterPlace_258__201 b)) (fun b => f6 203 b (nr_X3_letterPlace_258__203 b)) (fun b => f6 205 b (nr_X3_letterPlace_258__205 b)) (fun b => f6 207 b (nr_X3_letterPlace_258__207 b)) (fun b => f6 209 b (nr_X3_letterPlace_258__209 b)) (fun b => f6 211 b (nr_X3_letterPlace_258__211 b)) (fun b => f6 213 b (nr_X3_letterPlace_258__213 b)) (fun b => f6 215 b (nr_X3_letterPlace_258__215 b)) (fun b => f6 217 b (nr_X3_letterPlace_258__217 b)) (fun b => f6 219 b (nr_X3_letterPlace_258__219 b)) (fun b => f6 222 b (nr_X3_letterPlace_258__222 b)) (f6 240 6 (by decide)) (fun b => f6 248 b (nr_X3_letterPlace_258__248 b))
      have r14 := y_Y4.fr p1 (f6 1 16 (by decide)) (f6 1 17 (by decide)) (f6 191 16 (by decide)) (f6 6 6 (by decide)) (f6 191 17 (by decide)) (f6 191 18 (by decide)) (fun b => f6 3 b (nr_X3_letterPlace_258__3 b)) (fun b => f6 8 b (nr_X3_letterPlace_258__8 b)) (fun b => f6 12 b (nr_X3_letterPlace_258__12 b)) (fun b => f6 14 b (nr_X3_letterPlace_258__14 b)) (fun b => f6 16 b (nr_X3_letterPlace_258__16 b)) (fun b => f6 18 b (nr_X3_letterPlace_258__18 b)) (fun b => f6 193 b (nr_X3_letterPlace_258__193 b)) (fun b => f6 195 b (nr_X3_letterPlace_258__195 b)) (fun b => f6 197 b (nr_X3_letterPlace_258__197 b)) (fun b => f6 199 b (nr_X3_letterPlace_258__199 b)) (fun b => f6 201 b (nr_X3_letterPlace_258__201 b)) (fun b => f6 203 b (nr_X3_letterPlace_258__203 b)) (fun b => f6 205 b (nr_X3_letterPlace_258__205 b)) (fun b => f6 207 b (nr_X3_letterPlace_258__207 b)) (fun b => f6 209 b (nr_X3_letterPlace_258__209 b)) (fun b => f6 211 b (nr_X3_letterPlace_258__211 b)) (fun b => f6 213 b (nr_X3_letterPlace_258__213 b)) (fun b => f6 215 b (nr_X3_letterPlace_258__215 b)) (fun b => f6 217 b (nr_X3_letterPlace_258__217 b)) (fun b => f6 219 b (nr_X3_letterPlace_258__219 b)) (f6 240 6 (by decide)) (fun b => f6 248 b (nr_X3_letterPlace_258__248 b)) (fun b => f6 260 b (nr_X3_letterPlace_258__260 b)) (fun b => f6 262 b (nr_X3_letterPlace_258__262 b)) (fun b => f6 264 b (nr_X3_letterPlace_258__264 b)) (fun b => f6 266 b (nr_X3_letterPlace_258__266 b)) (fun b => f6 268 b (nr_X3_letterPlace_258__268 b)) (fun b => f6 270 b (nr_X3_letterPlace_258__270 b)) (fun b => f6 272 b (nr_X3_letterPlace_258__272 b)) (fun b => f6 274 b (nr_X3_letterPlace_258__274 b)) (fun b => f6 276 b (nr_X3_letterPlace_258__276 b)) (fun b => f6 278 b (nr_X3_letterPlace_258__278 b)) (f6 279 9 (by decide)) (fun b => f6 281 b (nr_X3_letterPlace_258__281 b)) (fun b => f6 283 b (nr_X3_letterPlace_258__283 b)) (fun b => f6 285 b (nr_X3_letterPlace_258__285 b)) (fun b => f6 287 b (nr_X3_letterPlace_258__287 b)) (fun b => f6 289 b (nr_X3_letterPlace_258__289 b)) (fun b => f6 291 b (nr_X3_letterPlace_258__291 b)) (fun b => f6 293 b (nr_X3_letterPlace_258__293 b)) (fun b => f6 295 b (nr_X3_letterPlace_258__295 b))
      have r15 := y_B0.fr p0.1.1 (f6 211 0 (by decide)) (f6 213 0 (by decide))
      exact sj_X11_reading_1Y_J112 hfu r0 s4 c5 f7 x8 (by omega) r13 r14
    · exact sj_X11_reading_1Y_J112 hfu r0 s c f (-1000) (by omega) p0 p1
  · refine T_ite (fun h16 => ?_) (fun h16 => ?_)
    · refine T_if1 (by decide +kernel) ?_
      refine T_let 258 (by decide +kernel) ?_
      refine T_if1 (by decide +kernel) ?_
      refine T_useI (sf_X3_letterCode_258 hfu s c a1 a2 a3 (by omega) (by omega) (by omega)) (fun v22 s17 hq => ?_)
      obtain ⟨c18, f19, ⟨x21, rfl, b23, b24⟩⟩ := hq
      refine T_vI ?_
      have f20 := z_Fr.tr (R := R_X11_reading_1) f f19 (fun a b h => absurd h not_false)
      have t25 : s17 279 9 = s 279 9 := f19 279 9 (by decide)
      have r26 := y_V3.fr p0 (f19 1 16 (by decide)) (f19 1 17 (by decide)) (f19 191 16 (by decide)) (f19 6 6 (by decide)) (f19 191 17 (by decide)) (f19 191 18 (by decide)) (fun b => f19 3 b (nr_X3_letterCode_258__3 b)) (fun b => f19 8 b (nr_X3_letterCode_258__8 b)) (fun b => f19 12 b (nr_X3_letterCode_258__12 b)) (fun b => f19 14 b (nr_X3_letterCode_258__14 b)) (fun b => f19 16 b (nr_X3_letterCode_258__16 b)) (fun b => f19 18 b (nr_X3_letterCode_258__18 b)) (fun b => f19 193 b (nr_X3_letterCode_258__193 b)) (fun b => f19 195 b (nr_X3_letterCode_258__195 b)) (fun b => f19 197 b (nr_X3_letterCode_258__197 b)) (fun b => f19 199 b (nr_X3_letterCode_258__199 b)) (fun b => f19 201 b (nr_X3_letterCode_258__201 b)) (fun b => f19 203 b (nr_X3_letterCode_258__203 b)) (fun b => f19 205 b (nr_X3_letterCode_258__205 b)) (fun b => f19 207 b (nr_X3_letterCode_258__207 b)) (fun b => f19 209 b (nr_X3_letterCode_258__209 b)) (fun b => f19 211 b (nr_X3_letterCode_258__211 b)) (fun b => f19 213 b (nr_X3_letterCode_258__213 b)) (fun b => f19 215 b (nr_X3_letterCode_258__215 b)) (fun b => f19 217 b (nr_X3_letterCode_258__217 b)) (fun b => f19 219 b (nr_X3_letterCode_258__219 b)) (fun b => f19 222 b (nr_X3_letterCode_258__222 b)) (f19 240 6 (by decide)) (fun b => f19 248 b (nr_X3_letterCode_258__248 b))
      have r27 := y_Y4.fr p1 (f19 1 16 (by decide)) (f19 1 17 (by decide)) (f19 191 16 (by decide)) (f19 6 6 (by decide)) (f19 191 17 (by decide)) (f19 191 18 (by decide)) (fun b => f19 3 b (nr_X3_letterCode_258__3 b)) (fun b => f19 8 b (nr_X3_letterCode_258__8 b)) (fun b => f19 12 b (nr_X3_letterCode_258__12 b)) (fun b => f19 14 b (nr_X3_letterCode_258__14 b)) (fun b => f19 16 b (nr_X3_letterCode_258__16 b)) (fun b => f19 18 b (nr_X3_letterCode_258__18 b)) (fun b => f19 193 b (nr_X3_letterCode_258__193 b)) (fun b => f19 195 b (nr_X3_letterCode_258__195 b)) (fun b => f19 197 b (nr_X3_letterCode_258__197 b)) (fun b => f19 199 b (nr_X3_letterCode_258__199 b)) (fun b => f19 201 b (nr_X3_letterCode_258__201 b)) (fun b => f19 203 b (nr_X3_letterCode_258__203 b)) (fun b => f19 205 b (nr_X3_letterCode_258__205 b)) (fun b => f19 207 b (nr_X3_letterCode_258__207 b)) (fun b => f19 209 b (nr_X3_letterCode_258__209 b)) (fun b => f19 211 b (nr_X3_letterCode_258__211 b)) (fun b => f19 213 b (nr_X3_letterCode_258__213 b)) (fun b => f19 215 b (nr_X3_letterCode_258__215 b)) (fun b => f19 217 b (nr_X3_letterCode_258__217 b)) (fun b => f19 219 b (nr_X3_letterCode_258__219 b)) (f19 240 6 (by decide)) (fun b => f19 248 b (nr_X3_letterCode_258__248 b)) (fun b => f19 260 b (nr_X3_letterCode_258__260 b)) (fun b => f19 262 b (nr_X3_letterCode_258__262 b)) (fun b => f19 264 b (nr_X3_letterCode_258__264 b)) (fun b => f19 266 b (nr_X3_letterCode_258__266 b)) (fun b => f19 268 b (nr_X3_letterCode_258__268 b)) (fun b => f19 270 b (nr_X3_letterCode_258__270 b)) (fun b => f19 272 b (nr_X3_letterCode_258__272 b)) (fun b => f19 274 b (nr_X3_letterCode_258__274 b)) (fun b => f19 276 b (nr_X3_letterCode_258__276 b)) (fun b => f19 278 b (nr_X3_letterCode_258__278 b)) (f19 279 9 (by decide)) (fun b => f19 281 b (nr_X3_letterCode_258__281 b)) (fun b => f19 283 b (nr_X3_letterCode_258__283 b)) (fun b => f19 285 b (nr_X3_letterCode_258__285 b)) (fun b => f19 287 b (nr_X3_letterCode_258__287 b)) (fun b => f19 289 b (nr_X3_letterCode_258__289 b)) (fun b => f19 291 b (nr_X3_letterCode_258__291 b)) (fun b => f19 293 b (nr_X3_letterCode_258__293 b)) (fun b => f19 295 b (nr_X3_letterCode_258__295 b))
      have r28 := y_B0.fr p0.1.1 (f19 211 0 (by decide)) (f19 213 0 (by decide))
      exact sj_X11_reading_1Y_J90 hfu r0 s17 c18 f20 x21 (by omega) r26 r27
    · exact sj_X11_reading_1Y_J90 hfu r0 s c f (-1) (by omega) p0 p1
set_option maxHeartbeats 4000000 in
theorem sf_X11_reading_1Y {fu : Nat} (hfu : 8589934592 ≤ fu) (r0 : z_M) (c0 : z_CI r0) (a1 : Int) (a2 : Int) (a3 : Int) (a4 : Int) (b1 : -2147483648 ≤ a1 ∧ a1 ≤ 2147483647) (b2 : -2147483648 ≤ a2 ∧ a2 ≤ 2147483647) (b3 : -2147483648 ≤ a3 ∧ a3 ≤ 2147483647) (b4 : -2147483648 ≤ a4 ∧ a4 ≤ 2147483647) (p0 : y_V3 r0) (p1 : y_Y4 r0) : z_T (fX11_reading fu r0 1 a1 a2 a3 a4) (P_X11_reading_1Y r0) := by
  refine T_of (fX11_reading.eq_1 ..) ?_
  refine T_if1 (by decide +kernel) ?_
  refine T_useN (sf_X11_refresh_1Y hfu r0 c0 p0 p1) (fun v6 s1 hq => ?_)
  obtain ⟨c2, f3, o7, o8, o9, rfl⟩ := hq
  refine T_vN ?_
  have f4 := z_Fr.tr (R := R_X11_reading_1) z_Fr.rf f3 rs_X11_refresh_1__X11_reading_1
  have u12 := CI_b c2 (k := 279) (j := 9) bd_279_9
  refine T_if1 (by decide +kernel) ?_
  refine T_let 258 (by decide +kernel) ?_
  refine T_if1 (by decide +kernel) ?_
  refine T_let 279 (by decide +kernel) ?_
  refine T_if1 (by decide +kernel) ?_
  refine T_leq (fun x13 e14 => ?_)
  have u15 := CI_b c2 (k := 279) (j := 9) bd_279_9
  refine T_if1 (by decide +kernel) ?_
  refine T_ne ?_ (fun h16 h17 => ?_)
  · exact T_ret ⟨CI_up c2 bd_1_14 (z_wb rfl).1, z_Fr.upf (R := R_X11_reading_1) f4 (fun a b h => z_up_k h) (fun b h => z_up_j h) (Or.inr (Or.inr (Or.inr (Or.inr (Or.inr (Or.inr (Or.inr (Or.inl (⟨rfl, by decide⟩))))))))), y_V3.u (y_U3.fr o7 (z_up_k (by decide)) (z_up_k (by decide)) (z_up_k (by decide)) (z_up_k (by decide)) (fun _ => z_up_k (by decide)) (fun _ => z_up_k (by decide)) (fun _ => z_up_k (by decide)) (fun _ => z_up_k (by decide)) (fun _ => z_up_k (by decide)) (fun _ => z_up_k (by decide)) (fun _ => z_up_k (by decide)) (fun _ => z_up_k (by decide)) (fun _ => z_up_k (by decide)) (fun _ => z_up_k (by decide)) (fun _ => z_up_k (by decide)) (fun _ => z_up_k (by decide)) (fun _ => z_up_k (by decide)) (fun _ => z_up_k (by decide)) (fun _ => z_up_k (by decide)) (fun _ => z_up_k (by decide)) (fun _ => z_up_k (by decide)) (fun _ => z_up_k (by decide)) (fun _ => z_up_k (by decide)) (fun _ => z_up_k (by decide)) (fun _ => z_up_k (by decide))) (y_L3.fr (show y_L3 s1 from (Or.inr o8)) (z_up_j (by decide)) (z_up_k (by decide)) (z_up_k (by decide)) (z_up_k (by decide)) (z_up_k (by decide)) (fun _ => z_up_k (by decide)) (fun _ => z_up_k (by decide)) (fun _ => z_up_k (by decide)) (fun _ => z_up_k (by decide)) (fun _ => z_up_k (by decide)) (fun _ => z_up_k (by decide)) (fun _ => z_up_k (by decide)) (fun _ => z_up_k (by decide)) (fun _ => z_up_k (by decide)) (fun _ => z_up_k (by decide)) (fun _ => z_up_k (by decide)) (fun _ => z_up_k (by decide)) (fun _ => z_up_k (by decide)) (fun _ => z_up_k (by decide)) (fun _ => z_up_k (by decide)) (fun _ => z_up_k (by decide)) (fun _ => z_up_k (by decide)) (fun _ => z_up_k (by decide)) (fun _ => z_up_k (by decide)) (fun _ => z_up_k (by decide)) (z_up_k (by decide)) (fun _ => z_up_k (by decide))), y_Y4.c (y_YC.fr o9 (z_up_k (by decide)) (z_up_k (by decide)) (z_up_k (by decide)) (z_up_k (by decide)) (fun _ => z_up_k (by decide)) (fun _ => z_up_k (by decide)) (fun _ => z_up_k (by decide)) (fun _ => z_up_k (by decide)) (fun _ => z_up_k (by decide)) (fun _ => z_up_k (by decide)) (fun _ => z_up_k (by decide)) (fun _ => z_up_k (by decide)) (fun _ => z_up_k (by decide)) (fun _ => z_up_k (by decide)) (fun _ => z_up_k (by decide)) (fun _ => z_up_k (by decide)) (fun _ => z_up_k (by decide)) (fun _ => z_up_k (by decide)) (fun _ => z_up_k (by decide)) (fun _ => z_up_k (by decide)) (fun _ => z_up_k (by decide)) (fun _ => z_up_k (by decide)) (fun _ => z_up_k (by decide)) (fun _ => z_up_k (by decide)) (z_up_k (by decide)) (fun _ => z_up_k (by decide)) (fun _ => z_up_k (by decide)) (fun _ => z_up_k (by decide)) (fun _ => z_up_k (by decide)) (fun _ => z_up_k (by decide)) (fun _ => z_up_k (by decide)) (fun _ => z_up_k (by decide)) (fun _ => z_up_k (by decide)) (fun _ => z_up_k (by decide)) (fun _ => z_up_k (by decide)) (fun _ => z_up_k (by decide)) (z_up_k (by decide)) (fun _ => z_up_k (by decide)) (fun _ => z_up_k (by decide)) (fun _ => z_up_k (by decide)) (fun _ => z_up_k (by decide)) (fun _ => z_up_k (by decide)) (fun _ => z_up_k (by decide)) (fun _ => z_up_k (by decide)) (fun _ => z_up_k (by decide))), Or.inr (Or.inl rfl)⟩
  refine T_if1 (by decide +kernel) ?_
  refine T_nw ?_ (fun h18 h19 => ?_)
  · exact T_ret ⟨CI_up c2 bd_1_15 (z_wb rfl).1, z_Fr.upf (R := R_X11_reading_1) f4 (fun a b h => z_up_k h) (fun b h => z_up_j h) (Or.inr (Or.inr (Or.inr (Or.inr (Or.inr (Or.inr (Or.inr (Or.inl (⟨rfl, by decide⟩))))))))), y_V3.u (y_U3.fr o7 (z_up_k (by decide)) (z_up_k (by decide)) (z_up_k (by decide)) (z_up_k (by decide)) (fun _ => z_up_k (by decide)) (fun _ => z_up_k (by decide)) (fun _ => z_up_k (by decide)) (fun _ => z_up_k (by decide)) (fun _ => z_up_k (by decide)) (fun _ => z_up_k (by decide)) (fun _ => z_up_k (by decide)) (fun _ => z_up_k (by decide)) (fun _ => z_up_k (by decide)) (fun _ => z_up_k (by decide)) (fun _ => z_up_k (by decide)) (fun _ => z_up_k (by decide)) (fun _ => z_up_k (by decide)) (fun _ => z_up_k (by decide)) (fun _ => z_up_k (by decide)) (fun _ => z_up_k (by decide)) (fun _ => z_up_k (by decide)) (fun _ => z_up_k (by decide)) (fun _ => z_up_k (by decide)) (fun _ => z_up_k (by decide)) (fun _ => z_up_k (by decide))) (y_L3.fr (show y_L3 s1 from (Or.inr o8)) (z_up_j (by decide)) (z_up_k (by decide)) (z_up_k (by decide)) (z_up_k (by decide)) (z_up_k (by decide)) (fun _ => z_up_k (by decide)) (fun _ => z_up_k (by decide)) (fun _ => z_up_k (by decide)) (fun _ => z_up_k (by decide)) (fun _ => z_up_k (by decide)) (fun _ => z_up_k (by decide)) (fun _ => z_up_k (by decide)) (fun _ => z_up_k (by decide)) (fun _ => z_up_k (by decide)) (fun _ => z_up_k (by decide)) (fun _ => z_up_k (by decide)) (fun _ => z_up_k (by decide)) (fun _ => z_up_k (by decide)) (fun _ => z_up_k (by decide)) (fun _ => z_up_k (by decide)) (fun _ => z_up_k (by decide)) (fun _ => z_up_k (by decide)) (fun _ => z_up_k (by decide)) (fun _ => z_up_k (by decide)) (fun _ => z_up_k (by decide)) (z_up_k (by decide)) (fun _ => z_up_k (by decide))), y_Y4.c (y_YC.fr o9 (z_up_k (by decide)) (z_up_k (by decide)) (z_up_k (by decide)) (z_up_k (by decide)) (fun _ => z_up_k (by decide)) (fun _ => z_up_k (by decide)) (fun _ => z_up_k (by decide)) (fun _ => z_up_k (by decide)) (fun _ => z_up_k (by decide)) (fun _ => z_up_k (by decide)) (fun _ => z_up_k (by decide)) (fun _ => z_up_k (by decide)) (fun _ => z_up_k (by decide)) (fun _ => z_up_k (by decide)) (fun _ => z_up_k (by decide)) (fun _ => z_up_k (by decide)) (fun _ => z_up_k (by decide)) (fun _ => z_up_k (by decide)) (fun _ => z_up_k (by decide)) (fun _ => z_up_k (by decide)) (fun _ => z_up_k (by decide)) (fun _ => z_up_k (by decide)) (fun _ => z_up_k (by decide)) (fun _ => z_up_k (by decide)) (z_up_k (by decide)) (fun _ => z_up_k (by decide)) (fun _ => z_up_k (by decide)) (fun _ => z_up_k (by decide)) (fun _ => z_up_k (by decide)) (fun _ => z_up_k (by decide)) (fun _ => z_up_k (by decide)) (fun _ => z_up_k (by decide)) (fun _ => z_up_k (by decide)) (fun _ => z_up_k (by decide)) (fun _ => z_up_k (by decide)) (fun _ => z_up_k (by decide)) (z_up_k (by decide)) (fun _ => z_up_k (by decide)) (fun _ => z_up_k (by decide)) (fun _ => z_up_k (by decide)) (fun _ => z_up_k (by decide)) (fun _ => z_up_k (by decide)) (fun _ => z_up_k (by decide)) (fun _ => z_up_k (by decide)) (fun _ => z_up_k (by decide))), Or.inr (Or.inr rfl)⟩
  refine T_if1 (by decide +kernel) ?_
  refine T_nw ?_ (fun h20 h21 => ?_)
  · exact T_ret ⟨CI_up c2 bd_1_15 (z_wb rfl).1, z_Fr.upf (R := R_X11_reading_1) f4 (fun a b h => z_up_k h) (fun b h => z_up_j h) (Or.inr (Or.inr (Or.inr (Or.inr (Or.inr (Or.inr (Or.inr (Or.inl (⟨rfl, by decide⟩))))))))), y_V3.u (y_U3.fr o7 (z_up_k (by decide)) (z_up_k (by decide)) (z_up_k (by decide)) (z_up_k (by decide)) (fun _ => z_up_k (by decide)) (fun _ => z_up_k (by decide)) (fun _ => z_up_k (by decide)) (fun _ => z_up_k (by decide)) (fun _ => z_up_k (by decide)) (fun _ => z_up_k (by decide)) (fun _ => z_up_k (by decide)) (fun _ => z_up_k (by decide)) (fun _ => z_up_k (by decide)) (fun _ => z_up_k (by decide)) (fun _ => z_up_k (by decide)) (fun _ => z_up_k (by decide)) (fun _ => z_up_k (by decide)) (fun _ => z_up_k (by decide)) (fun _ => z_up_k (by decide)) (fun _ => z_up_k (by decide)) (fun _ => z_up_k (by decide)) (fun _ => z_up_k (by decide)) (fun _ => z_up_k (by decide)) (fun _ => z_up_k (by decide)) (fun _ => z_up_k (by decide))) (y_L3.fr (show y_L3 s1 from (Or.inr o8)) (z_up_j (by decide)) (z_up_k (by decide)) (z_up_k (by decide)) (z_up_k (by decide)) (z_up_k (by decide)) (fun _ => z_up_k (by decide)) (fun _ => z_up_k (by decide)) (fun _ => z_up_k (by decide)) (fun _ => z_up_k (by decide)) (fun _ => z_up_k (by decide)) (fun _ => z_up_k (by decide)) (fun _ => z_up_k (by decide)) (fun _ => z_up_k (by decide)) (fun _ => z_up_k (by decide)) (fun _ => z_up_k (by decide)) (fun _ => z_up_k (by decide)) (fun _ => z_up_k (by decide)) (fun _ => z_up_k (by decide)) (fun _ => z_up_k (by decide)) (fun _ => z_up_k (by decide)) (fun _ => z_up_k (by decide)) (fun _ => z_up_k (by decide)) (fun _ => z_up_k (by decide)) (fun _ => z_up_k (by decide)) (fun _ => z_up_k (by decide)) (z_up_k (by decide)) (fun _ => z_up_k (by decide))), y_Y4.c (y_YC.fr o9 (z_up_k (by decide)) (z_up_k (by decide)) (z_up_k (by decide)) (z_up_k (by decide)) (fun _ => z_up_k (by decide)) (fun _ => z_up_k (by decide)) (fun _ => z_up_k (by decide)) (fun _ => z_up_k (by decide)) (fun _ => z_up_k (by decide)) (fun _ => z_up_k (by decide)) (fun _ => z_up_k (by decide)) (fun _ => z_up_k (by decide)) (fun _ => z_up_k (by decide)) (fun _ => z_up_k (by decide)) (fun _ => z_up_k (by decide)) (fun _ => z_up_k (by decide)) (fun _ => z_up_k (by decide)) (fun _ => z_up_k (by decide)) (fun _ => z_up_k (by decide)) (fun _ => z_up_k (by decide)) (fun _ => z_up_k (by decide)) (fun _ => z_up_k (by decide)) (fun _ => z_up_k (by decide)) (fun _ => z_up_k (by decide)) (z_up_k (by decide)) (fun _ => z_up_k (by decide)) (fun _ => z_up_k (by decide)) (fun _ => z_up_k (by decide)) (fun _ => z_up_k (by decide)) (fun _ => z_up_k (by decide)) (fun _ => z_up_k (by decide)) (fun _ => z_up_k (by decide)) (fun _ => z_up_k (by decide)) (fun _ => z_up_k (by decide)) (fun _ => z_up_k (by decide)) (fun _ => z_up_k (by decide)) (z_up_k (by decide)) (fun _ => z_up_k (by decide)) (fun _ => z_up_k (by decide)) (fun _ => z_up_k (by decide)) (fun _ => z_up_k (by decide)) (fun _ => z_up_k (by decide)) (fun _ => z_up_k (by decide)) (fun _ => z_up_k (by decide)) (fun _ => z_up_k (by decide))), Or.inr (Or.inr rfl)⟩
  refine T_if1 (by decide +kernel) ?_
  refine T_nw ?_ (fun h22 h23 => ?_)
  · exact T_ret ⟨CI_up c2 bd_1_15 (z_wb rfl).1, z_Fr.upf (R := R_X11_reading_1) f4 (fun a b h => z_up_k h) (fun b h => z_up_j h) (Or.inr (Or.inr (Or.inr (Or.inr (Or.inr (Or.inr (Or.inr (Or.inl (⟨rfl, by decide⟩))))))))), y_V3.u (y_U3.fr o7 (z_up_k (by decide)) (z_up_k (by decide)) (z_up_k (by decide)) (z_up_k (by decide)) (fun _ => z_up_k (by decide)) (fun _ => z_up_k (by decide)) (fun _ => z_up_k (by decide)) (fun _ => z_up_k (by decide)) (fun _ => z_up_k (by decide)) (fun _ => z_up_k (by decide)) (fun _ => z_up_k (by decide)) (fun _ => z_up_k (by decide)) (fun _ => z_up_k (by decide)) (fun _ => z_up_k (by decide)) (fun _ => z_up_k (by decide)) (fun _ => z_up_k (by decide)) (fun _ => z_up_k (by decide)) (fun _ => z_up_k (by decide)) (fun _ => z_up_k (by decide)) (fun _ => z_up_k (by decide)) (fun _ => z_up_k (by decide)) (fun _ => z_up_k (by decide)) (fun _ => z_up_k (by decide)) (fun _ => z_up_k (by decide)) (fun _ => z_up_k (by decide))) (y_L3.fr (show y_L3 s1 from (Or.inr o8)) (z_up_j (by decide)) (z_up_k (by decide)) (z_up_k (by decide)) (z_up_k (by decide)) (z_up_k (by decide)) (fun _ => z_up_k (by decide)) (fun _ => z_up_k (by decide)) (fun _ => z_up_k (by decide)) (fun _ => z_up_k (by decide)) (fun _ => z_up_k (by decide)) (fun _ => z_up_k (by decide)) (fun _ => z_up_k (by decide)) (fun _ => z_up_k (by decide)) (fun _ => z_up_k (by decide)) (fun _ => z_up_k (by decide)) (fun _ => z_up_k (by decide)) (fun _ => z_up_k (by decide)) (fun _ => z_up_k (by decide)) (fun _ => z_up_k (by decide)) (fun _ => z_up_k (by decide)) (fun _ => z_up_k (by decide)) (fun _ => z_up_k (by decide)) (fun _ => z_up_k (by decide)) (fun _ => z_up_k (by decide)) (fun _ => z_up_k (by decide)) (z_up_k (by decide)) (fun _ => z_up_k (by decide))), y_Y4.c (y_YC.fr o9 (z_up_k (by decide)) (z_up_k (by decide)) (z_up_k (by decide)) (z_up_k (by decide)) (fun _ => z_up_k (by decide)) (fun _ => z_up_k (by decide)) (fun _ => z_up_k (by decide)) (fun _ => z_up_k (by decide)) (fun _ => z_up_k (by decide)) (fun _ => z_up_k (by decide)) (fun _ => z_up_k (by decide)) (fun _ => z_up_k (by decide)) (fun _ => z_up_k (by decide)) (fun _ => z_up_k (by decide)) (fun _ => z_up_k (by decide)) (fun _ => z_up_k (by decide)) (fun _ => z_up_k (by decide)) (fun _ => z_up_k (by decide)) (fun _ => z_up_k (by decide)) (fun _ => z_up_k (by decide)) (fun _ => z_up_k (by decide)) (fun _ => z_up_k (by decide)) (fun _ => z_up_k (by decide)) (fun _ => z_up_k (by decide)) (z_up_k (by decide)) (fun _ => z_up_k (by decide)) (fun _ => z_up_k (by decide)) (fun _ => z_up_k (by decide)) (fun _ => z_up_k (by decide)) (fun _ => z_up_k (by decide)) (fun _ => z_up_k (by decide)) (fun _ => z_up_k (by decide)) (fun _ => z_up_k (by decide)) (fun _ => z_up_k (by decide)) (fun _ => z_up_k (by decide)) (fun _ => z_up_k (by decide)) (z_up_k (by decide)) (fun _ => z_up_k (by decide)) (fun _ => z_up_k (by decide)) (fun _ => z_up_k (by decide)) (fun _ => z_up_k (by decide)) (fun _ => z_up_k (by decide)) (fun _ => z_up_k (by decide)) (fun _ => z_up_k (by decide)) (fun _ => z_up_k (by decide))), Or.inr (Or.inr rfl)⟩
  refine T_if1 (by decide +kernel) ?_
  refine T_let 258 (by decide +kernel) ?_
  refine T_if1 (by decide +kernel) ?_
  refine T_let 279 (by decide +kernel) ?_
  refine T_if1 (by decide +kernel) ?_
  refine T_useI (sf_X0_letters_279 hfu s1 c2 a1 a2 (by omega) (by omega)) (fun v29 s24 hq => ?_)
  obtain ⟨c25, f26, ⟨x28, rfl, b30, b31⟩⟩ := hq
  refine T_vI ?_
  have f27 := z_Fr.tr (R := R_X11_reading_1) f4 f26 (fun a b h => absurd h not_false)
  have t32 : s24 279 9 = s1 279 9 := f26 279 9 (by decide)
  have r33 := y_U3.fr o7 (f26 191 16 (by decide)) (f26 6 6 (by decide)) (f26 191 17 (by decide)) (f26 191 18 (by decide)) (fun b => f26 3 b (nr_X0_letters_279__3 b)) (fun b => f26 8 b (nr_X0_letters_279__8 b)) (fun b => f26 12 b (nr_X0_letters_279__12 b)) (fun b => f26 14 b (nr_X0_letters_279__14 b)) (fun b => f26 16 b (nr_X0_letters_279__16 b)) (fun b => f26 18 b (nr_X0_letters_279__18 b)) (fun b => f26 193 b (nr_X0_letters_279__193 b)) (fun b => f26 195 b (nr_X0_letters_279__195 b)) (fun b => f26 197 b (nr_X0_letters_279__197 b)) (fun b => f26 199 b (nr_X0_letters_279__199 b)) (fun b => f26 201 b (nr_X0_letters_279__201 b)) (fun b => f26 203 b (nr_X0_letters_279__203 b)) (fun b => f26 205 b (nr_X0_letters_279__205 b)) (fun b => f26 207 b (nr_X0_letters_279__207 b)) (fun b => f26 209 b (nr_X0_letters_279__209 b)) (fun b => f26 211 b (nr_X0_letters_279__211 b)) (fun b => f26 213 b (nr_X0_letters_279__213 b)) (fun b => f26 215 b (nr_X0_letters_279__215 b)) (fun b => f26 217 b (nr_X0_letters_279__217 b)) (fun b => f26 219 b (nr_X0_letters_279__219 b)) (fun b => f26 222 b (nr_X0_letters_279__222 b))
  have r34 := y_SA.fr o8 (f26 191 16 (by decide)) (f26 6 6 (by decide)) (f26 191 17 (by decide)) (f26 191 18 (by decide)) (fun b => f26 3 b (nr_X0_letters_279__3 b)) (fun b => f26 8 b (nr_X0_letters_279__8 b)) (fun b => f26 12 b (nr_X0_letters_279__12 b)) (fun b => f26 14 b (nr_X0_letters_279__14 b)) (fun b => f26 16 b (nr_X0_letters_279__16 b)) (fun b => f26 18 b (nr_X0_letters_279__18 b)) (fun b => f26 193 b (nr_X0_letters_279__193 b)) (fun b => f26 195 b (nr_X0_letters_279__195 b)) (fun b => f26 197 b (nr_X0_letters_279__197 b)) (fun b => f26 199 b (nr_X0_letters_279__199 b)) (fun b => f26 201 b (nr_X0_letters_279__201 b)) (fun b => f26 203 b (nr_X0_letters_279__203 b)) (fun b => f26 205 b (nr_X0_letters_279__205 b)) (fun b => f26 207 b (nr_X0_letters_279__207 b)) (fun b => f26 209 b (nr_X0_letters_279__209 b)) (fun b => f26 211 b (nr_X0_letters_279__211 b)) (fun b => f26 213 b (nr_X0_letters_279__213 b)) (fun b => f26 215 b (nr_X0_letters_279__215 b)) (fun b => f26 217 b (nr_X0_letters_279__217 b)) (fun b => f26 219 b (nr_X0_letters_279__219 b)) (f26 240 6 (by decide)) (fun b => f26 248 b (nr_X0_letters_279__248 b))
  have r35 := y_YC.fr o9 (f26 191 16 (by decide)) (f26 6 6 (by decide)) (f26 191 17 (by decide)) (f26 191 18 (by decide)) (fun b => f26 3 b (nr_X0_letters_279__3 b)) (fun b => f26 8 b (nr_X0_letters_279__8 b)) (fun b => f26 12 b (nr_X0_letters_279__12 b)) (fun b => f26 14 b (nr_X0_letters_279__14 b)) (fun b => f26 16 b (nr_X0_letters_279__16 b)) (fun b => f26 18 b (nr_X0_letters_279__18 b)) (fun b => f26 193 b (nr_X0_letters_279__193 b)) (fun b => f26 195 b (nr_X0_letters_279__195 b)) (fun b => f26 197 b (nr_X0_letters_279__197 b)) (fun b => f26 199 b (nr_X0_letters_279__199 b)) (fun b => f26 201 b (nr_X0_letters_279__201 b)) (fun b => f26 203 b (nr_X0_letters_279__203 b)) (fun b => f26 205 b (nr_X0_letters_279__205 b)) (fun b => f26 207 b (nr_X0_letters_279__207 b)) (fun b => f26 209 b (nr_X0_letters_279__209 b)) (fun b => f26 211 b (nr_X0_letters_279__211 b)) (fun b => f26 213 b (nr_X0_letters_279__213 b)) (fun b => f26 215 b (nr_X0_letters_279__215 b)) (fun b => f26 217 b (nr_X0_letters_279__217 b)) (fun b => f26 219 b (nr_X0_letters_279__219 b)) (f26 240 6 (by decide)) (fun b => f26 248 b (nr_X0_letters_279__248 b)) (fun b => f26 260 b (nr_X0_letters_279__260 b)) (fun b => f26 262 b (nr_X0_letters_279__262 b)) (fun b => f26 264 b (nr_X0_letters_279__264 b)) (fun b => f26 266 b (nr_X0_letters_279__266 b)) (fun b => f26 268 b (nr_X0_letters_279__268 b)) (fun b => f26 270 b (nr_X0_letters_279__270 b)) (fun b => f26 272 b (nr_X0_letters_279__272 b)) (fun b => f26 274 b (nr_X0_letters_279__274 b)) (fun b => f26 276 b (nr_X0_letters_279__276 b)) (fun b => f26 278 b (nr_X0_letters_279__278 b)) (f26 279 9 (by decide)) (fun b => f26 281 b (nr_X0_letters_279__281 b)) (fun b => f26 283 b (nr_X0_letters_279__283 b)) (fun b => f26 285 b (nr_X0_letters_279__285 b)) (fun b => f26 287 b (nr_X0_letters_279__287 b)) (fun b => f26 289 b (nr_X0_letters_279__289 b)) (fun b => f26 291 b (nr_X0_letters_279__291 b)) (fun b => f26 293 b (nr_X0_letters_279__293 b)) (fun b => f26 295 b (nr_X0_letters_279__295 b))
  have r36 := y_B0.fr o7.1.1 (f26 211 0 (by decide)) (f26 213 0 (by decide))
  refine T_ite (fun h37 => ?_) (fun h37 => ?_)
  · exact sj_X11_reading_1Y_J64 hfu r0 s24 c25 f27 a1 a2 a3 a4 0 (by omega) (by omega) (by omega) (by omega) (by omega) (y_V3.u r33 (Or.inr r34)) (y_Y4.c r35)
  · exact sj_X11_reading_1Y_J64 hfu r0 s24 c25 f27 a1 a2 a3 a4 1 (by omega) (by omega) (by omega) (by omega) (by omega) (y_V3.u r33 (Or.inr r34)) (y_Y4.c r35)
abbrev P_X11_run_1Y (r0 : z_M) : z_V → z_M → Prop := fun v s' => z_CI s' ∧ z_Fr R_X11_run_1 r0 s' ∧ (y_V3 s') ∧ (y_Y4 s') ∧ ((∃ x, v = vI x ∧ -2147483648 ≤ x ∧ x ≤ 2147483647) ∨ v = vX 1)
theorem sj_X11_run_1Y_J111 {fu : Nat} (hfu : 8589934592 ≤ fu) (r0 s : z_M) (c : z_CI s) (f : z_Fr R_X11_run_1 r0 s) (a1 : Int) (a2 : Int) (a3 : Int) (a4 : Int) (a5 : Int) (b1 : -2147483648 ≤ a1 ∧ a1 ≤ 2147483647) (b2 : -2147483648 ≤ a2 ∧ a2 ≤ 2147483647) (b3 : -2147483648 ≤ a3 ∧ a3 ≤ 2147483647) (b4 : -2147483648 ≤ a4 ∧ a4 ≤ 2147483647) (b5 : -2147483648 ≤ a5 ∧ a5 ≤ 2147483646) (p0 : y_V3 s) (p1 : y_Y4 s) (M : Int) (pm : 2147483647 - a5 ≤ M) {r : z_M → Int → Int → Int → z_O} {k : z_M → z_O} (hr : ∀ (s' : z_M) (v3 : Int) (v4 : Int) (v5 : Int), z_CI s' → z_Fr R_X11_run_1 r0 s' → (-2147483648 ≤ v3 ∧ v3 ≤ 2147483647) → (-2147483648 ≤ v4 ∧ v4 ≤ 2147483647) → (-2147483648 ≤ v5 ∧ v5 ≤ 2147483647) → (y_V3 s') → (y_Y4 s') → (2147483647 - v5 < M) → z_T (r s' v3 v4 v5) (P_X11_run_1Y r0)) (hk : ∀ (s' : z_M), z_CI s' → z_Fr R_X11_run_1 r0 s' → (y_V3 s') → (y_Y4 s') → z_T (k s') (P_X11_run_1Y r0)) : z_T (fX11_run_J111 fu s 1 a1 a2 a3 a4 a5 r k) (P_X11_run_1Y r0) := by
  refine T_of (fX11_run_J111.eq_1 ..) ?_
  have u1 := CI_b c (k := 6) (j := 6) bd_6_6
  refine T_leq (fun x2 e3 => ?_)
  have w4 := z_wb e3
  exact hr s a3 a4 x2 c f (by omega) (by omega) (by omega) p0 p1 (by omega)
theorem sj_X11_run_1Y_J103 {fu : Nat} (hfu : 8589934592 ≤ fu) (r0 s : z_M) (c : z_CI s) (f : z_Fr R_X11_run_1 r0 s) (t0 : Int) (a1 : Int) (a2 : Int) (d0 : -2147483648 ≤ t0 ∧ t0 ≤ 2147483647) (e1 : -2147483648 ≤ a1 ∧ a1 ≤ 2147483647) (e2 : -2147483648 ≤ a2 ∧ a2 ≤ 2147483647) (p0 : y_V3 s) (p1 : y_Y4 s) (M : Int) (pm : (0 : Int) ≤ 0) {r : z_M → Int → Int → Int → z_O} {k : z_M → z_O} (hr : ∀ (s' : z_M) (v3 : Int) (v4 : Int) (v5 : Int), z_CI s' → z_Fr R_X11_run_1 r0 s' → (-2147483648 ≤ v3 ∧ v3 ≤ 2147483647) → (-2147483648 ≤ v4 ∧ v4 ≤ 2147483647) → (-2147483648 ≤ v5 ∧ v5 ≤ 2147483647) → (y_V3 s') → (y_Y4 s') → (2147483647 - v5 < M) → z_T (r s' v3 v4 v5) (P_X11_run_1Y r0)) (hk : ∀ (s' : z_M), z_CI s' → z_Fr R_X11_run_1 r0 s' → (y_V3 s') → (y_Y4 s') → z_T (k s') (P_X11_run_1Y r0)) : z_T (fX11_run_J103 fu s t0 r k) (P_X11_run_1Y r0) := by
  refine T_of (fX11_run_J103.eq_1 ..) ?_
  have u1 := CI_b c (k := 6) (j := 6) bd_6_6
  exact T_ret ⟨c, f, p0, p1, Or.inl (⟨t0, rfl, by omega, by omega⟩)⟩
theorem sj_X11_run_1Y_J74 {fu : Nat} (hfu : 8589934592 ≤ fu) (r0 s : z_M) (c : z_CI s) (f : z_Fr R_X11_run_1 r0 s) (a1 : Int) (a2 : Int) (a3 : Int) (a4 : Int) (a5 : Int) (a6 : Int) (b1 : -2147483648 ≤ a1 ∧ a1 ≤ 2147483647) (b2 : -2147483648 ≤ a2 ∧ a2 ≤ 2147483647) (b3 : -2147483648 ≤ a3 ∧ a3 ≤ 2147483647) (b4 : -2147483648 ≤ a4 ∧ a4 ≤ 2147483647) (b5 : -2147483648 ≤ a5 ∧ a5 ≤ 2147483646) (b6 : -2147483648 ≤ a6 ∧ a6 ≤ 2147483647) (p0 : y_V3 s) (p1 : y_Y4 s) (M : Int) (pm : 2147483647 - a5 ≤ M) {r : z_M → Int → Int → Int → z_O} {k : z_M → z_O} (hr : ∀ (s' : z_M) (v3 : Int) (v4 : Int) (v5 : Int), z_CI s' → z_Fr R_X11_run_1 r0 s' → (-2147483648 ≤ v3 ∧ v3 ≤ 2147483647) → (-2147483648 ≤ v4 ∧ v4 ≤ 2147483647) → (-2147483648 ≤ v5 ∧ v5 ≤ 2147483647) → (y_V3 s') → (y_Y4 s') → (2147483647 - v5 < M) → z_T (r s' v3 v4 v5) (P_X11_run_1Y r0)) (hk : ∀ (s' : z_M), z_CI s' → z_Fr R_X11_run_1 r0 s' → (y_V3 s') → (y_Y4 s') → z_T (k s') (P_X11_run_1Y r0)) : z_T (fX11_run_J74 fu s 1 a1 a2 a3 a4 a5 a6 r k) (P_X11_run_1Y r0) := by
  refine T_of (fX11_run_J74.eq_1 ..) ?_
  have u1 := CI_b c (k := 6) (j := 6) bd_6_6
  refine T_ite (fun h2 => ?_) (fun h2 => ?_)
  · refine T_leq (fun x3 e4 => ?_)
    have w5 := z_wb e4
    exact sj_X11_run_1Y_J111 hfu r0 s c f a1 a2 x3 a5 a5 (by omega) (by omega) (by omega) (by omega) (by omega) p0 p1 M (by omega) (fun s' v3 v4 v5 c' f' w3 w4 w5 z0 z1 pg => hr s' v3 v4 v5 c' f' w3 w4 w5 z0 z1 (by omega)) hk
  · refine T_ite (fun h6 => ?_) (fun h6 => ?_)
    · refine T_ite (fun h7 => ?_) (fun h7 => ?_)
      · exact sj_X11_run_1Y_J103 hfu r0 s c f a6 a1 a2 (by omega) (by omega) (by omega) p0 p1 M (by omega) (fun s' v3 v4 v5 c' f' w3 w4 w5 z0 z1 pg => hr s' v3 v4 v5 c' f' w3 w4 w5 z0 z1 (by omega)) hk
      · refine T_leq (fun x8 e9 => ?_)
        have w10 := z_wr e9
        exact sj_X11_run_1Y_J103 hfu r0 s c f x8 a1 a2 (by omega) (by omega) (by omega) p0 p1 M (by omega) (fun s' v3 v4 v5 c' f' w3 w4 w5 z0 z1 pg => hr s' v3 v4 v5 c' f' w3 w4 w5 z0 z1 (by omega)) hk
    · exact sj_X11_run_1Y_J103 hfu r0 s c f a4 a1 a2 (by omega) (by omega) (by omega) p0 p1 M (by omega) (fun s' v3 v4 v5 c' f' w3 w4 w5 z0 z1 pg => hr s' v3 v4 v5 c' f' w3 w4 w5 z0 z1 (by omega)) hk
theorem sl_X11_run_1Y_L19 {fu : Nat} (hfu : 8589934592 ≤ fu) (r0 : z_M) (a1 : Int) (a2 : Int) (b1 : -2147483648 ≤ a1 ∧ a1 ≤ 2147483647) (b2 : -2147483648 ≤ a2 ∧ a2 ≤ 2147483647) {k : z_M → z_O} (hk : ∀ (s' : z_M), z_CI s' → z_Fr R_X11_run_1 r0 s' → (y_V3 s') → (y_Y4 s') → z_T (k s') (P_X11_run_1Y r0)) : ∀ (F : Nat) (s : z_M) (a3 : Int) (a4 : Int) (a5 : Int), z_CI s → z_Fr R_X11_run_1 r0 s → (-2147483648 ≤ a3 ∧ a3 ≤ 2147483647) → (-2147483648 ≤ a4 ∧ a4 ≤ 2147483647) → (-2147483648 ≤ a5 ∧ a5 ≤ 2147483647) → (y_V3 s) → (y_Y4 s) → (2147483647 - a5 < (F : Int)) → z_T (fX11_run_L19 fu 1 a1 a2 F s a3 a4 a5 k) (P_X11_run_1Y r0) := by
  intro F
  induction F with
  | zero =>
    intro s a3 a4 a5 c f b3 b4 b5 i0 i1 hm
    have u21 := CI_b c (k := 6) (j := 6) bd_6_6
    exfalso; omega
  | succ F ih =>
    intro s a3 a4 a5 c f b3 b4 b5 i0 i1 hm
    refine T_of (fX11_run_L19.eq_2 ..) ?_
    have u1 := CI_b c (k := 6) (j := 6) bd_6_6
    refine T_if1 (by decide +kernel) ?_
    refine T_let 6 (by decide +kernel) ?_
    refine T_if1 (by decide +kernel) ?_
    refine T_leq (fun x2 e3 => ?_)
    have u4 := CI_b c (k := 6) (j := 6) bd_6_6
    refine T_ite (fun h5 => ?_) (fun h5 => ?_)
    · exact hk s c f i0 i1
    · refine T_if1 (by decide +kernel) ?_
      refine T_let 191 (by decide +kernel) ?_
      refine T_if1 (by decide +kernel) ?_
      refine T_let 218 (by decide +kernel) ?_
      refine T_if1 (by decide +kernel) ?_
      refine T_get (by decide +kernel) (c := 219) (by decide +kernel) bdr_219 (by decide) c (fun x6 e7 b8 w9 => ?_)
      have l10 : z_ln 218 = 200 := by decide +kernel
      refine T_if1 (by decide +kernel) ?_
      refine T_let 6 (by decide +kernel) ?_
      refine T_if1 (by decide +kernel) ?_
      refine T_leq (fun x11 e12 => ?_)
      have u13 := CI_b c (k := 6) (j := 6) bd_6_6
      refine T_ite (fun h14 => ?_) (fun h14 => ?_)
      · exact sj_X11_run_1Y_J74 hfu r0 s c f a1 a2 a3 a4 a5 x6 (by omega) (by omega) (by omega) (by omega) (by omega) (by omega) i0 i1 (2147483647 - a5) (by omega) (fun s' v3 v4 v5 c' f' w3 w4 w5 z0 z1 pg => ih s' v3 v4 v5 c' f' w3 w4 w5 z0 z1 (by omega)) hk
      · refine T_if1 (by decide +kernel) ?_
        refine T_let 191 (by decide +kernel) ?_
        refine T_if1 (by decide +kernel) ?_
        refine T_let 218 (by decide +kernel) ?_
        refine T_if1 (by decide +kernel) ?_
        refine T_get (by decide +kernel) (c := 219) (by decide +kernel) bdr_219 (by decide) c (fun x15 e16 b17 w18 => ?_)
        have l19 : z_ln 218 = 200 := by decide +kernel
        refine T_ite (fun h20 => ?_) (fun h20 => ?_)
        · exact sj_X11_run_1Y_J111 hfu r0 s c f a1 a2 a3 a4 a5 (by omega) (by omega) (by omega) (by omega) (by omega) i0 i1 (2147483647 - a5) (by omega) (fun s' v3 v4 v5 c' f' w3 w4 w5 z0 z1 pg => ih s' v3 v4 v5 c' f' w3 w4 w5 z0 z1 (by omega)) hk
        · exact sj_X11_run_1Y_J74 hfu r0 s c f a1 a2 a3 a4 a5 x6 (by omega) (by omega) (by omega) (by omega) (by omega) (by omega) i0 i1 (2147483647 - a5) (by omega) (fun s' v3 v4 v5 c' f' w3 w4 w5 z0 z1 pg => ih s' v3 v4 v5 c' f' w3 w4 w5 z0 z1 (by omega)) hk
theorem sf_X11_run_1Y {fu : Nat} (hfu : 8589934592 ≤ fu) (r0 : z_M) (c0 : z_CI r0) (a1 : Int) (a2 : Int) (b1 : -2147483648 ≤ a1 ∧ a1 ≤ 2147483647) (b2 : -2147483648 ≤ a2 ∧ a2 ≤ 2147483647) (p0 : y_V3 r0) (p1 : y_Y4 r0) : z_T (fX11_run fu r0 1 a1 a2) (P_X11_run_1Y r0) := by
  refine T_of (fX11_run.eq_1 ..) ?_
  refine T_if1 (by decide +kernel) ?_
  refine T_nw ?_ (fun h1 h2 => ?_)
  · exact T_ret ⟨CI_up c0 bd_1_15 (z_wb rfl).1, z_Fr.upf (R := R_X11_run_1) z_Fr.rf (fun a b h => z_up_k h) (fun b h => z_up_j h) (Or.inr (Or.inr (Or.inr (Or.inr (Or.inr (Or.inr (Or.inr (Or.inl (⟨rfl, by decide⟩))))))))), y_V3.fr p0 (z_up_j (by decide)) (z_up_j (by decide)) (z_up_k (by decide)) (z_up_k (by decide)) (z_up_k (by decide)) (z_up_k (by decide)) (fun _ => z_up_k (by decide)) (fun _ => z_up_k (by decide)) (fun _ => z_up_k (by decide)) (fun _ => z_up_k (by decide)) (fun _ => z_up_k (by decide)) (fun _ => z_up_k (by decide)) (fun _ => z_up_k (by decide)) (fun _ => z_up_k (by decide)) (fun _ => z_up_k (by decide)) (fun _ => z_up_k (by decide)) (fun _ => z_up_k (by decide)) (fun _ => z_up_k (by decide)) (fun _ => z_up_k (by decide)) (fun _ => z_up_k (by decide)) (fun _ => z_up_k (by decide)) (fun _ => z_up_k (by decide)) (fun _ => z_up_k (by decide)) (fun _ => z_up_k (by decide)) (fun _ => z_up_k (by decide)) (fun _ => z_up_k (by decide)) (fun _ => z_up_k (by decide)) (z_up_k (by decide)) (fun _ => z_up_k (by decide)), y_Y4.fr p1 (z_up_j (by decide)) (z_up_j (by decide)) (z_up_k (by decide)) (z_up_k (by decide)) (z_up_k (by decide)) (z_up_k (by decide)) (fun _ => z_up_k (by decide)) (fun _ => z_up_k (by decide)) (fun _ => z_up_k (by decide)) (fun _ => z_up_k (by decide)) (fun _ => z_up_k (by decide)) (fun _ => z_up_k (by decide)) (fun _ => z_up_k (by decide)) (fun _ => z_up_k (by decide)) (fun _ => z_up_k (by decide)) (fun _ => z_up_k (by decide)) (fun _ => z_up_k (by decide)) (fun _ => z_up_k (by decide)) (fun _ => z_up_k (by decide)) (fun _ => z_up_k (by decide)) (fun _ => z_up_k (by decide)) (fun _ => z_up_k (by decide)) (fun _ => z_up_k (by decide)) (fun _ => z_up_k (by decide)) (fun _ => z_up_k (by decide)) (fun _ => z_up_k (by decide)) (z_up_k (by decide)) (fun _ => z_up_k (by decide)) (fun _ => z_up_k (by decide)) (fun _ => z_up_k (by decide)) (fun _ => z_up_k (by decide)) (fun _ => z_up_k (by decide)) (fun _ => z_up_k (by decide)) (fun _ => z_up_k (by decide)) (fun _ => z_up_k (by decide)) (fun _ => z_up_k (by decide)) (fun _ => z_up_k (by decide)) (fun _ => z_up_k (by decide)) (z_up_k (by decide)) (fun _ => z_up_k (by decide)) (fun _ => z_up_k (by decide)) (fun _ => z_up_k (by decide)) (fun _ => z_up_k (by decide)) (fun _ => z_up_k (by decide)) (fun _ => z_up_k (by decide)) (fun _ => z_up_k (by decide)) (fun _ => z_up_k (by decide)), Or.inr rfl⟩
  refine T_if1 (by decide +kernel) ?_
  refine T_useN (sf_X11_refresh_1Y hfu r0 c0 p0 p1) (fun v8 s3 hq => ?_)
  obtain ⟨c4, f5, o9, o10, o11, rfl⟩ := hq
  refine T_vN ?_
  have f6 := z_Fr.tr (R := R_X11_run_1) z_Fr.rf f5 rs_X11_refresh_1__X11_run_1
  have t14 : s3 6 6 = r0 6 6 := f5 6 6 (by decide)
  refine sl_X11_run_1Y_L19 hfu r0 a1 a2 (by omega) (by omega) (fun s15 c16 f17 g18 g19 => ?_) fu s3 0 0 1 c4 f6 (by omega) (by omega) (by omega) (y_V3.u o9 (Or.inr o10)) (y_Y4.c o11) (by omega)
  have u20 := CI_b c16 (k := 6) (j := 6) bd_6_6
  exact T_ret ⟨c16, f17, g18, g19, Or.inl (⟨(-1), rfl, by omega, by omega⟩)⟩
abbrev P_X11_at_1Y (r0 : z_M) : z_V → z_M → Prop := fun v s' => z_CI s' ∧ z_Fr R_X11_at_1 r0 s' ∧ (y_V3 s') ∧ (y_Y4 s') ∧ ((∃ x, v = vI x ∧ -2147483648 ≤ x ∧ x ≤ 2147483647) ∨ v = vX 0)
theorem nr_X3_standingAt_258__260 (b : Int) : ¬ R_X3_standingAt_258 260 b := by
  unfold R_X3_standingAt_258; omega
theorem nr_X3_standingAt_258__262 (b : Int) : ¬ R_X3_standingAt_258 262 b := by
  unfold R_X3_standingAt_258; omega
theorem nr_X3_standingAt_258__264 (b : Int) : ¬ R_X3_standingAt_258 264 b := by
  unfold R_X3_standingAt_258; omega
theorem nr_X3_standingAt_258__266 (b : Int) : ¬ R_X3_standingAt_258 266 b := by
  unfold R_X3_standingAt_258; omega
theorem nr_X3_standingAt_258__268 (b : Int) : ¬ R_X3_standingAt_258 268 b := by
  unfold R_X3_standingAt_258; omega
theorem nr_X3_standingAt_258__270 (b : Int) : ¬ R_X3_standingAt_258 270 b := by
  unfold R_X3_standingAt_258; omega
theorem nr_X3_standingAt_258__272 (b : Int) : ¬ R_X3_standingAt_258 272 b := by
  unfold R_X3_standingAt_258; omega
theorem nr_X3_standingAt_258__274 (b : Int) : ¬ R_X3_standingAt_258 274 b := by
  unfold R_X3_standingAt_258; omega
theorem nr_X3_standingAt_258__276 (b : Int) : ¬ R_X3_standingAt_258 276 b := by
  unfold R_X3_standingAt_258; omega
theorem nr_X3_standingAt_258__278 (b : Int) : ¬ R_X3_standingAt_258 278 b := by
  unfold R_X3_standingAt_258; omega
theorem nr_X3_standingAt_258__281 (b : Int) : ¬ R_X3_standingAt_258 281 b := by
  unfold R_X3_standingAt_258; omega
theorem nr_X3_standingAt_258__283 (b : Int) : ¬ R_X3_standingAt_258 283 b := by
  unfold R_X3_standingAt_258; omega
theorem nr_X3_standingAt_258__285 (b : Int) : ¬ R_X3_standingAt_258 285 b := by
  unfold R_X3_standingAt_258; omega
theorem nr_X3_standingAt_258__287 (b : Int) : ¬ R_X3_standingAt_258 287 b := by
  unfold R_X3_standingAt_258; omega
theorem nr_X3_standingAt_258__289 (b : Int) : ¬ R_X3_standingAt_258 289 b := by
  unfold R_X3_standingAt_258; omega
theorem nr_X3_standingAt_258__291 (b : Int) : ¬ R_X3_standingAt_258 291 b := by
  unfold R_X3_standingAt_258; omega
theorem nr_X3_standingAt_258__293 (b : Int) : ¬ R_X3_standingAt_258 293 b := by
  unfold R_X3_standingAt_258; omega
theorem nr_X3_standingAt_258__295 (b : Int) : ¬ R_X3_standingAt_258 295 b := by
  unfold R_X3_standingAt_258; omega
set_option maxHeartbeats 4000000 in
theorem sf_X11_at_1Y {fu : Nat} (hfu : 8589934592 ≤ fu) (r0 : z_M) (c0 : z_CI r0) (a1 : Int) (a2 : Int) (b1 : -2147483648 ≤ a1 ∧ a1 ≤ 2147483647) (b2 : -2147483648 ≤ a2 ∧ a2 ≤ 2147483647) (p0 : y_V3 r0) (p1 : y_Y4 r0) : z_T (fX11_at fu r0 1 a1 a2) (P_X11_at_1Y r0) := by
  refine T_of (fX11_at.eq_1 ..) ?_
  refine T_if1 (by decide +kernel) ?_
  refine T_useN (sf_X11_refresh_1Y hfu r0 c0 p0 p1) (fun v6 s1 hq => ?_)
  obtain ⟨c2, f3, o7, o8, o9, rfl⟩ := hq
  refine T_vN ?_
  have f4 := z_Fr.tr (R := R_X11_at_1) z_Fr.rf f3 rs_X11_refresh_1__X11_at_1
  have u12 := CI_b c2 (k := 240) (j := 6) bd_240_6
  refine T_if1 (by decide +kernel) ?_
  refine T_let 240 (by decide +kernel) ?_
  refine T_if1 (by decide +kernel) ?_
  refine T_leq (fun x13 e14 => ?_)
  have u15 := CI_b c2 (k := 240) (j := 6) bd_240_6
  refine T_if1 (by decide +kernel) ?_
  refine T_ne ?_ (fun h16 h17 => ?_)
  · exact T_ret ⟨CI_up c2 bd_1_14 (z_wb rfl).1, z_Fr.upf (R := R_X11_at_1) f4 (fun a b h => z_up_k h) (fun b h => z_up_j h) (Or.inr (Or.inr (Or.inr (Or.inr (Or.inr (Or.inr (Or.inr (Or.inl (⟨rfl, by decide⟩))))))))), y_V3.u (y_U3.fr o7 (z_up_k (by decide)) (z_up_k (by decide)) (z_up_k (by decide)) (z_up_k (by decide)) (fun _ => z_up_k (by decide)) (fun _ => z_up_k (by decide)) (fun _ => z_up_k (by decide)) (fun _ => z_up_k (by decide)) (fun _ => z_up_k (by decide)) (fun _ => z_up_k (by decide)) (fun _ => z_up_k (by decide)) (fun _ => z_up_k (by decide)) (fun _ => z_up_k (by decide)) (fun _ => z_up_k (by decide)) (fun _ => z_up_k (by decide)) (fun _ => z_up_k (by decide)) (fun _ => z_up_k (by decide)) (fun _ => z_up_k (by decide)) (fun _ => z_up_k (by decide)) (fun _ => z_up_k (by decide)) (fun _ => z_up_k (by decide)) (fun _ => z_up_k (by decide)) (fun _ => z_up_k (by decide)) (fun _ => z_up_k (by decide)) (fun _ => z_up_k (by decide))) (y_L3.fr (show y_L3 s1 from (Or.inr o8)) (z_up_j (by decide)) (z_up_k (by decide)) (z_up_k (by decide)) (z_up_k (by decide)) (z_up_k (by decide)) (fun _ => z_up_k (by decide)) (fun _ => z_up_k (by decide)) (fun _ => z_up_k (by decide)) (fun _ => z_up_k (by decide)) (fun _ => z_up_k (by decide)) (fun _ => z_up_k (by decide)) (fun _ => z_up_k (by decide)) (fun _ => z_up_k (by decide)) (fun _ => z_up_k (by decide)) (fun _ => z_up_k (by decide)) (fun _ => z_up_k (by decide)) (fun _ => z_up_k (by decide)) (fun _ => z_up_k (by decide)) (fun _ => z_up_k (by decide)) (fun _ => z_up_k (by decide)) (fun _ => z_up_k (by decide)) (fun _ => z_up_k (by decide)) (fun _ => z_up_k (by decide)) (fun _ => z_up_k (by decide)) (fun _ => z_up_k (by decide)) (z_up_k (by decide)) (fun _ => z_up_k (by decide))), y_Y4.c (y_YC.fr o9 (z_up_k (by decide)) (z_up_k (by decide)) (z_up_k (by decide)) (z_up_k (by decide)) (fun _ => z_up_k (by decide)) (fun _ => z_up_k (by decide)) (fun _ => z_up_k (by decide)) (fun _ => z_up_k (by decide)) (fun _ => z_up_k (by decide)) (fun _ => z_up_k (by decide)) (fun _ => z_up_k (by decide)) (fun _ => z_up_k (by decide)) (fun _ => z_up_k (by decide)) (fun _ => z_up_k (by decide)) (fun _ => z_up_k (by decide)) (fun _ => z_up_k (by decide)) (fun _ => z_up_k (by decide)) (fun _ => z_up_k (by decide)) (fun _ => z_up_k (by decide)) (fun _ => z_up_k (by decide)) (fun _ => z_up_k (by decide)) (fun _ => z_up_k (by decide)) (fun _ => z_up_k (by decide)) (fun _ => z_up_k (by decide)) (z_up_k (by decide)) (fun _ => z_up_k (by decide)) (fun _ => z_up_k (by decide)) (fun _ => z_up_k (by decide)) (fun _ => z_up_k (by decide)) (fun _ => z_up_k (by decide)) (fun _ => z_up_k (by decide)) (fun _ => z_up_k (by decide)) (fun _ => z_up_k (by decide)) (fun _ => z_up_k (by decide)) (fun _ => z_up_k (by decide)) (fun _ => z_up_k (by decide)) (z_up_k (by decide)) (fun _ => z_up_k (by decide)) (fun _ => z_up_k (by decide)) (fun _ => z_up_k (by decide)) (fun _ => z_up_k (by decide)) (fun _ => z_up_k (by decide)) (fun _ => z_up_k (by decide)) (fun _ => z_up_k (by decide)) (fun _ => z_up_k (by decide))), Or.inr rfl⟩
  refine T_if1 (by decide +kernel) ?_
  refine T_let 258 (by decide +kernel) ?_
  refine T_if1 (by decide +kernel) ?_
  refine T_useI (sf_X3_standingAt_258 hfu s1 c2 a1 a2 (by omega) (by omega)) (fun v23 s18 hq => ?_)
  obtain ⟨c19, f20, ⟨x22, rfl, b24, b25⟩⟩ := hq
  refine T_vI ?_
  have f21 := z_Fr.tr (R := R_X11_at_1) f4 f20 rs_X3_standingAt_258__X11_at_1
  have t26 : s18 240 6 = s1 240 6 := f20 240 6 (by decide)
  have r27 := y_U3.fr o7 (f20 191 16 (by decide)) (f20 6 6 (by decide)) (f20 191 17 (by decide)) (f20 191 18 (by decide)) (fun b => f20 3 b (nr_X3_standingAt_258__3 b)) (fun b => f20 8 b (nr_X3_standingAt_258__8 b)) (fun b => f20 12 b (nr_X3_standingAt_258__12 b)) (fun b => f20 14 b (nr_X3_standingAt_258__14 b)) (fun b => f20 16 b (nr_X3_standingAt_258__16 b)) (fun b => f20 18 b (nr_X3_standingAt_258__18 b)) (fun b => f20 193 b (nr_X3_standingAt_258__193 b)) (fun b => f20 195 b (nr_X3_standingAt_258__195 b)) (fun b => f20 197 b (nr_X3_standingAt_258__197 b)) (fun b => f20 199 b (nr_X3_standingAt_258__199 b)) (fun b => f20 201 b (nr_X3_standingAt_258__201 b)) (fun b => f20 203 b (nr_X3_standingAt_258__203 b)) (fun b => f20 205 b (nr_X3_standingAt_258__205 b)) (fun b => f20 207 b (nr_X3_standingAt_258__207 b)) (fun b => f20 209 b (nr_X3_standingAt_258__209 b)) (fun b => f20 211 b (nr_X3_standingAt_258__211 b)) (fun b => f20 213 b (nr_X3_standingAt_258__213 b)) (fun b => f20 215 b (nr_X3_standingAt_258__215 b)) (fun b => f20 217 b (nr_X3_standingAt_258__217 b)) (fun b => f20 219 b (nr_X3_standingAt_258__219 b)) (fun b => f20 222 b (nr_X3_standingAt_258__222 b))
  have r28 := y_SA.fr o8 (f20 191 16 (by decide)) (f20 6 6 (by decide)) (f20 191 17 (by decide)) (f20 191 18 (by decide)) (fun b => f20 3 b (nr_X3_standingAt_258__3 b)) (fun b => f20 8 b (nr_X3_standingAt_258__8 b)) (fun b => f20 12 b (nr_X3_standingAt_258__12 b)) (fun b => f20 14 b (nr_X3_standingAt_258__14 b)) (fun b => f20 16 b (nr_X3_standingAt_258__16 b)) (fun b => f20 18 b (nr_X3_standingAt_258__18 b)) (fun b => f20 193 b (nr_X3_standingAt_258__193 b)) (fun b => f20 195 b (nr_X3_standingAt_258__195 b)) (fun b => f20 197 b (nr_X3_standingAt_258__197 b)) (fun b => f20 199 b (nr_X3_standingAt_258__199 b)) (fun b => f20 201 b (nr_X3_standingAt_258__201 b)) (fun b => f20 203 b (nr_X3_standingAt_258__203 b)) (fun b => f20 205 b (nr_X3_standingAt_258__205 b)) (fun b => f20 207 b (nr_X3_standingAt_258__207 b)) (fun b => f20 209 b (nr_X3_standingAt_258__209 b)) (fun b => f20 211 b (nr_X3_standingAt_258__211 b)) (fun b => f20 213 b (nr_X3_standingAt_258__213 b)) (fun b => f20 215 b (nr_X3_standingAt_258__215 b)) (fun b => f20 217 b (nr_X3_standingAt_258__217 b)) (fun b => f20 219 b (nr_X3_standingAt_258__219 b)) (f20 240 6 (by decide)) (fun b => f20 248 b (nr_X3_standingAt_258__248 b))
  have r29 := y_YC.fr o9 (f20 191 16 (by decide)) (f20 6 6 (by decide)) (f20 191 17 (by decide)) (f20 191 18 (by decide)) (fun b => f20 3 b (nr_X3_standingAt_258__3 b)) (fun b => f20 8 b (nr_X3_standingAt_258__8 b)) (fun b => f20 12 b (nr_X3_standingAt_258__12 b)) (fun b => f20 14 b (nr_X3_standingAt_258__14 b)) (fun b => f20 16 b (nr_X3_standingAt_258__16 b)) (fun b => f20 18 b (nr_X3_standingAt_258__18 b)) (fun b => f20 193 b (nr_X3_standingAt_258__193 b)) (fun b => f20 195 b (nr_X3_standingAt_258__195 b)) (fun b => f20 197 b (nr_X3_standingAt_258__197 b)) (fun b => f20 199 b (nr_X3_standingAt_258__199 b)) (fun b => f20 201 b (nr_X3_standingAt_258__201 b)) (fun b => f20 203 b (nr_X3_standingAt_258__203 b)) (fun b => f20 205 b (nr_X3_standingAt_258__205 b)) (fun b => f20 207 b (nr_X3_standingAt_258__207 b)) (fun b => f20 209 b (nr_X3_standingAt_258__209 b)) (fun b => f20 211 b (nr_X3_standingAt_258__211 b)) (fun b => f20 213 b (nr_X3_standingAt_258__213 b)) (fun b => f20 215 b (nr_X3_standingAt_258__215 b)) (fun b => f20 217 b (nr_X3_standingAt_258__217 b)) (fun b => f20 219 b (nr_X3_standingAt_258__219 b)) (f20 240 6 (by decide)) (fun b => f20 248 b (nr_X3_standingAt_258__248 b)) (fun b => f20 260 b (nr_X3_standingAt_258__260 b)) (fun b => f20 262 b (nr_X3_standingAt_258__262 b)) (fun b => f20 264 b (nr_X3_standingAt_258__264 b)) (fun b => f20 266 b (nr_X3_standingAt_258__266 b)) (fun b => f20 268 b (nr_X3_standingAt_258__268 b)) (fun b => f20 270 b (nr_X3_standingAt_258__270 b)) (fun b => f20 272 b (nr_X3_standingAt_258__272 b)) (fun b => f20 274 b (nr_X3_standingAt_258__274 b)) (fun b => f20 276 b (nr_X3_standingAt_258__276 b)) (fun b => f20 278 b (nr_X3_standingAt_258__278 b)) (f20 279 9 (by decide)) (fun b => f20 281 b (nr_X3_standingAt_258__281 b)) (fun b => f20 283 b (nr_X3_standingAt_258__283 b)) (fun b => f20 285 b (nr_X3_standingAt_258__285 b)) (fun b => f20 287 b (nr_X3_standingAt_258__287 b)) (fun b => f20 289 b (nr_X3_standingAt_258__289 b)) (fun b => f20 291 b (nr_X3_standingAt_258__291 b)) (fun b => f20 293 b (nr_X3_standingAt_258__293 b)) (fun b => f20 295 b (nr_X3_standingAt_258__295 b))
  have r30 := y_B0.fr o7.1.1 (f20 211 0 (by decide)) (f20 213 0 (by decide))
  exact T_ret ⟨c19, f21, (y_V3.u r27 (Or.inr r28)), (y_Y4.c r29), Or.inl (⟨x22, rfl, by omega, by omega⟩)⟩
abbrev P_X11_ends_1Y (r0 : z_M) : z_V → z_M → Prop := fun v s' => z_CI s' ∧ z_Fr R_X11_ends_1 r0 s' ∧ (y_V3 s') ∧ (y_Y4 s') ∧ ((∃ x, v = vI x ∧ 0 ≤ x ∧ x ≤ 1) ∨ v = vX 0)
theorem sj_X11_ends_1Y_J36 {fu : Nat} (hfu : 8589934592 ≤ fu) (r0 s : z_M) (c : z_CI s) (f : z_Fr R_X11_ends_1 r0 s) (t0 : Int) (d0 : 0 ≤ t0 ∧ t0 ≤ 1) (p0 : y_V3 s) (p1 : y_Y4 s) : z_T (fX11_ends_J36 fu s t0) (P_X11_ends_1Y r0) := by
  refine T_of (fX11_ends_J36.eq_1 ..) ?_
  have u1 := CI_b c (k := 191) (j := 16) bd_191_16
  refine T_if1 (by unfold z_bl; omega) ?_
  exact T_ret ⟨c, f, p0, p1, Or.inl (⟨t0, rfl, by omega, by omega⟩)⟩
theorem sf_X11_ends_1Y {fu : Nat} (hfu : 8589934592 ≤ fu) (r0 : z_M) (c0 : z_CI r0) (a1 : Int) (b1 : -2147483648 ≤ a1 ∧ a1 ≤ 2147483647) (p0 : y_V3 r0) (p1 : y_Y4 r0) : z_T (fX11_ends fu r0 1 a1) (P_X11_ends_1Y r0) := by
  refine T_of (fX11_ends.eq_1 ..) ?_
  refine T_if1 (by decide +kernel) ?_
  refine T_useN (sf_X11_refresh_1Y hfu r0 c0 p0 p1) (fun v6 s1 hq => ?_)
  obtain ⟨c2, f3, o7, o8, o9, rfl⟩ := hq
  refine T_vN ?_
  have f4 := z_Fr.tr (R := R_X11_ends_1) z_Fr.rf f3 rs_X11_refresh_1__X11_ends_1
  have u12 := CI_b c2 (k := 191) (j := 16) bd_191_16
  refine T_if1 (by decide +kernel) ?_
  refine T_let 191 (by decide +kernel) ?_
  refine T_if1 (by decide +kernel) ?_
  refine T_leq (fun x13 e14 => ?_)
  have u15 := CI_b c2 (k := 191) (j := 16) bd_191_16
  refine T_if1 (by decide +kernel) ?_
  refine T_ne ?_ (fun h16 h17 => ?_)
  · exact T_ret ⟨CI_up c2 bd_1_14 (z_wb rfl).1, z_Fr.upf (R := R_X11_ends_1) f4 (fun a b h => z_up_k h) (fun b h => z_up_j h) (Or.inr (Or.inr (Or.inr (Or.inr (Or.inr (Or.inr (Or.inr (Or.inl (⟨rfl, by decide⟩))))))))), y_V3.u (y_U3.fr o7 (z_up_k (by decide)) (z_up_k (by decide)) (z_up_k (by decide)) (z_up_k (by decide)) (fun _ => z_up_k (by decide)) (fun _ => z_up_k (by decide)) (fun _ => z_up_k (by decide)) (fun _ => z_up_k (by decide)) (fun _ => z_up_k (by decide)) (fun _ => z_up_k (by decide)) (fun _ => z_up_k (by decide)) (fun _ => z_up_k (by decide)) (fun _ => z_up_k (by decide)) (fun _ => z_up_k (by decide)) (fun _ => z_up_k (by decide)) (fun _ => z_up_k (by decide)) (fun _ => z_up_k (by decide)) (fun _ => z_up_k (by decide)) (fun _ => z_up_k (by decide)) (fun _ => z_up_k (by decide)) (fun _ => z_up_k (by decide)) (fun _ => z_up_k (by decide)) (fun _ => z_up_k (by decide)) (fun _ => z_up_k (by decide)) (fun _ => z_up_k (by decide))) (y_L3.fr (show y_L3 s1 from (Or.inr o8)) (z_up_j (by decide)) (z_up_k (by decide)) (z_up_k (by decide)) (z_up_k (by decide)) (z_up_k (by decide)) (fun _ => z_up_k (by decide)) (fun _ => z_up_k (by decide)) (fun _ => z_up_k (by decide)) (fun _ => z_up_k (by decide)) (fun _ => z_up_k (by decide)) (fun _ => z_up_k (by decide)) (fun _ => z_up_k (by decide)) (fun _ => z_up_k (by decide)) (fun _ => z_up_k (by decide)) (fun _ => z_up_k (by decide)) (fun _ => z_up_k (by decide)) (fun _ => z_up_k (by decide)) (fun _ => z_up_k (by decide)) (fun _ => z_up_k (by decide)) (fun _ => z_up_k (by decide)) (fun _ => z_up_k (by decide)) (fun _ => z_up_k (by decide)) (fun _ => z_up_k (by decide)) (fun _ => z_up_k (by decide)) (fun _ => z_up_k (by decide)) (z_up_k (by decide)) (fun _ => z_up_k (by decide))), y_Y4.c (y_YC.fr o9 (z_up_k (by decide)) (z_up_k (by decide)) (z_up_k (by decide)) (z_up_k (by decide)) (fun _ => z_up_k (by decide)) (fun _ => z_up_k (by decide)) (fun _ => z_up_k (by decide)) (fun _ => z_up_k (by decide)) (fun _ => z_up_k (by decide)) (fun _ => z_up_k (by decide)) (fun _ => z_up_k (by decide)) (fun _ => z_up_k (by decide)) (fun _ => z_up_k (by decide)) (fun _ => z_up_k (by decide)) (fun _ => z_up_k (by decide)) (fun _ => z_up_k (by decide)) (fun _ => z_up_k (by decide)) (fun _ => z_up_k (by decide)) (fun _ => z_up_k (by decide)) (fun _ => z_up_k (by decide)) (fun _ => z_up_k (by decide)) (fun _ => z_up_k (by decide)) (fun _ => z_up_k (by decide)) (fun _ => z_up_k (by decide)) (z_up_k (by decide)) (fun _ => z_up_k (by decide)) (fun _ => z_up_k (by decide)) (fun _ => z_up_k (by decide)) (fun _ => z_up_k (by decide)) (fun _ => z_up_k (by decide)) (fun _ => z_up_k (by decide)) (fun _ => z_up_k (by decide)) (fun _ => z_up_k (by decide)) (fun _ => z_up_k (by decide)) (fun _ => z_up_k (by decide)) (fun _ => z_up_k (by decide)) (z_up_k (by decide)) (fun _ => z_up_k (by decide)) (fun _ => z_up_k (by decide)) (fun _ => z_up_k (by decide)) (fun _ => z_up_k (by decide)) (fun _ => z_up_k (by decide)) (fun _ => z_up_k (by decide)) (fun _ => z_up_k (by decide)) (fun _ => z_up_k (by decide))), Or.inr rfl⟩
  refine T_if1 (by decide +kernel) ?_
  refine T_let 191 (by decide +kernel) ?_
  refine T_if1 (by decide +kernel) ?_
  refine T_let 208 (by decide +kernel) ?_
  refine T_if1 (by decide +kernel) ?_
  refine T_get (by decide +kernel) (c := 209) (by decide +kernel) bdr_209 (by decide) c2 (fun x18 e19 b20 w21 => ?_)
  have l22 : z_ln 208 = 200 := by decide +kernel
  refine T_ite (fun h23 => ?_) (fun h23 => ?_)
  · exact sj_X11_ends_1Y_J36 hfu r0 s1 c2 f4 0 (by omega) (y_V3.u o7 (Or.inr o8)) (y_Y4.c o9)
  · exact sj_X11_ends_1Y_J36 hfu r0 s1 c2 f4 1 (by omega) (y_V3.u o7 (Or.inr o8)) (y_Y4.c o9)
abbrev P_X11_longOf_1Y (r0 : z_M) : z_V → z_M → Prop := fun v s' => z_CI s' ∧ z_Fr R_X11_longOf_1 r0 s' ∧ (y_V3 s') ∧ (y_Y4 s') ∧ ((∃ x, v = vI x ∧ -2147483648 ≤ x ∧ x ≤ 2147483647) ∨ v = vX 0 ∨ v = vX 1)
theorem nr_X5_lengthOf_220__260 (b : Int) : ¬ R_X5_lengthOf_220 260 b := by
  unfold R_X5_lengthOf_220; omega
theorem nr_X5_lengthOf_220__262 (b : Int) : ¬ R_X5_lengthOf_220 262 b := by
  unfold R_X5_lengthOf_220; omega
theorem nr_X5_lengthOf_220__264 (b : Int) : ¬ R_X5_lengthOf_220 264 b := by
  unfold R_X5_lengthOf_220; omega
theorem nr_X5_lengthOf_220__266 (b : Int) : ¬ R_X5_lengthOf_220 266 b := by
  unfold R_X5_lengthOf_220; omega
theorem nr_X5_lengthOf_220__268 (b : Int) : ¬ R_X5_lengthOf_220 268 b := by
  unfold R_X5_lengthOf_220; omega
theorem nr_X5_lengthOf_220__270 (b : Int) : ¬ R_X5_lengthOf_220 270 b := by
  unfold R_X5_lengthOf_220; omega
theorem nr_X5_lengthOf_220__272 (b : Int) : ¬ R_X5_lengthOf_220 272 b := by
  unfold R_X5_lengthOf_220; omega
theorem nr_X5_lengthOf_220__274 (b : Int) : ¬ R_X5_lengthOf_220 274 b := by
  unfold R_X5_lengthOf_220; omega
theorem nr_X5_lengthOf_220__276 (b : Int) : ¬ R_X5_lengthOf_220 276 b := by
  unfold R_X5_lengthOf_220; omega
theorem nr_X5_lengthOf_220__278 (b : Int) : ¬ R_X5_lengthOf_220 278 b := by
  unfold R_X5_lengthOf_220; omega
theorem nr_X5_lengthOf_220__281 (b : Int) : ¬ R_X5_lengthOf_220 281 b := by
  unfold R_X5_lengthOf_220; omega
theorem nr_X5_lengthOf_220__283 (b : Int) : ¬ R_X5_lengthOf_220 283 b := by
  unfold R_X5_lengthOf_220; omega
theorem nr_X5_lengthOf_220__285 (b : Int) : ¬ R_X5_lengthOf_220 285 b := by
  unfold R_X5_lengthOf_220; omega
theorem nr_X5_lengthOf_220__287 (b : Int) : ¬ R_X5_lengthOf_220 287 b := by
  unfold R_X5_lengthOf_220; omega
theorem nr_X5_lengthOf_220__289 (b : Int) : ¬ R_X5_lengthOf_220 289 b := by
  unfold R_X5_lengthOf_220; omega
theorem nr_X5_lengthOf_220__291 (b : Int) : ¬ R_X5_lengthOf_220 291 b := by
  unfold R_X5_lengthOf_220; omega
theorem nr_X5_lengthOf_220__293 (b : Int) : ¬ R_X5_lengthOf_220 293 b := by
  unfold R_X5_lengthOf_220; omega
theorem nr_X5_lengthOf_220__295 (b : Int) : ¬ R_X5_lengthOf_220 295 b := by
  unfold R_X5_lengthOf_220; omega
set_option maxHeartbeats 4000000 in
theorem sf_X11_longOf_1Y {fu : Nat} (hfu : 8589934592 ≤ fu) (r0 : z_M) (c0 : z_CI r0) (a1 : Int) (a2 : Int) (b1 : -2147483648 ≤ a1 ∧ a1 ≤ 2147483647) (b2 : -2147483648 ≤ a2 ∧ a2 ≤ 2147483647) (p0 : y_V3 r0) (p1 : y_Y4 r0) : z_T (fX11_longOf fu r0 1 a1 a2) (P_X11_longOf_1Y r0) := by
  refine T_of (fX11_longOf.eq_1 ..) ?_
  refine T_if1 (by decide +kernel) ?_
  refine T_useN (sf_X11_refresh_1Y hfu r0 c0 p0 p1) (fun v6 s1 hq => ?_)
  obtain ⟨c2, f3, o7, o8, o9, rfl⟩ := hq
  refine T_vN ?_
  have f4 := z_Fr.tr (R := R_X11_longOf_1) z_Fr.rf f3 rs_X11_refresh_1__X11_longOf_1
  have u12 := CI_b c2 (k := 191) (j := 16) bd_191_16
  refine T_if1 (by decide +kernel) ?_
  refine T_let 191 (by decide +kernel) ?_
  refine T_if1 (by decide +kernel) ?_
  refine T_leq (fun x13 e14 => ?_)
  have u15 := CI_b c2 (k := 191) (j := 16) bd_191_16
  refine T_if1 (by decide +kernel) ?_
  refine T_ne ?_ (fun h16 h17 => ?_)
  · exact T_ret ⟨CI_up c2 bd_1_14 (z_wb rfl).1, z_Fr.upf (R := R_X11_longOf_1) f4 (fun a b h => z_up_k h) (fun b h => z_up_j h) (Or.inr (Or.inr (Or.inr (Or.inr (Or.inr (Or.inr (Or.inr (Or.inl (⟨rfl, by decide⟩))))))))), y_V3.u (y_U3.fr o7 (z_up_k (by decide)) (z_up_k (by decide)) (z_up_k (by decide)) (z_up_k (by decide)) (fun _ => z_up_k (by decide)) (fun _ => z_up_k (by decide)) (fun _ => z_up_k (by decide)) (fun _ => z_up_k (by decide)) (fun _ => z_up_k (by decide)) (fun _ => z_up_k (by decide)) (fun _ => z_up_k (by decide)) (fun _ => z_up_k (by decide)) (fun _ => z_up_k (by decide)) (fun _ => z_up_k (by decide)) (fun _ => z_up_k (by decide)) (fun _ => z_up_k (by decide)) (fun _ => z_up_k (by decide)) (fun _ => z_up_k (by decide)) (fun _ => z_up_k (by decide)) (fun _ => z_up_k (by decide)) (fun _ => z_up_k (by decide)) (fun _ => z_up_k (by decide)) (fun _ => z_up_k (by decide)) (fun _ => z_up_k (by decide)) (fun _ => z_up_k (by decide))) (y_L3.fr (show y_L3 s1 from (Or.inr o8)) (z_up_j (by decide)) (z_up_k (by decide)) (z_up_k (by decide)) (z_up_k (by decide)) (z_up_k (by decide)) (fun _ => z_up_k (by decide)) (fun _ => z_up_k (by decide)) (fun _ => z_up_k (by decide)) (fun _ => z_up_k (by decide)) (fun _ => z_up_k (by decide)) (fun _ => z_up_k (by decide)) (fun _ => z_up_k (by decide)) (fun _ => z_up_k (by decide)) (fun _ => z_up_k (by decide)) (fun _ => z_up_k (by decide)) (fun _ => z_up_k (by decide)) (fun _ => z_up_k (by decide)) (fun _ => z_up_k (by decide)) (fun _ => z_up_k (by decide)) (fun _ => z_up_k (by decide)) (fun _ => z_up_k (by decide)) (fun _ => z_up_k (by decide)) (fun _ => z_up_k (by decide)) (fun _ => z_up_k (by decide)) (fun _ => z_up_k (by decide)) (z_up_k (by decide)) (fun _ => z_up_k (by decide))), y_Y4.c (y_YC.fr o9 (z_up_k (by decide)) (z_up_k (by decide)) (z_up_k (by decide)) (z_up_k (by decide)) (fun _ => z_up_k (by decide)) (fun _ => z_up_k (by decide)) (fun _ => z_up_k (by decide)) (fun _ => z_up_k (by decide)) (fun _ => z_up_k (by decide)) (fun _ => z_up_k (by decide)) (fun _ => z_up_k (by decide)) (fun _ => z_up_k (by decide)) (fun _ => z_up_k (by decide)) (fun _ => z_up_k (by decide)) (fun _ => z_up_k (by decide)) (fun _ => z_up_k (by decide)) (fun _ => z_up_k (by decide)) (fun _ => z_up_k (by decide)) (fun _ => z_up_k (by decide)) (fun _ => z_up_k (by decide)) (fun _ => z_up_k (by decide)) (fun _ => z_up_k (by decide)) (fun _ => z_up_k (by decide)) (fun _ => z_up_k (by decide)) (z_up_k (by decide)) (fun _ => z_up_k (by decide)) (fun _ => z_up_k (by decide)) (fun _ => z_up_k (by decide)) (fun _ => z_up_k (by decide)) (fun _ => z_up_k (by decide)) (fun _ => z_up_k (by decide)) (fun _ => z_up_k (by decide)) (fun _ => z_up_k (by decide)) (fun _ => z_up_k (by decide)) (fun _ => z_up_k (by decide)) (fun _ => z_up_k (by decide)) (z_up_k (by decide)) (fun _ => z_up_k (by decide)) (fun _ => z_up_k (by decide)) (fun _ => z_up_k (by decide)) (fun _ => z_up_k (by decide)) (fun _ => z_up_k (by decide)) (fun _ => z_up_k (by decide)) (fun _ => z_up_k (by decide)) (fun _ => z_up_k (by decide))), Or.inr (Or.inl rfl)⟩
  refine T_if1 (by decide +kernel) ?_
  refine T_let 191 (by decide +kernel) ?_
  refine T_if1 (by decide +kernel) ?_
  refine T_leq (fun x18 e19 => ?_)
  have u20 := CI_b c2 (k := 191) (j := 16) bd_191_16
  refine T_if1 (by decide +kernel) ?_
  refine T_ne ?_ (fun h21 h22 => ?_)
  · exact T_ret ⟨CI_up c2 bd_1_14 (z_wb rfl).1, z_Fr.upf (R := R_X11_longOf_1) f4 (fun a b h => z_up_k h) (fun b h => z_up_j h) (Or.inr (Or.inr (Or.inr (Or.inr (Or.inr (Or.inr (Or.inr (Or.inl (⟨rfl, by decide⟩))))))))), y_V3.u (y_U3.fr o7 (z_up_k (by decide)) (z_up_k (by decide)) (z_up_k (by decide)) (z_up_k (by decide)) (fun _ => z_up_k (by decide)) (fun _ => z_up_k (by decide)) (fun _ => z_up_k (by decide)) (fun _ => z_up_k (by decide)) (fun _ => z_up_k (by decide)) (fun _ => z_up_k (by decide)) (fun _ => z_up_k (by decide)) (fun _ => z_up_k (by decide)) (fun _ => z_up_k (by decide)) (fun _ => z_up_k (by decide)) (fun _ => z_up_k (by decide)) (fun _ => z_up_k (by decide)) (fun _ => z_up_k (by decide)) (fun _ => z_up_k (by decide)) (fun _ => z_up_k (by decide)) (fun _ => z_up_k (by decide)) (fun _ => z_up_k (by decide)) (fun _ => z_up_k (by decide)) (fun _ => z_up_k (by decide)) (fun _ => z_up_k (by decide)) (fun _ => z_up_k (by decide))) (y_L3.fr (show y_L3 s1 from (Or.inr o8)) (z_up_j (by decide)) (z_up_k (by decide)) (z_up_k (by decide)) (z_up_k (by decide)) (z_up_k (by decide)) (fun _ => z_up_k (by decide)) (fun _ => z_up_k (by decide)) (fun _ => z_up_k (by decide)) (fun _ => z_up_k (by decide)) (fun _ => z_up_k (by decide)) (fun _ => z_up_k (by decide)) (fun _ => z_up_k (by decide)) (fun _ => z_up_k (by decide)) (fun _ => z_up_k (by decide)) (fun _ => z_up_k (by decide)) (fun _ => z_up_k (by decide)) (fun _ => z_up_k (by decide)) (fun _ => z_up_k (by decide)) (fun _ => z_up_k (by decide)) (fun _ => z_up_k (by decide)) (fun _ => z_up_k (by decide)) (fun _ => z_up_k (by decide)) (fun _ => z_up_k (by decide)) (fun _ => z_up_k (by decide)) (fun _ => z_up_k (by decide)) (z_up_k (by decide)) (fun _ => z_up_k (by decide))), y_Y4.c (y_YC.fr o9 (z_up_k (by decide)) (z_up_k (by decide)) (z_up_k (by decide)) (z_up_k (by decide)) (fun _ => z_up_k (by decide)) (fun _ => z_up_k (by decide)) (fun _ => z_up_k (by decide)) (fun _ => z_up_k (by decide)) (fun _ => z_up_k (by decide)) (fun _ => z_up_k (by decide)) (fun _ => z_up_k (by decide)) (fun _ => z_up_k (by decide)) (fun _ => z_up_k (by decide)) (fun _ => z_up_k (by decide)) (fun _ => z_up_k (by decide)) (fun _ => z_up_k (by decide)) (fun _ => z_up_k (by decide)) (fun _ => z_up_k (by decide)) (fun _ => z_up_k (by decide)) (fun _ => z_up_k (by decide)) (fun _ => z_up_k (by decide)) (fun _ => z_up_k (by decide)) (fun _ => z_up_k (by decide)) (fun _ => z_up_k (by decide)) (z_up_k (by decide)) (fun _ => z_up_k (by decide)) (fun _ => z_up_k (by decide)) (fun _ => z_up_k (by decide)) (fun _ => z_up_k (by decide)) (fun _ => z_up_k (by decide)) (fun _ => z_up_k (by decide)) (fun _ => z_up_k (by decide)) (fun _ => z_up_k (by decide)) (fun _ => z_up_k (by decide)) (fun _ => z_up_k (by decide)) (fun _ => z_up_k (by decide)) (z_up_k (by decide)) (fun _ => z_up_k (by decide)) (fun _ => z_up_k (by decide)) (fun _ => z_up_k (by decide)) (fun _ => z_up_k (by decide)) (fun _ => z_up_k (by decide)) (fun _ => z_up_k (by decide)) (fun _ => z_up_k (by decide)) (fun _ => z_up_k (by decide))), Or.inr (Or.inl rfl)⟩
  refine T_if1 (by decide +kernel) ?_
  refine T_let 191 (by decide +kernel) ?_
  refine T_if1 (by decide +kernel) ?_
  refine T_leq (fun x23 e24 => ?_)
  have u25 := CI_b c2 (k := 191) (j := 16) bd_191_16
  refine T_if1 (by decide +kernel) ?_
  refine T_nw ?_ (fun h26 h27 => ?_)
  · exact T_ret ⟨CI_up c2 bd_1_15 (z_wb rfl).1, z_Fr.upf (R := R_X11_longOf_1) f4 (fun a b h => z_up_k h) (fun b h => z_up_j h) (Or.inr (Or.inr (Or.inr (Or.inr (Or.inr (Or.inr (Or.inr (Or.inl (⟨rfl, by decide⟩))))))))), y_V3.u (y_U3.fr o7 (z_up_k (by decide)) (z_up_k (by decide)) (z_up_k (by decide)) (z_up_k (by decide)) (fun _ => z_up_k (by decide)) (fun _ => z_up_k (by decide)) (fun _ => z_up_k (by decide)) (fun _ => z_up_k (by decide)) (fun _ => z_up_k (by decide)) (fun _ => z_up_k (by decide)) (fun _ => z_up_k (by decide)) (fun _ => z_up_k (by decide)) (fun _ => z_up_k (by decide)) (fun _ => z_up_k (by decide)) (fun _ => z_up_k (by decide)) (fun _ => z_up_k (by decide)) (fun _ => z_up_k (by decide)) (fun _ => z_up_k (by decide)) (fun _ => z_up_k (by decide)) (fun _ => z_up_k (by decide)) (fun _ => z_up_k (by decide)) (fun _ => z_up_k (by decide)) (fun _ => z_up_k (by decide)) (fun _ => z_up_k (by decide)) (fun _ => z_up_k (by decide))) (y_L3.fr (show y_L3 s1 from (Or.inr o8)) (z_up_j (by decide)) (z_up_k (by decide)) (z_up_k (by decide)) (z_up_k (by decide)) (z_up_k (by decide)) (fun _ => z_up_k (by decide)) (fun _ => z_up_k (by decide)) (fun _ => z_up_k (by decide)) (fun _ => z_up_k (by decide)) (fun _ => z_up_k (by decide)) (fun _ => z_up_k (by decide)) (fun _ => z_up_k (by decide)) (fun _ => z_up_k (by decide)) (fun _ => z_up_k (by decide)) (fun _ => z_up_k (by decide)) (fun _ => z_up_k (by decide)) (fun _ => z_up_k (by decide)) (fun _ => z_up_k (by decide)) (fun _ => z_up_k (by decide)) (fun _ => z_up_k (by decide)) (fun _ => z_up_k (by decide)) (fun _ => z_up_k (by decide)) (fun _ => z_up_k (by decide)) (fun _ => z_up_k (by decide)) (fun _ => z_up_k (by decide)) (z_up_k (by decide)) (fun _ => z_up_k (by decide))), y_Y4.c (y_YC.fr o9 (z_up_k (by decide)) (z_up_k (by decide)) (z_up_k (by decide)) (z_up_k (by decide)) (fun _ => z_up_k (by decide)) (fun _ => z_up_k (by decide)) (fun _ => z_up_k (by decide)) (fun _ => z_up_k (by decide)) (fun _ => z_up_k (by decide)) (fun _ => z_up_k (by decide)) (fun _ => z_up_k (by decide)) (fun _ => z_up_k (by decide)) (fun _ => z_up_k (by decide)) (fun _ => z_up_k (by decide)) (fun _ => z_up_k (by decide)) (fun _ => z_up_k (by decide)) (fun _ => z_up_k (by decide)) (fun _ => z_up_k (by decide)) (fun _ => z_up_k (by decide)) (fun _ => z_up_k (by decide)) (fun _ => z_up_k (by decide)) (fun _ => z_up_k (by decide)) (fun _ => z_up_k (by decide)) (fun _ => z_up_k (by decide)) (z_up_k (by decide)) (fun _ => z_up_k (by decide)) (fun _ => z_up_k (by decide)) (fun _ => z_up_k (by decide)) (fun _ => z_up_k (by decide)) (fun _ => z_up_k (by decide)) (fun _ => z_up_k (by decide)) (fun _ => z_up_k (by decide)) (fun _ => z_up_k (by decide)) (fun _ => z_up_k (by decide)) (fun _ => z_up_k (by decide)) (fun _ => z_up_k (by decide)) (z_up_k (by decide)) (fun _ => z_up_k (by decide)) (fun _ => z_up_k (by decide)) (fun _ => z_up_k (by decide)) (fun _ => z_up_k (by decide)) (fun _ => z_up_k (by decide)) (fun _ => z_up_k (by decide)) (fun _ => z_up_k (by decide)) (fun _ => z_up_k (by decide))), Or.inr (Or.inr rfl)⟩
  refine T_if1 (by decide +kernel) ?_
  refine T_let 220 (by decide +kernel) ?_
  refine T_if1 (by decide +kernel) ?_
  refine T_useI (sf_X5_lengthOf_220K hfu s1 c2 a1 a2 (by omega) (by omega) o7 (by have q8 := CI_b ‹z_CI s1› (k := 240) (j := 6) bd_240_6; have q9 := CI_b ‹z_CI s1› (k := 249) (j := 6) bd_249_6; have q7 := CI_b ‹z_CI s1› (k := 191) (j := 16) bd_191_16; first | exact y_AR.i (by omega) (by omega) (by omega) | exact y_SV.ar o8 (by assumption) (by assumption) rfl (by omega) (by omega) (by omega) (by omega) (by omega))) (fun v33 s28 hq => ?_)
  obtain ⟨c29, f30, o34, ⟨x32, rfl, b35, b36⟩⟩ := hq
  refine T_vI ?_
  have f31 := z_Fr.tr (R := R_X11_longOf_1) f4 f30 rs_X5_lengthOf_220__X11_longOf_1
  have t37 : s28 191 16 = s1 191 16 := f30 191 16 (by decide)
  have r38 := y_SA.fr o8 (f30 191 16 (by decide)) (f30 6 6 (by decide)) (f30 191 17 (by decide)) (f30 191 18 (by decide)) (fun b => f30 3 b (nr_X5_lengthOf_220__3 b)) (fun b => f30 8 b (nr_X5_lengthOf_220__8 b)) (fun b => f30 12 b (nr_X5_lengthOf_220__12 b)) (fun b => f30 14 b (nr_X5_lengthOf_220__14 b)) (fun b => f30 16 b (nr_X5_lengthOf_220__16 b)) (fun b => f30 18 b (nr_X5_lengthOf_220__18 b)) (fun b => f30 193 b (nr_X5_lengthOf_220__193 b)) (fun b => f30 195 b (nr_X5_lengthOf_220__195 b)) (fun b => f30 197 b (nr_X5_lengthOf_220__197 b)) (fun b => f30 199 b (nr_X5_lengthOf_220__199 b)) (fun b => f30 201 b (nr_X5_lengthOf_220__201 b)) (fun b => f30 203 b (nr_X5_lengthOf_220__203 b)) (fun b => f30 205 b (nr_X5_lengthOf_220__205 b)) (fun b => f30 207 b (nr_X5_lengthOf_220__207 b)) (fun b => f30 209 b (nr_X5_lengthOf_220__209 b)) (fun b => f30 211 b (nr_X5_lengthOf_220__211 b)) (fun b => f30 213 b (nr_X5_lengthOf_220__213 b)) (fun b => f30 215 b (nr_X5_lengthOf_220__215 b)) (fun b => f30 217 b (nr_X5_lengthOf_220__217 b)) (fun b => f30 219 b (nr_X5_lengthOf_220__219 b)) (f30 240 6 (by decide)) (fun b => f30 248 b (nr_X5_lengthOf_220__248 b))
  have r39 := y_YC.fr o9 (f30 191 16 (by decide)) (f30 6 6 (by decide)) (f30 191 17 (by decide)) (f30 191 18 (by decide)) (fun b => f30 3 b (nr_X5_lengthOf_220__3 b)) (fun b => f30 8 b (nr_X5_lengthOf_220__8 b)) (fun b => f30 12 b (nr_X5_lengthOf_220__12 b)) (fun b => f30 14 b (nr_X5_lengthOf_220__14 b)) (fun b => f30 16 b (nr_X5_lengthOf_220__16 b)) (fun b => f30 18 b (nr_X5_lengthOf_220__18 b)) (fun b => f30 193 b (nr_X5_lengthOf_220__193 b)) (fun b => f30 195 b (nr_X5_lengthOf_220__195 b)) (fun b => f30 197 b (nr_X5_lengthOf_220__197 b)) (fun b => f30 199 b (nr_X5_lengthOf_220__199 b)) (fun b => f30 201 b (nr_X5_lengthOf_220__201 b)) (fun b => f30 203 b (nr_X5_lengthOf_220__203 b)) (fun b => f30 205 b (nr_X5_lengthOf_220__205 b)) (fun b => f30 207 b (nr_X5_lengthOf_220__207 b)) (fun b => f30 209 b (nr_X5_lengthOf_220__209 b)) (fun b => f30 211 b (nr_X5_lengthOf_220__211 b)) (fun b => f30 213 b (nr_X5_lengthOf_220__213 b)) (fun b => f30 215 b (nr_X5_lengthOf_220__215 b)) (fun b => f30 217 b (nr_X5_lengthOf_220__217 b)) (fun b => f30 219 b (nr_X5_lengthOf_220__219 b)) (f30 240 6 (by decide)) (fun b => f30 248 b (nr_X5_lengthOf_220__248 b)) (fun b => f30 260 b (nr_X5_lengthOf_220__260 b)) (fun b => f30 262 b (nr_X5_lengthOf_220__262 b)) (fun b => f30 264 b (nr_X5_lengthOf_220__264 b)) (fun b => f30 266 b (nr_X5_lengthOf_220__266 b)) (fun b => f30 268 b (nr_X5_lengthOf_220__268 b)) (fun b => f30 270 b (nr_X5_lengthOf_220__270 b)) (fun b => f30 272 b (nr_X5_lengthOf_220__272 b)) (fun b => f30 274 b (nr_X5_lengthOf_220__274 b)) (fun b => f30 276 b (nr_X5_lengthOf_220__276 b)) (fun b => f30 278 b (nr_X5_lengthOf_220__278 b)) (f30 279 9 (by decide)) (fun b => f30 281 b (nr_X5_lengthOf_220__281 b)) (fun b => f30 283 b (nr_X5_lengthOf_220__283 b)) (fun b => f30 285 b (nr_X5_lengthOf_220__285 b)) (fun b => f30 287 b (nr_X5_lengthOf_220__287 b)) (fun b => f30 289 b (nr_X5_lengthOf_220__289 b)) (fun b => f30 291 b (nr_X5_lengthOf_220__291 b)) (fun b => f30 293 b (nr_X5_lengthOf_220__293 b)) (fun b => f30 295 b (nr_X5_lengthOf_220__295 b))
  have r40 := y_B0.fr o7.1.1 (f30 211 0 (by decide)) (f30 213 0 (by decide))
  exact T_ret ⟨c29, f31, (y_V3.u o34 (Or.inr r38)), (y_Y4.c r39), Or.inl (⟨x32, rfl, by omega, by omega⟩)⟩
abbrev P_X11_lines_1Y (r0 : z_M) : z_V → z_M → Prop := fun v s' => z_CI s' ∧ z_Fr R_X11_lines_1 r0 s' ∧ (y_V3 s') ∧ (y_Y4 s') ∧ ((∃ x, v = vI x ∧ -2147483648 ≤ x ∧ x ≤ 2147483647) ∨ v = vX 1)
theorem nr_X1_go_249__260 (b : Int) : ¬ R_X1_go_249 260 b := by
  unfold R_X1_go_249; omega
theorem nr_X1_go_249__262 (b : Int) : ¬ R_X1_go_249 262 b := by
  unfold R_X1_go_249; omega
theorem nr_X1_go_249__264 (b : Int) : ¬ R_X1_go_249 264 b := by
  unfold R_X1_go_249; omega
theorem nr_X1_go_249__266 (b : Int) : ¬ R_X1_go_249 266 b := by
  unfold R_X1_go_249; omega
theorem nr_X1_go_249__268 (b : Int) : ¬ R_X1_go_249 268 b := by
  unfold R_X1_go_249; omega
theorem nr_X1_go_249__270 (b : Int) : ¬ R_X1_go_249 270 b := by
  unfold R_X1_go_249; omega
theorem nr_X1_go_249__272 (b : Int) : ¬ R_X1_go_249 272 b := by
  unfold R_X1_go_249; omega
theorem nr_X1_go_249__274 (b : Int) : ¬ R_X1_go_249 274 b := by
  unfold R_X1_go_249; omega
theorem nr_X1_go_249__276 (b : Int) : ¬ R_X1_go_249 276 b := by
  unfold R_X1_go_249; omega
theorem nr_X1_go_249__278 (b : Int) : ¬ R_X1_go_249 278 b := by
  unfold R_X1_go_249; omega
theorem nr_X1_go_249__281 (b : Int) : ¬ R_X1_go_249 281 b := by
  unfold R_X1_go_249; omega
theorem nr_X1_go_249__283 (b : Int) : ¬ R_X1_go_249 283 b := by
  unfold R_X1_go_249; omega
theorem nr_X1_go_249__285 (b : Int) : ¬ R_X1_go_249 285 b := by
  unfold R_X1_go_249; omega
theorem nr_X1_go_249__287 (b : Int) : ¬ R_X1_go_249 287 b := by
  unfold R_X1_go_249; omega
theorem nr_X1_go_249__289 (b : Int) : ¬ R_X1_go_249 289 b := by
  unfold R_X1_go_249; omega
theorem nr_X1_go_249__291 (b : Int) : ¬ R_X1_go_249 291 b := by
  unfold R_X1_go_249; omega
theorem nr_X1_go_249__293 (b : Int) : ¬ R_X1_go_249 293 b := by
  unfold R_X1_go_249; omega
theorem nr_X1_go_249__295 (b : Int) : ¬ R_X1_go_249 295 b := by
  unfold R_X1_go_249; omega
set_option maxHeartbeats 4000000 in
theorem sf_X11_lines_1Y {fu : Nat} (hfu : 8589934592 ≤ fu) (r0 : z_M) (c0 : z_CI r0) (a1 : Int) (a2 : Int) (b1 : -2147483648 ≤ a1 ∧ a1 ≤ 2147483647) (b2 : -2147483648 ≤ a2 ∧ a2 ≤ 2147483647) (p0 : y_V3 r0) (p1 : y_Y4 r0) : z_T (fX11_lines fu r0 1 a1 a2) (P_X11_lines_1Y r0) := by
  refine T_of (fX11_lines.eq_1 ..) ?_
  refine T_pick (by decide) (fun x1 e2 b3 => ?_)
  have b4 : x1 = (12 : Int) := by rw [← e2]; decide +kernel
  refine T_pick (by decide) (fun x5 e6 b7 => ?_)
  have b8 : x5 = (999 : Int) := by rw [← e6]; decide +kernel
  refine T_if1 (by decide +kernel) ?_
  refine T_nw ?_ (fun h9 h10 => ?_)
  · exact T_ret ⟨CI_up c0 bd_1_15 (z_wb rfl).1, z_Fr.upf (R := R_X11_lines_1) z_Fr.rf (fun a b h => z_up_k h) (fun b h => z_up_j h) (Or.inr (Or.inr (Or.inr (Or.inr (Or.inr (Or.inr (Or.inr (Or.inr (Or.inr (Or.inl (⟨rfl, by decide⟩))))))))))), y_V3.fr p0 (z_up_j (by decide)) (z_up_j (by decide)) (z_up_k (by decide)) (z_up_k (by decide)) (z_up_k (by decide)) (z_up_k (by decide)) (fun _ => z_up_k (by decide)) (fun _ => z_up_k (by decide)) (fun _ => z_up_k (by decide)) (fun _ => z_up_k (by decide)) (fun _ => z_up_k (by decide)) (fun _ => z_up_k (by decide)) (fun _ => z_up_k (by decide)) (fun _ => z_up_k (by decide)) (fun _ => z_up_k (by decide)) (fun _ => z_up_k (by decide)) (fun _ => z_up_k (by decide)) (fun _ => z_up_k (by decide)) (fun _ => z_up_k (by decide)) (fun _ => z_up_k (by decide)) (fun _ => z_up_k (by decide)) (fun _ => z_up_k (by decide)) (fun _ => z_up_k (by decide)) (fun _ => z_up_k (by decide)) (fun _ => z_up_k (by decide)) (fun _ => z_up_k (by decide)) (fun _ => z_up_k (by decide)) (z_up_k (by decide)) (fun _ => z_up_k (by decide)), y_Y4.fr p1 (z_up_j (by decide)) (z_up_j (by decide)) (z_up_k (by decide)) (z_up_k (by decide)) (z_up_k (by decide)) (z_up_k (by decide)) (fun _ => z_up_k (by decide)) (fun _ => z_up_k (by decide)) (fun _ => z_up_k (by decide)) (fun _ => z_up_k (by decide)) (fun _ => z_up_k (by decide)) (fun _ => z_up_k (by decide)) (fun _ => z_up_k (by decide)) (fun _ => z_up_k (by decide)) (fun _ => z_up_k (by decide)) (fun _ => z_up_k (by decide)) (fun _ => z_up_k (by decide)) (fun _ => z_up_k (by decide)) (fun _ => z_up_k (by decide)) (fun _ => z_up_k (by decide)) (fun _ => z_up_k (by decide)) (fun _ => z_up_k (by decide)) (fun _ => z_up_k (by decide)) (fun _ => z_up_k (by decide)) (fun _ => z_up_k (by decide)) (fun _ => z_up_k (by decide)) (z_up_k (by decide)) (fun _ => z_up_k (by decide)) (fun _ => z_up_k (by decide)) (fun _ => z_up_k (by decide)) (fun _ => z_up_k (by decide)) (fun _ => z_up_k (by decide)) (fun _ => z_up_k (by decide)) (fun _ => z_up_k (by decide)) (fun _ => z_up_k (by decide)) (fun _ => z_up_k (by decide)) (fun _ => z_up_k (by decide)) (fun _ => z_up_k (by decide)) (z_up_k (by decide)) (fun _ => z_up_k (by decide)) (fun _ => z_up_k (by decide)) (fun _ => z_up_k (by decide)) (fun _ => z_up_k (by decide)) (fun _ => z_up_k (by decide)) (fun _ => z_up_k (by decide)) (fun _ => z_up_k (by decide)) (fun _ => z_up_k (by decide)), Or.inr rfl⟩
  refine T_if1 (by decide +kernel) ?_
  refine T_nw ?_ (fun h11 h12 => ?_)
  · exact T_ret ⟨CI_up c0 bd_1_15 (z_wb rfl).1, z_Fr.upf (R := R_X11_lines_1) z_Fr.rf (fun a b h => z_up_k h) (fun b h => z_up_j h) (Or.inr (Or.inr (Or.inr (Or.inr (Or.inr (Or.inr (Or.inr (Or.inr (Or.inr (Or.inl (⟨rfl, by decide⟩))))))))))), y_V3.fr p0 (z_up_j (by decide)) (z_up_j (by decide)) (z_up_k (by decide)) (z_up_k (by decide)) (z_up_k (by decide)) (z_up_k (by decide)) (fun _ => z_up_k (by decide)) (fun _ => z_up_k (by decide)) (fun _ => z_up_k (by decide)) (fun _ => z_up_k (by decide)) (fun _ => z_up_k (by decide)) (fun _ => z_up_k (by decide)) (fun _ => z_up_k (by decide)) (fun _ => z_up_k (by decide)) (fun _ => z_up_k (by decide)) (fun _ => z_up_k (by decide)) (fun _ => z_up_k (by decide)) (fun _ => z_up_k (by decide)) (fun _ => z_up_k (by decide)) (fun _ => z_up_k (by decide)) (fun _ => z_up_k (by decide)) (fun _ => z_up_k (by decide)) (fun _ => z_up_k (by decide)) (fun _ => z_up_k (by decide)) (fun _ => z_up_k (by decide)) (fun _ => z_up_k (by decide)) (fun _ => z_up_k (by decide)) (z_up_k (by decide)) (fun _ => z_up_k (by decide)), y_Y4.fr p1 (z_up_j (by decide)) (z_up_j (by decide)) (z_up_k (by decide)) (z_up_k (by decide)) (z_up_k (by decide)) (z_up_k (by decide)) (fun _ => z_up_k (by decide)) (fun _ => z_up_k (by decide)) (fun _ => z_up_k (by decide)) (fun _ => z_up_k (by decide)) (fun _ => z_up_k (by decide)) (fun _ => z_up_k (by decide)) (fun _ => z_up_k (by decide)) (fun _ => z_up_k (by decide)) (fun _ => z_up_k (by decide)) (fun _ => z_up_k (by decide)) (fun _ => z_up_k (by decide)) (fun _ => z_up_k (by decide)) (fun _ => z_up_k (by decide)) (fun _ => z_up_k (by decide)) (fun _ => z_up_k (by decide)) (fun _ => z_up_k (by decide)) (fun _ => z_up_k (by decide)) (fun _ => z_up_k (by decide)) (fun _ => z_up_k (by decide)) (fun _ => z_up_k (by decide)) (z_up_k (by decide)) (fun _ => z_up_k (by decide)) (fun _ => z_up_k (by decide)) (fun _ => z_up_k (by decide)) (fun _ => z_up_k (by decide)) (fun _ => z_up_k (by decide)) (fun _ => z_up_k (by decide)) (fun _ => z_up_k (by decide)) (fun _ => z_up_k (by decide)) (fun _ => z_up_k (by decide)) (fun _ => z_up_k (by decide)) (fun _ => z_up_k (by decide)) (z_up_k (by decide)) (fun _ => z_up_k (by decide)) (fun _ => z_up_k (by decide)) (fun _ => z_up_k (by decide)) (fun _ => z_up_k (by decide)) (fun _ => z_up_k (by decide)) (fun _ => z_up_k (by decide)) (fun _ => z_up_k (by decide)) (fun _ => z_up_k (by decide)), Or.inr rfl⟩
  refine T_if1 (by decide +kernel) ?_
  refine T_useN (sf_X11_refresh_1Y hfu r0 c0 p0 p1) (fun v18 s13 hq => ?_)
  obtain ⟨c14, f15, o19, o20, o21, rfl⟩ := hq
  refine T_vN ?_
  have f16 := z_Fr.tr (R := R_X11_lines_1) z_Fr.rf f15 rs_X11_refresh_1__X11_lines_1
  have t24 : s13 249 6 = r0 249 6 := f15 249 6 (by decide)
  refine T_if1 (by decide +kernel) ?_
  refine T_let 249 (by decide +kernel) ?_
  refine T_if1 (by decide +kernel) ?_
  refine T_useN (sf_X1_go_249K hfu s13 c14 a1 a2 (by omega) (by omega) o19 (by first | exact y_LNr.i (by omega) | exact y_LNr.t (by assumption) rfl | exact y_LNr.t (by assumption) (by omega))) (fun v30 s25 hq => ?_)
  obtain ⟨c26, f27, o31, o32, rfl⟩ := hq
  refine T_vN ?_
  have f28 := z_Fr.tr (R := R_X11_lines_1) f16 f27 rs_X1_go_249__X11_lines_1
  have u35 := CI_b c26 (k := 249) (j := 6) bd_249_6
  have r36 := y_SA.fr o20 (f27 191 16 (by decide)) (f27 6 6 (by decide)) (f27 191 17 (by decide)) (f27 191 18 (by decide)) (fun b => f27 3 b (nr_X1_go_249__3 b)) (fun b => f27 8 b (nr_X1_go_249__8 b)) (fun b => f27 12 b (nr_X1_go_249__12 b)) (fun b => f27 14 b (nr_X1_go_249__14 b)) (fun b => f27 16 b (nr_X1_go_249__16 b)) (fun b => f27 18 b (nr_X1_go_249__18 b)) (fun b => f27 193 b (nr_X1_go_249__193 b)) (fun b => f27 195 b (nr_X1_go_249__195 b)) (fun b => f27 197 b (nr_X1_go_249__197 b)) (fun b => f27 199 b (nr_X1_go_249__199 b)) (fun b => f27 201 b (nr_X1_go_249__201 b)) (fun b => f27 203 b (nr_X1_go_249__203 b)) (fun b => f27 205 b (nr_X1_go_249__205 b)) (fun b => f27 207 b (nr_X1_go_249__207 b)) (fun b => f27 209 b (nr_X1_go_249__209 b)) (fun b => f27 211 b (nr_X1_go_249__211 b)) (fun b => f27 213 b (nr_X1_go_249__213 b)) (fun b => f27 215 b (nr_X1_go_249__215 b)) (fun b => f27 217 b (nr_X1_go_249__217 b)) (fun b => f27 219 b (nr_X1_go_249__219 b)) (f27 240 6 (by decide)) (fun b => f27 248 b (nr_X1_go_249__248 b))
  have r37 := y_YC.fr o21 (f27 191 16 (by decide)) (f27 6 6 (by decide)) (f27 191 17 (by decide)) (f27 191 18 (by decide)) (fun b => f27 3 b (nr_X1_go_249__3 b)) (fun b => f27 8 b (nr_X1_go_249__8 b)) (fun b => f27 12 b (nr_X1_go_249__12 b)) (fun b => f27 14 b (nr_X1_go_249__14 b)) (fun b => f27 16 b (nr_X1_go_249__16 b)) (fun b => f27 18 b (nr_X1_go_249__18 b)) (fun b => f27 193 b (nr_X1_go_249__193 b)) (fun b => f27 195 b (nr_X1_go_249__195 b)) (fun b => f27 197 b (nr_X1_go_249__197 b)) (fun b => f27 199 b (nr_X1_go_249__199 b)) (fun b => f27 201 b (nr_X1_go_249__201 b)) (fun b => f27 203 b (nr_X1_go_249__203 b)) (fun b => f27 205 b (nr_X1_go_249__205 b)) (fun b => f27 207 b (nr_X1_go_249__207 b)) (fun b => f27 209 b (nr_X1_go_249__209 b)) (fun b => f27 211 b (nr_X1_go_249__211 b)) (fun b => f27 213 b (nr_X1_go_249__213 b)) (fun b => f27 215 b (nr_X1_go_249__215 b)) (fun b => f27 217 b (nr_X1_go_249__217 b)) (fun b => f27 219 b (nr_X1_go_249__219 b)) (f27 240 6 (by decide)) (fun b => f27 248 b (nr_X1_go_249__248 b)) (fun b => f27 260 b (nr_X1_go_249__260 b)) (fun b => f27 262 b (nr_X1_go_249__262 b)) (fun b => f27 264 b (nr_X1_go_249__264 b)) (fun b => f27 266 b (nr_X1_go_249__266 b)) (fun b => f27 268 b (nr_X1_go_249__268 b)) (fun b => f27 270 b (nr_X1_go_249__270 b)) (fun b => f27 272 b (nr_X1_go_249__272 b)) (fun b => f27 274 b (nr_X1_go_249__274 b)) (fun b => f27 276 b (nr_X1_go_249__276 b)) (fun b => f27 278 b (nr_X1_go_249__278 b)) (f27 279 9 (by decide)) (fun b => f27 281 b (nr_X1_go_249__281 b)) (fun b => f27 283 b (nr_X1_go_249__283 b)) (fun b => f27 285 b (nr_X1_go_249__285 b)) (fun b => f27 287 b (nr_X1_go_249__287 b)) (fun b => f27 289 b (nr_X1_go_249__289 b)) (fun b => f27 291 b (nr_X1_go_249__291 b)) (fun b => f27 293 b (nr_X1_go_249__293 b)) (fun b => f27 295 b (nr_X1_go_249__295 b))
  have r38 := y_B0.fr o19.1.1 (f27 211 0 (by decide)) (f27 213 0 (by decide))
  refine T_if1 (by decide +kernel) ?_
  refine T_let 249 (by decide +kernel) ?_
  refine T_if1 (by decide +kernel) ?_
  refine T_leq (fun x39 e40 => ?_)
  have u41 := CI_b c26 (k := 249) (j := 6) bd_249_6
  exact T_ret ⟨c26, f28, (y_V3.u o31 (Or.inr r36)), (y_Y4.c r37), Or.inl (⟨x39, rfl, by omega, by omega⟩)⟩
abbrev P_X11_least_1Y (r0 : z_M) : z_V → z_M → Prop := fun v s' => z_CI s' ∧ z_Fr R_X11_least_1 r0 s' ∧ (y_V3 s') ∧ (y_Y4 s') ∧ ((∃ x, v = vI x ∧ -2147483648 ≤ x ∧ x ≤ 2147483647) ∨ v = vX 1)
theorem nr_X11_shortestFor_1__260 (b : Int) : ¬ R_X11_shortestFor_1 260 b := by
  unfold R_X11_shortestFor_1; omega
theorem nr_X11_shortestFor_1__262 (b : Int) : ¬ R_X11_shortestFor_1 262 b := by
  unfold R_X11_shortestFor_1; omega
theorem nr_X11_shortestFor_1__264 (b : Int) : ¬ R_X11_shortestFor_1 264 b := by
  unfold R_X11_shortestFor_1; omega
theorem nr_X11_shortestFor_1__266 (b : Int) : ¬ R_X11_shortestFor_1 266 b := by
  unfold R_X11_shortestFor_1; omega
theorem nr_X11_shortestFor_1__268 (b : Int) : ¬ R_X11_shortestFor_1 268 b := by
  unfold R_X11_shortestFor_1; omega
theorem nr_X11_shortestFor_1__270 (b : Int) : ¬ R_X11_shortestFor_1 270 b := by
  unfold R_X11_shortestFor_1; omega
theorem nr_X11_shortestFor_1__272 (b : Int) : ¬ R_X11_shortestFor_1 272 b := by
  unfold R_X11_shortestFor_1; omega
theorem nr_X11_shortestFor_1__274 (b : Int) : ¬ R_X11_shortestFor_1 274 b := by
  unfold R_X11_shortestFor_1; omega
theorem nr_X11_shortestFor_1__276 (b : Int) : ¬ R_X11_shortestFor_1 276 b := by
  unfold R_X11_shortestFor_1; omega
theorem nr_X11_shortestFor_1__278 (b : Int) : ¬ R_X11_shortestFor_1 278 b := by
  unfold R_X11_shortestFor_1; omega
theorem nr_X11_shortestFor_1__281 (b : Int) : ¬ R_X11_shortestFor_1 281 b := by
  unfold R_X11_shortestFor_1; omega
theorem nr_X11_shortestFor_1__283 (b : Int) : ¬ R_X11_shortestFor_1 283 b := by
  unfold R_X11_shortestFor_1; omega
theorem nr_X11_shortestFor_1__285 (b : Int) : ¬ R_X11_shortestFor_1 285 b := by
  unfold R_X11_shortestFor_1; omega
theorem nr_X11_shortestFor_1__287 (b : Int) : ¬ R_X11_shortestFor_1 287 b := by
  unfold R_X11_shortestFor_1; omega
theorem nr_X11_shortestFor_1__289 (b : Int) : ¬ R_X11_shortestFor_1 289 b := by
  unfold R_X11_shortestFor_1; omega
theorem nr_X11_shortestFor_1__291 (b : Int) : ¬ R_X11_shortestFor_1 291 b := by
  unfold R_X11_shortestFor_1; omega
theorem nr_X11_shortestFor_1__293 (b : Int) : ¬ R_X11_shortestFor_1 293 b := by
  unfold R_X11_shortestFor_1; omega
theorem nr_X11_shortestFor_1__295 (b : Int) : ¬ R_X11_shortestFor_1 295 b := by
  unfold R_X11_shortestFor_1; omega
theorem sj_X11_least_1Y_J80 {fu : Nat} (hfu : 8589934592 ≤ fu) (r0 s : z_M) (c : z_CI s) (f : z_Fr R_X11_least_1 r0 s) (a1 : Int) (a2 : Int) (a3 : Int) (a4 : Int) (b1 : -2147483648 ≤ a1 ∧ a1 ≤ 2147483647) (b2 : -2147483648 ≤ a2 ∧ a2 ≤ 2147483647) (b3 : 999 ≤ a3 ∧ a3 ≤ 999) (b4 : 12 ≤ a4 ∧ a4 ≤ 999) (p0 : y_U3 s) (p1 : y_SV 240 s) (p2 : y_YC s) (M : Int) (pm : 2147483647 - a4 ≤ M) {r : z_M → Int → z_O} {k : z_M → z_O} (hr : ∀ (s' : z_M) (v4 : Int), z_CI s' → z_Fr R_X11_least_1 r0 s' → (12 ≤ v4 ∧ v4 ≤ 1000) → (y_U3 s') → (y_SV 240 s') → (y_YC s') → (2147483647 - v4 < M) → z_T (r s' v4) (P_X11_least_1Y r0)) (hk : ∀ (s' : z_M), z_CI s' → z_Fr R_X11_least_1 r0 s' → (y_V3 s') → (y_Y4 s') → z_T (k s') (P_X11_least_1Y r0)) : z_T (fX11_least_J80 fu s 1 a1 a2 a3 a4 r k) (P_X11_least_1Y r0) := by
  refine T_of (fX11_least_J80.eq_1 ..) ?_
  have u1 := CI_b c (k := 249) (j := 6) bd_249_6
  refine T_leq (fun x2 e3 => ?_)
  have w4 := z_wb e3
  exact hr s x2 c f (by omega) p0 p1 p2 (by omega)
theorem nr_X1_tooLong_249__260 (b : Int) : ¬ R_X1_tooLong_249 260 b := by
  unfold R_X1_tooLong_249; omega
theorem nr_X1_tooLong_249__262 (b : Int) : ¬ R_X1_tooLong_249 262 b := by
  unfold R_X1_tooLong_249; omega
theorem nr_X1_tooLong_249__264 (b : Int) : ¬ R_X1_tooLong_249 264 b := by
  unfold R_X1_tooLong_249; omega
theorem nr_X1_tooLong_249__266 (b : Int) : ¬ R_X1_tooLong_249 266 b := by
  unfold R_X1_tooLong_249; omega
theorem nr_X1_tooLong_249__268 (b : Int) : ¬ R_X1_tooLong_249 268 b := by
  unfold R_X1_tooLong_249; omega
theorem nr_X1_tooLong_249__270 (b : Int) : ¬ R_X1_tooLong_249 270 b := by
  unfold R_X1_tooLong_249; omega
theorem nr_X1_tooLong_249__272 (b : Int) : ¬ R_X1_tooLong_249 272 b := by
  unfold R_X1_tooLong_249; omega
theorem nr_X1_tooLong_249__274 (b : Int) : ¬ R_X1_tooLong_249 274 b := by
  unfold R_X1_tooLong_249; omega
theorem nr_X1_tooLong_249__276 (b : Int) : ¬ R_X1_tooLong_249 276 b := by
  unfold R_X1_tooLong_249; omega
theorem nr_X1_tooLong_249__278 (b : Int) : ¬ R_X1_tooLong_249 278 b := by
  unfold R_X1_tooLong_249; omega
theorem nr_X1_tooLong_249__281 (b : Int) : ¬ R_X1_tooLong_249 281 b := by
  unfold R_X1_tooLong_249; omega
theorem nr_X1_tooLong_249__283 (b : Int) : ¬ R_X1_tooLong_249 283 b := by
  unfold R_X1_tooLong_249; omega
theorem nr_X1_tooLong_249__285 (b : Int) : ¬ R_X1_tooLong_249 285 b := by
  unfold R_X1_tooLong_249; omega
theorem nr_X1_tooLong_249__287 (b : Int) : ¬ R_X1_tooLong_249 287 b := by
  unfold R_X1_tooLong_249; omega
theorem nr_X1_tooLong_249__289 (b : Int) : ¬ R_X1_tooLong_249 289 b := by
  unfold R_X1_tooLong_249; omega
theorem nr_X1_tooLong_249__291 (b : Int) : ¬ R_X1_tooLong_249 291 b := by
  unfold R_X1_tooLong_249; omega
theorem nr_X1_tooLong_249__293 (b : Int) : ¬ R_X1_tooLong_249 293 b := by
  unfold R_X1_tooLong_249; omega
theorem nr_X1_tooLong_249__295 (b : Int) : ¬ R_X1_tooLong_249 295 b := by
  unfold R_X1_tooLong_249; omega
set_option maxHeartbeats 4000000 in
theorem sl_X11_least_1Y_L38 {fu : Nat} (hfu : 8589934592 ≤ fu) (r0 : z_M) (a1 : Int) (a2 : Int) (a3 : Int) (b1 : -2147483648 ≤ a1 ∧ a1 ≤ 2147483647) (b2 : -2147483648 ≤ a2 ∧ a2 ≤ 2147483647) (b3 : 999 ≤ a3 ∧ a3 ≤ 999) {k : z_M → z_O} (hk : ∀ (s' : z_M), z_CI s' → z_Fr R_X11_least_1 r0 s' → (y_V3 s') → (y_Y4 s') → z_T (k s') (P_X11_least_1Y r0)) : ∀ (F : Nat) (s : z_M) (a4 : Int), z_CI s → z_Fr R_X11_least_1 r0 s → (12 ≤ a4 ∧ a4 ≤ 1000) → (y_U3 s) → (y_SV 240 s) → (y_YC s) → (2147483647 - a4 < (F : Int)) → z_T (fX11_least_L38 fu 1 a1 a2 a3 F s a4 k) (P_X11_least_1Y r0) := by
  intro F
  induction F with
  | zero =>
    intro s a4 c f b4 i0 i1 i2 hm
    have u36 := CI_b c (k := 249) (j := 6) bd_249_6
    exfalso; omega
  | succ F ih =>
    intro s a4 c f b4 i0 i1 i2 hm
    refine T_of (fX11_least_L38.eq_2 ..) ?_
    have u1 := CI_b c (k := 249) (j := 6) bd_249_6
    refine T_ite (fun h2 => ?_) (fun h2 => ?_)
    · exact hk s c f (y_V3.u i0 (Or.inr i1)) (y_Y4.c i2)
    · refine T_if1 (by decide +kernel) ?_
      refine T_let 249 (by decide +kernel) ?_
      refine T_if1 (by decide +kernel) ?_
      refine T_useN (sf_X1_go_249K hfu s c a4 a2 (by omega) (by omega) i0 (by first | exact y_LNr.i (by omega) | exact y_LNr.t (by assumption) rfl | exact y_LNr.t (by assumption) (by omega))) (fun v8 s3 hq => ?_)
      obtain ⟨c4, f5, o9, o10, rfl⟩ := hq
      refine T_vN ?_
      have f6 := z_Fr.tr (R := R_X11_least_1) f f5 rs_X1_go_249__X11_least_1
      have u13 := CI_b c4 (k := 249) (j := 6) bd_249_6
      have r14 := y_SA.fr i1 (f5 191 16 (by decide)) (f5 6 6 (by decide)) (f5 191 17 (by decide)) (f5 191 18 (by decide)) (fun b => f5 3 b (nr_X1_go_249__3 b)) (fun b => f5 8 b (nr_X1_go_249__8 b)) (fun b => f5 12 b (nr_X1_go_249__12 b)) (fun b => f5 14 b (nr_X1_go_249__14 b)) (fun b => f5 16 b (nr_X1_go_249__16 b)) (fun b => f5 18 b (nr_X1_go_249__18 b)) (fun b => f5 193 b (nr_X1_go_249__193 b)) (fun b => f5 195 b (nr_X1_go_249__195 b)) (fun b => f5 197 b (nr_X1_go_249__197 b)) (fun b => f5 199 b (nr_X1_go_249__199 b)) (fun b => f5 201 b (nr_X1_go_249__201 b)) (fun b => f5 203 b (nr_X1_go_249__203 b)) (fun b => f5 205 b (nr_X1_go_249__205 b)) (fun b => f5 207 b (nr_X1_go_249__207 b)) (fun b => f5 209 b (nr_X1_go_249__209 b)) (fun b => f5 211 b (nr_X1_go_249__211 b)) (fun b => f5 213 b (nr_X1_go_249__213 b)) (fun b => f5 215 b (nr_X1_go_249__215 b)) (fun b => f5 217 b (nr_X1_go_249__217 b)) (fun b => f5 219 b (nr_X1_go_249__219 b)) (f5 240 6 (by decide)) (fun b => f5 248 b (nr_X1_go_249__248 b))
      have r15 := y_YC.fr i2 (f5 191 16 (by decide)) (f5 6 6 (by decide)) (f5 191 17 (by decide)) (f5 191 18 (by decide)) (fun b => f5 3 b (nr_X1_go_249__3 b)) (fun b => f5 8 b (nr_X1_go_249__8 b)) (fun b => f5 12 b (nr_X1_go_249__12 b)) (fun b => f5 14 b (nr_X1_go_249__14 b)) (fun b => f5 16 b (nr_X1_go_249__16 b)) (fun b => f5 18 b (nr_X1_go_249__18 b)) (fun b => f5 193 b (nr_X1_go_249__193 b)) (fun b => f5 195 b (nr_X1_go_249__195 b)) (fun b => f5 197 b (nr_X1_go_249__197 b)) (fun b => f5 199 b (nr_X1_go_249__199 b)) (fun b => f5 201 b (nr_X1_go_249__201 b)) (fun b => f5 203 b (nr_X1_go_249__203 b)) (fun b => f5 205 b (nr_X1_go_249__205 b)) (fun b => f5 207 b (nr_X1_go_249__207 b)) (fun b => f5 209 b (nr_X1_go_249__209 b)) (fun b => f5 211 b (nr_X1_go_249__211 b)) (fun b => f5 213 b (nr_X1_go_249__213 b)) (fun b => f5 215 b (nr_X1_go_249__215 b)) (fun b => f5 217 b (nr_X1_go_249__217 b)) (fun b => f5 219 b (nr_X1_go_249__219 b)) (f5 240 6 (by decide)) (fun b => f5 248 b (nr_X1_go_249__248 b)) (fun b => f5 260 b (nr_X1_go_249__260 b)) (fun b => f5 262 b (nr_X1_go_249__262 b)) (fun b => f5 264 b (nr_X1_go_249__264 b)) (fun b => f5 266 b (nr_X1_go_249__266 b)) (fun b => f5 268 b (nr_X1_go_249__268 b)) (fun b => f5 270 b (nr_X1_go_249__270 b)) (fun b => f5 272 b (nr_X1_go_249__272 b)) (fun b => f5 274 b (nr_X1_go_249__274 b)) (fun b => f5 276 b (nr_X1_go_249__276 b)) (fun b => f5 278 b (nr_X1_go_249__278 b)) (f5 279 9 (by decide)) (fun b => f5 281 b (nr_X1_go_249__281 b)) (fun b => f5 283 b (nr_X1_go_249__283 b)) (fun b => f5 285 b (nr_X1_go_249__285 b)) (fun b => f5 287 b (nr_X1_go_249__287 b)) (fun b => f5 289 b (nr_X1_go_249__289 b)) (fun b => f5 291 b (nr_X1_go_249__291 b)) (fun b => f5 293 b (nr_X1_go_249__293 b)) (fun b => f5 295 b (nr_X1_go_249__295 b))
      have r16 := y_B0.fr i0.1.1 (f5 211 0 (by decide)) (f5 213 0 (by decide))
      refine T_if1 (by decide +kernel) ?_
      refine T_let 249 (by decide +kernel) ?_
      refine T_if1 (by decide +kernel) ?_
      refine T_leq (fun x17 e18 => ?_)
      have u19 := CI_b c4 (k := 249) (j := 6) bd_249_6
      refine T_ite (fun h20 => ?_) (fun h20 => ?_)
      · exact sj_X11_least_1Y_J80 hfu r0 s3 c4 f6 a1 a2 a3 a4 (by omega) (by omega) (by omega) (by omega) o9 r14 r15 (2147483647 - a4) (by omega) (fun s' v4 c' f' w4 z0 z1 z2 pg => ih s' v4 c' f' w4 z0 z1 z2 (by omega)) hk
      · refine T_if1 (by decide +kernel) ?_
        refine T_let 249 (by decide +kernel) ?_
        refine T_if1 (by decide +kernel) ?_
        refine T_useI (sf_X1_tooLong_249K hfu s3 c4 a4 (by omega) o9 o10) (fun v26 s21 hq => ?_)
        obtain ⟨c22, f23, o27, ⟨x25, rfl, b28, b29⟩⟩ := hq
        refine T_vI ?_
        have f24 := z_Fr.tr (R := R_X11_least_1) f6 f23 rs_X1_tooLong_249__X11_least_1
        have t30 : s21 249 6 = s3 249 6 := f23 249 6 (by decide)
        have r31 := y_SA.fr r14 (f23 191 16 (by decide)) (f23 6 6 (by decide)) (f23 191 17 (by decide)) (f23 191 18 (by decide)) (fun b => f23 3 b (nr_X1_tooLong_249__3 b)) (fun b => f23 8 b (nr_X1_tooLong_249__8 b)) (fun b => f23 12 b (nr_X1_tooLong_249__12 b)) (fun b => f23 14 b (nr_X1_tooLong_249__14 b)) (fun b => f23 16 b (nr_X1_tooLong_249__16 b)) (fun b => f23 18 b (nr_X1_tooLong_249__18 b)) (fun b => f23 193 b (nr_X1_tooLong_249__193 b)) (fun b => f23 195 b (nr_X1_tooLong_249__195 b)) (fun b => f23 197 b (nr_X1_tooLong_249__197 b)) (fun b => f23 199 b (nr_X1_tooLong_249__199 b)) (fun b => f23 201 b (nr_X1_tooLong_249__201 b)) (fun b => f23 203 b (nr_X1_tooLong_249__203 b)) (fun b => f23 205 b (nr_X1_tooLong_249__205 b)) (fun b => f23 207 b (nr_X1_tooLong_249__207 b)) (fun b => f23 209 b (nr_X1_tooLong_249__209 b)) (fun b => f23 211 b (nr_X1_tooLong_249__211 b)) (fun b => f23 213 b (nr_X1_tooLong_249__213 b)) (fun b => f23 215 b (nr_X1_tooLong_249__215 b)) (fun b => f23 217 b (nr_X1_tooLong_249__217 b)) (fun b => f23 219 b (nr_X1_tooLong_249__219 b)) (f23 240 6 (by decide)) (fun b => f23 248 b (nr_X1_tooLong_249__248 b))
        have r32 := y_YC.fr r15 (f23 191 16 (by decide)) (f23 6 6 (by decide)) (f23 191 17 (by decide)) (f23 191 18 (by decide)) (fun b => f23 3 b (nr_X1_tooLong_249__3 b)) (fun b => f23 8 b (nr_X1_tooLong_249__8 b)) (fun b => f23 12 b (nr_X1_tooLong_249__12 b)) (fun b => f23 14 b (nr_X1_tooLong_249__14 b)) (fun b => f23 16 b (nr_X1_tooLong_249__16 b)) (fun b => f23 18 b (nr_X1_tooLong_249__18 b)) (fun b => f23 193 b (nr_X1_tooLong_249__193 b)) (fun b => f23 195 b (nr_X1_tooLong_249__195 b)) (fun b => f23 197 b (nr_X1_tooLong_249__197 b)) (fun b => f23 199 b (nr_X1_tooLong_249__199 b)) (fun b => f23 201 b (nr_X1_tooLong_249__201 b)) (fun b => f23 203 b (nr_X1_tooLong_249__203 b)) (fun b => f23 205 b (nr_X1_tooLong_249__205 b)) (fun b => f23 207 b (nr_X1_tooLong_249__207 b)) (fun b => f23 209 b (nr_X1_tooLong_249__209 b)) (fun b => f23 211 b (nr_X1_tooLong_249__211 b)) (fun b => f23 213 b (nr_X1_tooLong_249__213 b)) (fun b => f23 215 b (nr_X1_tooLong_249__215 b)) (fun b => f23 217 b (nr_X1_tooLong_249__217 b)) (fun b => f23 219 b (nr_X1_tooLong_249__219 b)) (f23 240 6 (by decide)) (fun b => f23 248 b (nr_X1_tooLong_249__248 b)) (fun b => f23 260 b (nr_X1_tooLong_249__260 b)) (fun b => f23 262 b (nr_X1_tooLong_249__262 b)) (fun b => f23 264 b (nr_X1_tooLong_249__264 b)) (fun b => f23 266 b (nr_X1_tooLong_249__266 b)) (fun b => f23 268 b (nr_X1_tooLong_249__268 b)) (fun b => f23 270 b (nr_X1_tooLong_249__270 b)) (fun b => f23 272 b (nr_X1_tooLong_249__272 b)) (fun b => f23 274 b (nr_X1_tooLong_249__274 b)) (fun b => f23 276 b (nr_X1_tooLong_249__276 b)) (fun b => f23 278 b (nr_X1_tooLong_249__278 b)) (f23 279 9 (by decide)) (fun b => f23 281 b (nr_X1_tooLong_249__281 b)) (fun b => f23 283 b (nr_X1_tooLong_249__283 b)) (fun b => f23 285 b (nr_X1_tooLong_249__285 b)) (fun b => f23 287 b (nr_X1_tooLong_249__287 b)) (fun b => f23 289 b (nr_X1_tooLong_249__289 b)) (fun b => f23 291 b (nr_X1_tooLong_249__291 b)) (fun b => f23 293 b (nr_X1_tooLong_249__293 b)) (fun b => f23 295 b (nr_X1_tooLong_249__295 b))
        have r33 := y_B0.fr o9.1.1 (f23 211 0 (by decide)) (f23 213 0 (by decide))
        have r34 := y_SV.fr o10 (f23 191 16 (by decide)) (f23 6 6 (by decide)) (f23 191 17 (by decide)) (f23 191 18 (by decide)) (fun b => f23 3 b (nr_X1_tooLong_249__3 b)) (fun b => f23 8 b (nr_X1_tooLong_249__8 b)) (fun b => f23 12 b (nr_X1_tooLong_249__12 b)) (fun b => f23 14 b (nr_X1_tooLong_249__14 b)) (fun b => f23 16 b (nr_X1_tooLong_249__16 b)) (fun b => f23 18 b (nr_X1_tooLong_249__18 b)) (fun b => f23 193 b (nr_X1_tooLong_249__193 b)) (fun b => f23 195 b (nr_X1_tooLong_249__195 b)) (fun b => f23 197 b (nr_X1_tooLong_249__197 b)) (fun b => f23 199 b (nr_X1_tooLong_249__199 b)) (fun b => f23 201 b (nr_X1_tooLong_249__201 b)) (fun b => f23 203 b (nr_X1_tooLong_249__203 b)) (fun b => f23 205 b (nr_X1_tooLong_249__205 b)) (fun b => f23 207 b (nr_X1_tooLong_249__207 b)) (fun b => f23 209 b (nr_X1_tooLong_249__209 b)) (fun b => f23 211 b (nr_X1_tooLong_249__211 b)) (fun b => f23 213 b (nr_X1_tooLong_249__213 b)) (fun b => f23 215 b (nr_X1_tooLong_249__215 b)) (fun b => f23 217 b (nr_X1_tooLong_249__217 b)) (fun b => f23 219 b (nr_X1_tooLong_249__219 b)) (f23 240 6 (by decide)) (fun b => f23 248 b (nr_X1_tooLong_249__248 b)) (f23 249 6 (by decide)) (fun b => f23 257 b (nr_X1_tooLong_249__257 b))
        refine T_ite (fun h35 => ?_) (fun h35 => ?_)
        · exact sj_X11_least_1Y_J80 hfu r0 s21 c22 f24 a1 a2 a3 a4 (by omega) (by omega) (by omega) (by omega) o27 r31 r32 (2147483647 - a4) (by omega) (fun s' v4 c' f' w4 z0 z1 z2 pg => ih s' v4 c' f' w4 z0 z1 z2 (by omega)) hk
        · exact T_ret ⟨c22, f24, (y_V3.u o27 (Or.inr r31)), (y_Y4.c r32), Or.inl (⟨a4, rfl, by omega, by omega⟩)⟩
theorem sf_X11_least_1Y {fu : Nat} (hfu : 8589934592 ≤ fu) (r0 : z_M) (c0 : z_CI r0) (a1 : Int) (b1 : -2147483648 ≤ a1 ∧ a1 ≤ 2147483647) (p0 : y_V3 r0) (p1 : y_Y4 r0) : z_T (fX11_least fu r0 1 a1) (P_X11_least_1Y r0) := by
  refine T_of (fX11_least.eq_1 ..) ?_
  refine T_if1 (by decide +kernel) ?_
  refine T_nw ?_ (fun h1 h2 => ?_)
  · exact T_ret ⟨CI_up c0 bd_1_15 (z_wb rfl).1, z_Fr.upf (R := R_X11_least_1) z_Fr.rf (fun a b h => z_up_k h) (fun b h => z_up_j h) (Or.inr (Or.inr (Or.inr (Or.inr (Or.inr (Or.inr (Or.inr (Or.inr (Or.inl (⟨rfl, by decide⟩)))))))))), y_V3.fr p0 (z_up_j (by decide)) (z_up_j (by decide)) (z_up_k (by decide)) (z_up_k (by decide)) (z_up_k (by decide)) (z_up_k (by decide)) (fun _ => z_up_k (by decide)) (fun _ => z_up_k (by decide)) (fun _ => z_up_k (by decide)) (fun _ => z_up_k (by decide)) (fun _ => z_up_k (by decide)) (fun _ => z_up_k (by decide)) (fun _ => z_up_k (by decide)) (fun _ => z_up_k (by decide)) (fun _ => z_up_k (by decide)) (fun _ => z_up_k (by decide)) (fun _ => z_up_k (by decide)) (fun _ => z_up_k (by decide)) (fun _ => z_up_k (by decide)) (fun _ => z_up_k (by decide)) (fun _ => z_up_k (by decide)) (fun _ => z_up_k (by decide)) (fun _ => z_up_k (by decide)) (fun _ => z_up_k (by decide)) (fun _ => z_up_k (by decide)) (fun _ => z_up_k (by decide)) (fun _ => z_up_k (by decide)) (z_up_k (by decide)) (fun _ => z_up_k (by decide)), y_Y4.fr p1 (z_up_j (by decide)) (z_up_j (by decide)) (z_up_k (by decide)) (z_up_k (by decide)) (z_up_k (by decide)) (z_up_k (by decide)) (fun _ => z_up_k (by decide)) (fun _ => z_up_k (by decide)) (fun _ => z_up_k (by decide)) (fun _ => z_up_k (by decide)) (fun _ => z_up_k (by decide)) (fun _ => z_up_k (by decide)) (fun _ => z_up_k (by decide)) (fun _ => z_up_k (by decide)) (fun _ => z_up_k (by decide)) (fun _ => z_up_k (by decide)) (fun _ => z_up_k (by decide)) (fun _ => z_up_k (by decide)) (fun _ => z_up_k (by decide)) (fun _ => z_up_k (by decide)) (fun _ => z_up_k (by decide)) (fun _ => z_up_k (by decide)) (fun _ => z_up_k (by decide)) (fun _ => z_up_k (by decide)) (fun _ => z_up_k (by decide)) (fun _ => z_up_k (by decide)) (z_up_k (by decide)) (fun _ => z_up_k (by decide)) (fun _ => z_up_k (by decide)) (fun _ => z_up_k (by decide)) (fun _ => z_up_k (by decide)) (fun _ => z_up_k (by decide)) (fun _ => z_up_k (by decide)) (fun _ => z_up_k (by decide)) (fun _ => z_up_k (by decide)) (fun _ => z_up_k (by decide)) (fun _ => z_up_k (by decide)) (fun _ => z_up_k (by decide)) (z_up_k (by decide)) (fun _ => z_up_k (by decide)) (fun _ => z_up_k (by decide)) (fun _ => z_up_k (by decide)) (fun _ => z_up_k (by decide)) (fun _ => z_up_k (by decide)) (fun _ => z_up_k (by decide)) (fun _ => z_up_k (by decide)) (fun _ => z_up_k (by decide)), Or.inr rfl⟩
  refine T_if1 (by decide +kernel) ?_
  refine T_useN (sf_X11_refresh_1Y hfu r0 c0 p0 p1) (fun v8 s3 hq => ?_)
  obtain ⟨c4, f5, o9, o10, o11, rfl⟩ := hq
  refine T_vN ?_
  have f6 := z_Fr.tr (R := R_X11_least_1) z_Fr.rf f5 rs_X11_refresh_1__X11_least_1
  have t14 : s3 249 6 = r0 249 6 := f5 249 6 (by decide)
  refine T_if1 (by decide +kernel) ?_
  refine T_let 2 (by decide +kernel) ?_
  refine T_if1 (by decide +kernel) ?_
  refine T_get (by decide +kernel) (c := 3) (by decide +kernel) bdr_3 (by decide) c4 (fun x15 e16 b17 w18 => ?_)
  have l19 : z_ln 2 = 9 := by decide +kernel
  refine T_pick (by decide) (fun x20 e21 b22 => ?_)
  have b23 : x20 = (999 : Int) := by rw [← e21]; decide +kernel
  refine T_if1 (by decide +kernel) ?_
  refine T_useI (sf_X11_shortestFor_1K hfu s3 c4 a1 x15 (by omega) (by omega) o9) (fun v29 s24 hq => ?_)
  obtain ⟨c25, f26, o30, ⟨x28, rfl, b31, b32, o33⟩⟩ := hq
  refine T_vI ?_
  have f27 := z_Fr.tr (R := R_X11_least_1) f6 f26 rs_X11_shortestFor_1__X11_least_1
  have t34 : s24 249 6 = s3 249 6 := f26 249 6 (by decide)
  have r35 := y_SA.fr o10 (f26 191 16 (by decide)) (f26 6 6 (by decide)) (f26 191 17 (by decide)) (f26 191 18 (by decide)) (fun b => f26 3 b (nr_X11_shortestFor_1__3 b)) (fun b => f26 8 b (nr_X11_shortestFor_1__8 b)) (fun b => f26 12 b (nr_X11_shortestFor_1__12 b)) (fun b => f26 14 b (nr_X11_shortestFor_1__14 b)) (fun b => f26 16 b (nr_X11_shortestFor_1__16 b)) (fun b => f26 18 b (nr_X11_shortestFor_1__18 b)) (fun b => f26 193 b (nr_X11_shortestFor_1__193 b)) (fun b => f26 195 b (nr_X11_shortestFor_1__195 b)) (fun b => f26 197 b (nr_X11_shortestFor_1__197 b)) (fun b => f26 199 b (nr_X11_shortestFor_1__199 b)) (fun b => f26 201 b (nr_X11_shortestFor_1__201 b)) (fun b => f26 203 b (nr_X11_shortestFor_1__203 b)) (fun b => f26 205 b (nr_X11_shortestFor_1__205 b)) (fun b => f26 207 b (nr_X11_shortestFor_1__207 b)) (fun b => f26 209 b (nr_X11_shortestFor_1__209 b)) (fun b => f26 211 b (nr_X11_shortestFor_1__211 b)) (fun b => f26 213 b (nr_X11_shortestFor_1__213 b)) (fun b => f26 215 b (nr_X11_shortestFor_1__215 b)) (fun b => f26 217 b (nr_X11_shortestFor_1__217 b)) (fun b => f26 219 b (nr_X11_shortestFor_1__219 b)) (f26 240 6 (by decide)) (fun b => f26 248 b (nr_X11_shortestFor_1__248 b))
  have r36 := y_YC.fr o11 (f26 191 16 (by decide)) (f26 6 6 (by decide)) (f26 191 17 (by decide)) (f26 191 18 (by decide)) (fun b => f26 3 b (nr_X11_shortestFor_1__3 b)) (fun b => f26 8 b (nr_X11_shortestFor_1__8 b)) (fun b => f26 12 b (nr_X11_shortestFor_1__12 b)) (fun b => f26 14 b (nr_X11_shortestFor_1__14 b)) (fun b => f26 16 b (nr_X11_shortestFor_1__16 b)) (fun b => f26 18 b (nr_X11_shortestFor_1__18 b)) (fun b => f26 193 b (nr_X11_shortestFor_1__193 b)) (fun b => f26 195 b (nr_X11_shortestFor_1__195 b)) (fun b => f26 197 b (nr_X11_shortestFor_1__197 b)) (fun b => f26 199 b (nr_X11_shortestFor_1__199 b)) (fun b => f26 201 b (nr_X11_shortestFor_1__201 b)) (fun b => f26 203 b (nr_X11_shortestFor_1__203 b)) (fun b => f26 205 b (nr_X11_shortestFor_1__205 b)) (fun b => f26 207 b (nr_X11_shortestFor_1__207 b)) (fun b => f26 209 b (nr_X11_shortestFor_1__209 b)) (fun b => f26 211 b (nr_X11_shortestFor_1__211 b)) (fun b => f26 213 b (nr_X11_shortestFor_1__213 b)) (fun b => f26 215 b (nr_X11_shortestFor_1__215 b)) (fun b => f26 217 b (nr_X11_shortestFor_1__217 b)) (fun b => f26 219 b (nr_X11_shortestFor_1__219 b)) (f26 240 6 (by decide)) (fun b => f26 248 b (nr_X11_shortestFor_1__248 b)) (fun b => f26 260 b (nr_X11_shortestFor_1__260 b)) (fun b => f26 262 b (nr_X11_shortestFor_1__262 b)) (fun b => f26 264 b (nr_X11_shortestFor_1__264 b)) (fun b => f26 266 b (nr_X11_shortestFor_1__266 b)) (fun b => f26 268 b (nr_X11_shortestFor_1__268 b)) (fun b => f26 270 b (nr_X11_shortestFor_1__270 b)) (fun b => f26 272 b (nr_X11_shortestFor_1__272 b)) (fun b => f26 274 b (nr_X11_shortestFor_1__274 b)) (fun b => f26 276 b (nr_X11_shortestFor_1__276 b)) (fun b => f26 278 b (nr_X11_shortestFor_1__278 b)) (f26 279 9 (by decide)) (fun b => f26 281 b (nr_X11_shortestFor_1__281 b)) (fun b => f26 283 b (nr_X11_shortestFor_1__283 b)) (fun b => f26 285 b (nr_X11_shortestFor_1__285 b)) (fun b => f26 287 b (nr_X11_shortestFor_1__287 b)) (fun b => f26 289 b (nr_X11_shortestFor_1__289 b)) (fun b => f26 291 b (nr_X11_shortestFor_1__291 b)) (fun b => f26 293 b (nr_X11_shortestFor_1__293 b)) (fun b => f26 295 b (nr_X11_shortestFor_1__295 b))
  have r37 := y_B0.fr o9.1.1 (f26 211 0 (by decide)) (f26 213 0 (by decide))
  refine sl_X11_least_1Y_L38 hfu r0 a1 x15 x20 (by omega) (by omega) (by omega) (fun s38 c39 f40 g41 g42 => ?_) fu s24 x28 c25 f27 (by omega) o30 r35 r36 (by omega)
  have u43 := CI_b c39 (k := 249) (j := 6) bd_249_6
  exact T_ret ⟨c39, f40, g41, g42, Or.inl (⟨(-1), rfl, by omega, by omega⟩)⟩
abbrev P_X11_better_1Y (r0 : z_M) : z_V → z_M → Prop := fun v s' => z_CI s' ∧ z_Fr R_X11_better_1 r0 s' ∧ (y_V3 s') ∧ (y_Y4 s') ∧ (∃ x, v = vL x ∧ -9223372036854775808 ≤ x ∧ x ≤ 9223372036854775807)
theorem nr_X1_costs_249__260 (b : Int) : ¬ R_X1_costs_249 260 b := by
  unfold R_X1_costs_249; omega
theorem nr_X1_costs_249__262 (b : Int) : ¬ R_X1_costs_249 262 b := by
  unfold R_X1_costs_249; omega
theorem nr_X1_costs_249__264 (b : Int) : ¬ R_X1_costs_249 264 b := by
  unfold R_X1_costs_249; omega
theorem nr_X1_costs_249__266 (b : Int) : ¬ R_X1_costs_249 266 b := by
  unfold R_X1_costs_249; omega
theorem nr_X1_costs_249__268 (b : Int) : ¬ R_X1_costs_249 268 b := by
  unfold R_X1_costs_249; omega
theorem nr_X1_costs_249__270 (b : Int) : ¬ R_X1_costs_249 270 b := by
  unfold R_X1_costs_249; omega
theorem nr_X1_costs_249__272 (b : Int) : ¬ R_X1_costs_249 272 b := by
  unfold R_X1_costs_249; omega
theorem nr_X1_costs_249__274 (b : Int) : ¬ R_X1_costs_249 274 b := by
  unfold R_X1_costs_249; omega
theorem nr_X1_costs_249__276 (b : Int) : ¬ R_X1_costs_249 276 b := by
  unfold R_X1_costs_249; omega
theorem nr_X1_costs_249__278 (b : Int) : ¬ R_X1_costs_249 278 b := by
  unfold R_X1_costs_249; omega
theorem nr_X1_costs_249__281 (b : Int) : ¬ R_X1_costs_249 281 b := by
  unfold R_X1_costs_249; omega
theorem nr_X1_costs_249__283 (b : Int) : ¬ R_X1_costs_249 283 b := by
  unfold R_X1_costs_249; omega
theorem nr_X1_costs_249__285 (b : Int) : ¬ R_X1_costs_249 285 b := by
  unfold R_X1_costs_249; omega
theorem nr_X1_costs_249__287 (b : Int) : ¬ R_X1_costs_249 287 b := by
  unfold R_X1_costs_249; omega
theorem nr_X1_costs_249__289 (b : Int) : ¬ R_X1_costs_249 289 b := by
  unfold R_X1_costs_249; omega
theorem nr_X1_costs_249__291 (b : Int) : ¬ R_X1_costs_249 291 b := by
  unfold R_X1_costs_249; omega
theorem nr_X1_costs_249__293 (b : Int) : ¬ R_X1_costs_249 293 b := by
  unfold R_X1_costs_249; omega
theorem nr_X1_costs_249__295 (b : Int) : ¬ R_X1_costs_249 295 b := by
  unfold R_X1_costs_249; omega
set_option maxHeartbeats 4000000 in
theorem sf_X11_better_1Y {fu : Nat} (hfu : 8589934592 ≤ fu) (r0 : z_M) (c0 : z_CI r0) (p0 : y_V3 r0) (p1 : y_Y4 r0) : z_T (fX11_better fu r0 1) (P_X11_better_1Y r0) := by
  refine T_of (fX11_better.eq_1 ..) ?_
  refine T_if1 (by decide +kernel) ?_
  refine T_useN (sf_X11_refresh_1Y hfu r0 c0 p0 p1) (fun v6 s1 hq => ?_)
  obtain ⟨c2, f3, o7, o8, o9, rfl⟩ := hq
  refine T_vN ?_
  have f4 := z_Fr.tr (R := R_X11_better_1) z_Fr.rf f3 rs_X11_refresh_1__X11_better_1
  have t12 : s1 3 0 = r0 3 0 := f3 3 0 (by decide)
  refine T_if1 (by decide +kernel) ?_
  refine T_let 2 (by decide +kernel) ?_
  refine T_if1 (by decide +kernel) ?_
  refine T_get (by decide +kernel) (c := 3) (by decide +kernel) bdr_3 (by decide) c2 (fun x13 e14 b15 w16 => ?_)
  have l17 : z_ln 2 = 9 := by decide +kernel
  refine T_if1 (by decide +kernel) ?_
  refine T_let 249 (by decide +kernel) ?_
  refine T_if1 (by decide +kernel) ?_
  refine T_useN (sf_X1_go_249K hfu s1 c2 x13 0 (by omega) (by omega) o7 (by first | exact y_LNr.i (by omega) | exact y_LNr.t (by assumption) rfl | exact y_LNr.t (by assumption) (by omega))) (fun v23 s18 hq => ?_)
  obtain ⟨c19, f20, o24, o25, rfl⟩ := hq
  refine T_vN ?_
  have f21 := z_Fr.tr (R := R_X11_better_1) f4 f20 rs_X1_go_249__X11_better_1
  have t28 : s18 3 0 = s1 3 0 := f20 3 0 (by decide)
  have r29 := y_SA.fr o8 (f20 191 16 (by decide)) (f20 6 6 (by decide)) (f20 191 17 (by decide)) (f20 191 18 (by decide)) (fun b => f20 3 b (nr_X1_go_249__3 b)) (fun b => f20 8 b (nr_X1_go_249__8 b)) (fun b => f20 12 b (nr_X1_go_249__12 b)) (fun b => f20 14 b (nr_X1_go_249__14 b)) (fun b => f20 16 b (nr_X1_go_249__16 b)) (fun b => f20 18 b (nr_X1_go_249__18 b)) (fun b => f20 193 b (nr_X1_go_249__193 b)) (fun b => f20 195 b (nr_X1_go_249__195 b)) (fun b => f20 197 b (nr_X1_go_249__197 b)) (fun b => f20 199 b (nr_X1_go_249__199 b)) (fun b => f20 201 b (nr_X1_go_249__201 b)) (fun b => f20 203 b (nr_X1_go_249__203 b)) (fun b => f20 205 b (nr_X1_go_249__205 b)) (fun b => f20 207 b (nr_X1_go_249__207 b)) (fun b => f20 209 b (nr_X1_go_249__209 b)) (fun b => f20 211 b (nr_X1_go_249__211 b)) (fun b => f20 213 b (nr_X1_go_249__213 b)) (fun b => f20 215 b (nr_X1_go_249__215 b)) (fun b => f20 217 b (nr_X1_go_249__217 b)) (fun b => f20 219 b (nr_X1_go_249__219 b)) (f20 240 6 (by decide)) (fun b => f20 248 b (nr_X1_go_249__248 b))
  have r30 := y_YC.fr o9 (f20 191 16 (by decide)) (f20 6 6 (by decide)) (f20 191 17 (by decide)) (f20 191 18 (by decide)) (fun b => f20 3 b (nr_X1_go_249__3 b)) (fun b => f20 8 b (nr_X1_go_249__8 b)) (fun b => f20 12 b (nr_X1_go_249__12 b)) (fun b => f20 14 b (nr_X1_go_249__14 b)) (fun b => f20 16 b (nr_X1_go_249__16 b)) (fun b => f20 18 b (nr_X1_go_249__18 b)) (fun b => f20 193 b (nr_X1_go_249__193 b)) (fun b => f20 195 b (nr_X1_go_249__195 b)) (fun b => f20 197 b (nr_X1_go_249__197 b)) (fun b => f20 199 b (nr_X1_go_249__199 b)) (fun b => f20 201 b (nr_X1_go_249__201 b)) (fun b => f20 203 b (nr_X1_go_249__203 b)) (fun b => f20 205 b (nr_X1_go_249__205 b)) (fun b => f20 207 b (nr_X1_go_249__207 b)) (fun b => f20 209 b (nr_X1_go_249__209 b)) (fun b => f20 211 b (nr_X1_go_249__211 b)) (fun b => f20 213 b (nr_X1_go_249__213 b)) (fun b => f20 215 b (nr_X1_go_249__215 b)) (fun b => f20 217 b (nr_X1_go_249__217 b)) (fun b => f20 219 b (nr_X1_go_249__219 b)) (f20 240 6 (by decide)) (fun b => f20 248 b (nr_X1_go_249__248 b)) (fun b => f20 260 b (nr_X1_go_249__260 b)) (fun b => f20 262 b (nr_X1_go_249__262 b)) (fun b => f20 264 b (nr_X1_go_249__264 b)) (fun b => f20 266 b (nr_X1_go_249__266 b)) (fun b => f20 268 b (nr_X1_go_249__268 b)) (fun b => f20 270 b (nr_X1_go_249__270 b)) (fun b => f20 272 b (nr_X1_go_249__272 b)) (fun b => f20 274 b (nr_X1_go_249__274 b)) (fun b => f20 276 b (nr_X1_go_249__276 b)) (fun b => f20 278 b (nr_X1_go_249__278 b)) (f20 279 9 (by decide)) (fun b => f20 281 b (nr_X1_go_249__281 b)) (fun b => f20 283 b (nr_X1_go_249__283 b)) (fun b => f20 285 b (nr_X1_go_249__285 b)) (fun b => f20 287 b (nr_X1_go_249__287 b)) (fun b => f20 289 b (nr_X1_go_249__289 b)) (fun b => f20 291 b (nr_X1_go_249__291 b)) (fun b => f20 293 b (nr_X1_go_249__293 b)) (fun b => f20 295 b (nr_X1_go_249__295 b))
  have r31 := y_B0.fr o7.1.1 (f20 211 0 (by decide)) (f20 213 0 (by decide))
  refine T_if1 (by decide +kernel) ?_
  refine T_let 249 (by decide +kernel) ?_
  refine T_if1 (by decide +kernel) ?_
  refine T_useL (sf_X1_costs_249K hfu s18 c19 x13 (by omega) o24 o25) (fun v37 s32 hq => ?_)
  obtain ⟨c33, f34, o38, ⟨x36, rfl, b39, b40⟩⟩ := hq
  refine T_vL ?_
  have f35 := z_Fr.tr (R := R_X11_better_1) f21 f34 rs_X1_costs_249__X11_better_1
  have t41 : s32 3 0 = s18 3 0 := f34 3 0 (by decide)
  have r42 := y_SA.fr r29 (f34 191 16 (by decide)) (f34 6 6 (by decide)) (f34 191 17 (by decide)) (f34 191 18 (by decide)) (fun b => f34 3 b (nr_X1_costs_249__3 b)) (fun b => f34 8 b (nr_X1_costs_249__8 b)) (fun b => f34 12 b (nr_X1_costs_249__12 b)) (fun b => f34 14 b (nr_X1_costs_249__14 b)) (fun b => f34 16 b (nr_X1_costs_249__16 b)) (fun b => f34 18 b (nr_X1_costs_249__18 b)) (fun b => f34 193 b (nr_X1_costs_249__193 b)) (fun b => f34 195 b (nr_X1_costs_249__195 b)) (fun b => f34 197 b (nr_X1_costs_249__197 b)) (fun b => f34 199 b (nr_X1_costs_249__199 b)) (fun b => f34 201 b (nr_X1_costs_249__201 b)) (fun b => f34 203 b (nr_X1_costs_249__203 b)) (fun b => f34 205 b (nr_X1_costs_249__205 b)) (fun b => f34 207 b (nr_X1_costs_249__207 b)) (fun b => f34 209 b (nr_X1_costs_249__209 b)) (fun b => f34 211 b (nr_X1_costs_249__211 b)) (fun b => f34 213 b (nr_X1_costs_249__213 b)) (fun b => f34 215 b (nr_X1_costs_249__215 b)) (fun b => f34 217 b (nr_X1_costs_249__217 b)) (fun b => f34 219 b (nr_X1_costs_249__219 b)) (f34 240 6 (by decide)) (fun b => f34 248 b (nr_X1_costs_249__248 b))
  have r43 := y_YC.fr r30 (f34 191 16 (by decide)) (f34 6 6 (by decide)) (f34 191 17 (by decide)) (f34 191 18 (by decide)) (fun b => f34 3 b (nr_X1_costs_249__3 b)) (fun b => f34 8 b (nr_X1_costs_249__8 b)) (fun b => f34 12 b (nr_X1_costs_249__12 b)) (fun b => f34 14 b (nr_X1_costs_249__14 b)) (fun b => f34 16 b (nr_X1_costs_249__16 b)) (fun b => f34 18 b (nr_X1_costs_249__18 b)) (fun b => f34 193 b (nr_X1_costs_249__193 b)) (fun b => f34 195 b (nr_X1_costs_249__195 b)) (fun b => f34 197 b (nr_X1_costs_249__197 b)) (fun b => f34 199 b (nr_X1_costs_249__199 b)) (fun b => f34 201 b (nr_X1_costs_249__201 b)) (fun b => f34 203 b (nr_X1_costs_249__203 b)) (fun b => f34 205 b (nr_X1_costs_249__205 b)) (fun b => f34 207 b (nr_X1_costs_249__207 b)) (fun b => f34 209 b (nr_X1_costs_249__209 b)) (fun b => f34 211 b (nr_X1_costs_249__211 b)) (fun b => f34 213 b (nr_X1_costs_249__213 b)) (fun b => f34 215 b (nr_X1_costs_249__215 b)) (fun b => f34 217 b (nr_X1_costs_249__217 b)) (fun b => f34 219 b (nr_X1_costs_249__219 b)) (f34 240 6 (by decide)) (fun b => f34 248 b (nr_X1_costs_249__248 b)) (fun b => f34 260 b (nr_X1_costs_249__260 b)) (fun b => f34 262 b (nr_X1_costs_249__262 b)) (fun b => f34 264 b (nr_X1_costs_249__264 b)) (fun b => f34 266 b (nr_X1_costs_249__266 b)) (fun b => f34 268 b (nr_X1_costs_249__268 b)) (fun b => f34 270 b (nr_X1_costs_249__270 b)) (fun b => f34 272 b (nr_X1_costs_249__272 b)) (fun b => f34 274 b (nr_X1_costs_249__274 b)) (fun b => f34 276 b (nr_X1_costs_249__276 b)) (fun b => f34 278 b (nr_X1_costs_249__278 b)) (f34 279 9 (by decide)) (fun b => f34 281 b (nr_X1_costs_249__281 b)) (fun b => f34 283 b (nr_X1_costs_249__283 b)) (fun b => f34 285 b (nr_X1_costs_249__285 b)) (fun b => f34 287 b (nr_X1_costs_249__287 b)) (fun b => f34 289 b (nr_X1_costs_249__289 b)) (fun b => f34 291 b (nr_X1_costs_249__291 b)) (fun b => f34 293 b (nr_X1_costs_249__293 b)) (fun b => f34 295 b (nr_X1_costs_249__295 b))
  have r44 := y_B0.fr o24.1.1 (f34 211 0 (by decide)) (f34 213 0 (by decide))
  have r45 := y_SV.fr o25 (f34 191 16 (by decide)) (f34 6 6 (by decide)) (f34 191 17 (by decide)) (f34 191 18 (by decide)) (fun b => f34 3 b (nr_X1_costs_249__3 b)) (fun b => f34 8 b (nr_X1_costs_249__8 b)) (fun b => f34 12 b (nr_X1_costs_249__12 b)) (fun b => f34 14 b (nr_X1_costs_249__14 b)) (fun b => f34 16 b (nr_X1_costs_249__16 b)) (fun b => f34 18 b (nr_X1_costs_249__18 b)) (fun b => f34 193 b (nr_X1_costs_249__193 b)) (fun b => f34 195 b (nr_X1_costs_249__195 b)) (fun b => f34 197 b (nr_X1_costs_249__197 b)) (fun b => f34 199 b (nr_X1_costs_249__199 b)) (fun b => f34 201 b (nr_X1_costs_249__201 b)) (fun b => f34 203 b (nr_X1_costs_249__203 b)) (fun b => f34 205 b (nr_X1_costs_249__205 b)) (fun b => f34 207 b (nr_X1_costs_249__207 b)) (fun b => f34 209 b (nr_X1_costs_249__209 b)) (fun b => f34 211 b (nr_X1_costs_249__211 b)) (fun b => f34 213 b (nr_X1_costs_249__213 b)) (fun b => f34 215 b (nr_X1_costs_249__215 b)) (fun b => f34 217 b (nr_X1_costs_249__217 b)) (fun b => f34 219 b (nr_X1_costs_249__219 b)) (f34 240 6 (by decide)) (fun b => f34 248 b (nr_X1_costs_249__248 b)) (f34 249 6 (by decide)) (fun b => f34 257 b (nr_X1_costs_249__257 b))
  refine T_if1 (by decide +kernel) ?_
  refine T_let 249 (by decide +kernel) ?_
  refine T_if1 (by decide +kernel) ?_
  refine T_useN (sf_X1_go_249K hfu s32 c33 x13 1 (by omega) (by omega) o38 (by first | exact y_LNr.i (by omega) | exact y_LNr.t (by assumption) rfl | exact y_LNr.t (by assumption) (by omega))) (fun v51 s46 hq => ?_)
  obtain ⟨c47, f48, o52, o53, rfl⟩ := hq
  refine T_vN ?_
  have f49 := z_Fr.tr (R := R_X11_better_1) f35 f48 rs_X1_go_249__X11_better_1
  have t56 : s46 3 0 = s32 3 0 := f48 3 0 (by decide)
  have r57 := y_SA.fr r42 (f48 191 16 (by decide)) (f48 6 6 (by decide)) (f48 191 17 (by decide)) (f48 191 18 (by decide)) (fun b => f48 3 b (nr_X1_go_249__3 b)) (fun b => f48 8 b (nr_X1_go_249__8 b)) (fun b => f48 12 b (nr_X1_go_249__12 b)) (fun b => f48 14 b (nr_X1_go_249__14 b)) (fun b => f48 16 b (nr_X1_go_249__16 b)) (fun b => f48 18 b (nr_X1_go_249__18 b)) (fun b => f48 193 b (nr_X1_go_249__193 b)) (fun b => f48 195 b (nr_X1_go_249__195 b)) (fun b => f48 197 b (nr_X1_go_249__197 b)) (fun b => f48 199 b (nr_X1_go_249__199 b)) (fun b => f48 201 b (nr_X1_go_249__201 b)) (fun b => f48 203 b (nr_X1_go_249__203 b)) (fun b => f48 205 b (nr_X1_go_249__205 b)) (fun b => f48 207 b (nr_X1_go_249__207 b)) (fun b => f48 209 b (nr_X1_go_249__209 b)) (fun b => f48 211 b (nr_X1_go_249__211 b)) (fun b => f48 213 b (nr_X1_go_249__213 b)) (fun b => f48 215 b (nr_X1_go_249__215 b)) (fun b => f48 217 b (nr_X1_go_249__217 b)) (fun b => f48 219 b (nr_X1_go_249__219 b)) (f48 240 6 (by decide)) (fun b => f48 248 b (nr_X1_go_249__248 b))
  have r58 := y_YC.fr r43 (f48 191 16 (by decide)) (f48 6 6 (by decide)) (f48 191 17 (by decide)) (f48 191 18 (by decide)) (fun b => f48 3 b (nr_X1_go_249__3 b)) (fun b => f48 8 b (nr_X1_go_249__8 b)) (fun b => f48 12 b (nr_X1_go_249__12 b)) (fun b => f48 14 b (nr_X1_go_249__14 b)) (fun b => f48 16 b (nr_X1_go_249__16 b)) (fun b => f48 18 b (nr_X1_go_249__18 b)) (fun b => f48 193 b (nr_X1_go_249__193 b)) (fun b => f48 195 b (nr_X1_go_249__195 b)) (fun b => f48 197 b (nr_X1_go_249__197 b)) (fun b => f48 199 b (nr_X1_go_249__199 b)) (fun b => f48 201 b (nr_X1_go_249__201 b)) (fun b => f48 203 b (nr_X1_go_249__203 b)) (fun b => f48 205 b (nr_X1_go_249__205 b)) (fun b => f48 207 b (nr_X1_go_249__207 b)) (fun b => f48 209 b (nr_X1_go_249__209 b)) (fun b => f48 211 b (nr_X1_go_249__211 b)) (fun b => f48 213 b (nr_X1_go_249__213 b)) (fun b => f48 215 b (nr_X1_go_249__215 b)) (fun b => f48 217 b (nr_X1_go_249__217 b)) (fun b => f48 219 b (nr_X1_go_249__219 b)) (f48 240 6 (by decide)) (fun b => f48 248 b (nr_X1_go_249__248 b)) (fun b => f48 260 b (nr_X1_go_249__260 b)) (fun b => f48 262 b (nr_X1_go_249__262 b)) (fun b => f48 264 b (nr_X1_go_249__264 b)) (fun b => f48 266 b (nr_X1_go_249__266 b)) (fun b => f48 268 b (nr_X1_go_249__268 b)) (fun b => f48 270 b (nr_X1_go_249__270 b)) (fun b => f48 272 b (nr_X1_go_249__272 b)) (fun b => f48 274 b (nr_X1_go_249__274 b)) (fun b => f48 276 b (nr_X1_go_249__276 b)) (fun b => f48 278 b (nr_X1_go_249__278 b)) (f48 279 9 (by decide)) (fun b => f48 281 b (nr_X1_go_249__281 b)) (fun b => f48 283 b (nr_X1_go_249__283 b)) (fun b => f48 285 b (nr_X1_go_249__285 b)) (fun b => f48 287 b (nr_X1_go_249__287 b)) (fun b => f48 289 b (nr_X1_go_249__289 b)) (fun b => f48 291 b (nr_X1_go_249__291 b)) (fun b => f48 293 b (nr_X1_go_249__293 b)) (fun b => f48 295 b (nr_X1_go_249__295 b))
  have r59 := y_B0.fr o38.1.1 (f48 211 0 (by decide)) (f48 213 0 (by decide))
  refine T_if1 (by decide +kernel) ?_
  refine T_let 249 (by decide +kernel) ?_
  refine T_if1 (by decide +kernel) ?_
  refine T_useL (sf_X1_costs_249K hfu s46 c47 x13 (by omega) o52 o53) (fun v65 s60 hq => ?_)
  obtain ⟨c61, f62, o66, ⟨x64, rfl, b67, b68⟩⟩ := hq
  refine T_vL ?_
  have f63 := z_Fr.tr (R := R_X11_better_1) f49 f62 rs_X1_costs_249__X11_better_1
  have t69 : s60 3 0 = s46 3 0 := f62 3 0 (by decide)
  have r70 := y_SA.fr r57 (f62 191 16 (by decide)) (f62 6 6 (by decide)) (f62 191 17 (by decide)) (f62 191 18 (by decide)) (fun b => f62 3 b (nr_X1_costs_249__3 b)) (fun b => f62 8 b (nr_X1_costs_249__8 b)) (fun b => f62 12 b (nr_X1_costs_249__12 b)) (fun b => f62 14 b (nr_X1_costs_249__14 b)) (fun b => f62 16 b (nr_X1_costs_249__16 b)) (fun b => f62 18 b (nr_X1_costs_249__18 b)) (fun b => f62 193 b (nr_X1_costs_249__193 b)) (fun b => f62 195 b (nr_X1_costs_249__195 b)) (fun b => f62 197 b (nr_X1_costs_249__197 b)) (fun b => f62 199 b (nr_X1_costs_249__199 b)) (fun b => f62 201 b (nr_X1_costs_249__201 b)) (fun b => f62 203 b (nr_X1_costs_249__203 b)) (fun b => f62 205 b (nr_X1_costs_249__205 b)) (fun b => f62 207 b (nr_X1_costs_249__207 b)) (fun b => f62 209 b (nr_X1_costs_249__209 b)) (fun b => f62 211 b (nr_X1_costs_249__211 b)) (fun b => f62 213 b (nr_X1_costs_249__213 b)) (fun b => f62 215 b (nr_X1_costs_249__215 b)) (fun b => f62 217 b (nr_X1_costs_249__217 b)) (fun b => f62 219 b (nr_X1_costs_249__219 b)) (f62 240 6 (by decide)) (fun b => f62 248 b (nr_X1_costs_249__248 b))
  have r71 := y_YC.fr r58 (f62 191 16 (by decide)) (f62 6 6 (by decide)) (f62 191 17 (by decide)) (f62 191 18 (by decide)) (fun b => f62 3 b (nr_X1_costs_249__3 b)) (fun b => f62 8 b (nr_X1_costs_249__8 b)) (fun b => f62 12 b (nr_X1_costs_249__12 b)) (fun b => f62 14 b (nr_X1_costs_249__14 b)) (fun b => f62 16 b (nr_X1_costs_249__16 b)) (fun b => f62 18 b (nr_X1_costs_249__18 b)) (fun b => f62 193 b (nr_X1_costs_249__193 b)) (fun b => f62 195 b (nr_X1_costs_249__195 b)) (fun b => f62 197 b (nr_X1_costs_249__197 b)) (fun b => f62 199 b (nr_X1_costs_249__199 b)) (fun b => f62 201 b (nr_X1_costs_249__201 b)) (fun b => f62 203 b (nr_X1_costs_249__203 b)) (fun b => f62 205 b (nr_X1_costs_249__205 b)) (fun b => f62 207 b (nr_X1_costs_249__207 b)) (fun b => f62 209 b (nr_X1_costs_249__209 b)) (fun b => f62 211 b (nr_X1_costs_249__211 b)) (fun b => f62 213 b (nr_X1_costs_249__213 b)) (fun b => f62 215 b (nr_X1_costs_249__215 b)) (fun b => f62 217 b (nr_X1_costs_249__217 b)) (fun b => f62 219 b (nr_X1_costs_249__219 b)) (f62 240 6 (by decide)) (fun b => f62 248 b (nr_X1_costs_249__248 b)) (fun b => f62 260 b (nr_X1_costs_249__260 b)) (fun b => f62 262 b (nr_X1_costs_249__262 b)) (fun b => f62 264 b (nr_X1_costs_249__264 b)) (fun b => f62 266 b (nr_X1_costs_249__266 b)) (fun b => f62 268 b (nr_X1_costs_249__268 b)) (fun b => f62 270 b (nr_X1_costs_249__270 b)) (fun b => f62 272 b (nr_X1_costs_249__272 b)) (fun b => f62 274 b (nr_X1_costs_249__274 b)) (fun b => f62 276 b (nr_X1_costs_249__276 b)) (fun b => f62 278 b (nr_X1_costs_249__278 b)) (f62 279 9 (by decide)) (fun b => f62 281 b (nr_X1_costs_249__281 b)) (fun b => f62 283 b (nr_X1_costs_249__283 b)) (fun b => f62 285 b (nr_X1_costs_249__285 b)) (fun b => f62 287 b (nr_X1_costs_249__287 b)) (fun b => f62 289 b (nr_X1_costs_249__289 b)) (fun b => f62 291 b (nr_X1_costs_249__291 b)) (fun b => f62 293 b (nr_X1_costs_249__293 b)) (fun b => f62 295 b (nr_X1_costs_249__295 b))
  have r72 := y_B0.fr o52.1.1 (f62 211 0 (by decide)) (f62 213 0 (by decide))
  have r73 := y_SV.fr o53 (f62 191 16 (by decide)) (f62 6 6 (by decide)) (f62 191 17 (by decide)) (f62 191 18 (by decide)) (fun b => f62 3 b (nr_X1_costs_249__3 b)) (fun b => f62 8 b (nr_X1_costs_249__8 b)) (fun b => f62 12 b (nr_X1_costs_249__12 b)) (fun b => f62 14 b (nr_X1_costs_249__14 b)) (fun b => f62 16 b (nr_X1_costs_249__16 b)) (fun b => f62 18 b (nr_X1_costs_249__18 b)) (fun b => f62 193 b (nr_X1_costs_249__193 b)) (fun b => f62 195 b (nr_X1_costs_249__195 b)) (fun b => f62 197 b (nr_X1_costs_249__197 b)) (fun b => f62 199 b (nr_X1_costs_249__199 b)) (fun b => f62 201 b (nr_X1_costs_249__201 b)) (fun b => f62 203 b (nr_X1_costs_249__203 b)) (fun b => f62 205 b (nr_X1_costs_249__205 b)) (fun b => f62 207 b (nr_X1_costs_249__207 b)) (fun b => f62 209 b (nr_X1_costs_249__209 b)) (fun b => f62 211 b (nr_X1_costs_249__211 b)) (fun b => f62 213 b (nr_X1_costs_249__213 b)) (fun b => f62 215 b (nr_X1_costs_249__215 b)) (fun b => f62 217 b (nr_X1_costs_249__217 b)) (fun b => f62 219 b (nr_X1_costs_249__219 b)) (f62 240 6 (by decide)) (fun b => f62 248 b (nr_X1_costs_249__248 b)) (f62 249 6 (by decide)) (fun b => f62 257 b (nr_X1_costs_249__257 b))
  refine T_leq (fun x74 e75 => ?_)
  have w76 := z_wlr e75
  exact T_ret ⟨c61, f63, (y_V3.u o66 (Or.inr r70)), (y_Y4.c r71), ⟨x74, rfl, by omega, by omega⟩⟩
abbrev P_X11_marks_1Y (r0 : z_M) : z_V → z_M → Prop := fun v s' => z_CI s' ∧ z_Fr R_X11_marks_1 r0 s' ∧ (y_V3 s') ∧ (y_Y4 s') ∧ ((∃ x, v = vI x ∧ -2147483648 ≤ x ∧ x ≤ 2147483647) ∨ v = vX 1)
theorem nr_X10_marksOf_191__260 (b : Int) : ¬ R_X10_marksOf_191 260 b := not_false
theorem nr_X10_marksOf_191__262 (b : Int) : ¬ R_X10_marksOf_191 262 b := not_false
theorem nr_X10_marksOf_191__264 (b : Int) : ¬ R_X10_marksOf_191 264 b := not_false
theorem nr_X10_marksOf_191__266 (b : Int) : ¬ R_X10_marksOf_191 266 b := not_false
theorem nr_X10_marksOf_191__268 (b : Int) : ¬ R_X10_marksOf_191 268 b := not_false
theorem nr_X10_marksOf_191__270 (b : Int) : ¬ R_X10_marksOf_191 270 b := not_false
theorem nr_X10_marksOf_191__272 (b : Int) : ¬ R_X10_marksOf_191 272 b := not_false
theorem nr_X10_marksOf_191__274 (b : Int) : ¬ R_X10_marksOf_191 274 b := not_false
theorem nr_X10_marksOf_191__276 (b : Int) : ¬ R_X10_marksOf_191 276 b := not_false
theorem nr_X10_marksOf_191__278 (b : Int) : ¬ R_X10_marksOf_191 278 b := not_false
theorem nr_X10_marksOf_191__281 (b : Int) : ¬ R_X10_marksOf_191 281 b := not_false
theorem nr_X10_marksOf_191__283 (b : Int) : ¬ R_X10_marksOf_191 283 b := not_false
theorem nr_X10_marksOf_191__285 (b : Int) : ¬ R_X10_marksOf_191 285 b := not_false
theorem nr_X10_marksOf_191__287 (b : Int) : ¬ R_X10_marksOf_191 287 b := not_false
theorem nr_X10_marksOf_191__289 (b : Int) : ¬ R_X10_marksOf_191 289 b := not_false
theorem nr_X10_marksOf_191__291 (b : Int) : ¬ R_X10_marksOf_191 291 b := not_false
theorem nr_X10_marksOf_191__293 (b : Int) : ¬ R_X10_marksOf_191 293 b := not_false
theorem nr_X10_marksOf_191__295 (b : Int) : ¬ R_X10_marksOf_191 295 b := not_false
set_option maxHeartbeats 4000000 in
theorem sf_X11_marks_1Y {fu : Nat} (hfu : 8589934592 ≤ fu) (r0 : z_M) (c0 : z_CI r0) (a1 : Int) (b1 : -2147483648 ≤ a1 ∧ a1 ≤ 2147483647) (p0 : y_V3 r0) (p1 : y_Y4 r0) : z_T (fX11_marks fu r0 1 a1) (P_X11_marks_1Y r0) := by
  refine T_of (fX11_marks.eq_1 ..) ?_
  refine T_if1 (by decide +kernel) ?_
  refine T_nw ?_ (fun h1 h2 => ?_)
  · exact T_ret ⟨CI_up c0 bd_1_15 (z_wb rfl).1, z_Fr.upf (R := R_X11_marks_1) z_Fr.rf (fun a b h => z_up_k h) (fun b h => z_up_j h) (Or.inr (Or.inr (Or.inr (Or.inr (Or.inr (Or.inr (Or.inr (Or.inl (⟨rfl, by decide⟩))))))))), y_V3.fr p0 (z_up_j (by decide)) (z_up_j (by decide)) (z_up_k (by decide)) (z_up_k (by decide)) (z_up_k (by decide)) (z_up_k (by decide)) (fun _ => z_up_k (by decide)) (fun _ => z_up_k (by decide)) (fun _ => z_up_k (by decide)) (fun _ => z_up_k (by decide)) (fun _ => z_up_k (by decide)) (fun _ => z_up_k (by decide)) (fun _ => z_up_k (by decide)) (fun _ => z_up_k (by decide)) (fun _ => z_up_k (by decide)) (fun _ => z_up_k (by decide)) (fun _ => z_up_k (by decide)) (fun _ => z_up_k (by decide)) (fun _ => z_up_k (by decide)) (fun _ => z_up_k (by decide)) (fun _ => z_up_k (by decide)) (fun _ => z_up_k (by decide)) (fun _ => z_up_k (by decide)) (fun _ => z_up_k (by decide)) (fun _ => z_up_k (by decide)) (fun _ => z_up_k (by decide)) (fun _ => z_up_k (by decide)) (z_up_k (by decide)) (fun _ => z_up_k (by decide)), y_Y4.fr p1 (z_up_j (by decide)) (z_up_j (by decide)) (z_up_k (by decide)) (z_up_k (by decide)) (z_up_k (by decide)) (z_up_k (by decide)) (fun _ => z_up_k (by decide)) (fun _ => z_up_k (by decide)) (fun _ => z_up_k (by decide)) (fun _ => z_up_k (by decide)) (fun _ => z_up_k (by decide)) (fun _ => z_up_k (by decide)) (fun _ => z_up_k (by decide)) (fun _ => z_up_k (by decide)) (fun _ => z_up_k (by decide)) (fun _ => z_up_k (by decide)) (fun _ => z_up_k (by decide)) (fun _ => z_up_k (by decide)) (fun _ => z_up_k (by decide)) (fun _ => z_up_k (by decide)) (fun _ => z_up_k (by decide)) (fun _ => z_up_k (by decide)) (fun _ => z_up_k (by decide)) (fun _ => z_up_k (by decide)) (fun _ => z_up_k (by decide)) (fun _ => z_up_k (by decide)) (z_up_k (by decide)) (fun _ => z_up_k (by decide)) (fun _ => z_up_k (by decide)) (fun _ => z_up_k (by decide)) (fun _ => z_up_k (by decide)) (fun _ => z_up_k (by decide)) (fun _ => z_up_k (by decide)) (fun _ => z_up_k (by decide)) (fun _ => z_up_k (by decide)) (fun _ => z_up_k (by decide)) (fun _ => z_up_k (by decide)) (fun _ => z_up_k (by decide)) (z_up_k (by decide)) (fun _ => z_up_k (by decide)) (fun _ => z_up_k (by decide)) (fun _ => z_up_k (by decide)) (fun _ => z_up_k (by decide)) (fun _ => z_up_k (by decide)) (fun _ => z_up_k (by decide)) (fun _ => z_up_k (by decide)) (fun _ => z_up_k (by decide)), Or.inr rfl⟩
  refine T_if1 (by decide +kernel) ?_
  refine T_useN (sf_X11_refresh_1Y hfu r0 c0 p0 p1) (fun v8 s3 hq => ?_)
  obtain ⟨c4, f5, o9, o10, o11, rfl⟩ := hq
  refine T_vN ?_
  have f6 := z_Fr.tr (R := R_X11_marks_1) z_Fr.rf f5 rs_X11_refresh_1__X11_marks_1
  have t14 : s3 6 6 = r0 6 6 := f5 6 6 (by decide)
  refine T_if1 (by decide +kernel) ?_
  refine T_let 191 (by decide +kernel) ?_
  refine T_if1 (by decide +kernel) ?_
  refine T_let 6 (by decide +kernel) ?_
  refine T_if1 (by decide +kernel) ?_
  refine T_leq (fun x15 e16 => ?_)
  have u17 := CI_b c4 (k := 6) (j := 6) bd_6_6
  refine T_leq (fun x18 e19 => ?_)
  have w20 := z_wb e19
  refine T_if1 (by decide +kernel) ?_
  refine T_useI (sf_X10_marksOf_191 hfu s3 c4 0 x18 a1 (by omega) (by omega) (by omega)) (fun v26 s21 hq => ?_)
  obtain ⟨c22, f23, ⟨x25, rfl, b27, b28⟩⟩ := hq
  refine T_vI ?_
  have f24 := z_Fr.tr (R := R_X11_marks_1) f6 f23 (fun a b h => absurd h not_false)
  have t29 : s21 6 6 = s3 6 6 := f23 6 6 (by decide)
  have r30 := y_U3.fr o9 (f23 191 16 (by decide)) (f23 6 6 (by decide)) (f23 191 17 (by decide)) (f23 191 18 (by decide)) (fun b => f23 3 b (nr_X10_marksOf_191__3 b)) (fun b => f23 8 b (nr_X10_marksOf_191__8 b)) (fun b => f23 12 b (nr_X10_marksOf_191__12 b)) (fun b => f23 14 b (nr_X10_marksOf_191__14 b)) (fun b => f23 16 b (nr_X10_marksOf_191__16 b)) (fun b => f23 18 b (nr_X10_marksOf_191__18 b)) (fun b => f23 193 b (nr_X10_marksOf_191__193 b)) (fun b => f23 195 b (nr_X10_marksOf_191__195 b)) (fun b => f23 197 b (nr_X10_marksOf_191__197 b)) (fun b => f23 199 b (nr_X10_marksOf_191__199 b)) (fun b => f23 201 b (nr_X10_marksOf_191__201 b)) (fun b => f23 203 b (nr_X10_marksOf_191__203 b)) (fun b => f23 205 b (nr_X10_marksOf_191__205 b)) (fun b => f23 207 b (nr_X10_marksOf_191__207 b)) (fun b => f23 209 b (nr_X10_marksOf_191__209 b)) (fun b => f23 211 b (nr_X10_marksOf_191__211 b)) (fun b => f23 213 b (nr_X10_marksOf_191__213 b)) (fun b => f23 215 b (nr_X10_marksOf_191__215 b)) (fun b => f23 217 b (nr_X10_marksOf_191__217 b)) (fun b => f23 219 b (nr_X10_marksOf_191__219 b)) (fun b => f23 222 b (nr_X10_marksOf_191__222 b))
  have r31 := y_SA.fr o10 (f23 191 16 (by decide)) (f23 6 6 (by decide)) (f23 191 17 (by decide)) (f23 191 18 (by decide)) (fun b => f23 3 b (nr_X10_marksOf_191__3 b)) (fun b => f23 8 b (nr_X10_marksOf_191__8 b)) (fun b => f23 12 b (nr_X10_marksOf_191__12 b)) (fun b => f23 14 b (nr_X10_marksOf_191__14 b)) (fun b => f23 16 b (nr_X10_marksOf_191__16 b)) (fun b => f23 18 b (nr_X10_marksOf_191__18 b)) (fun b => f23 193 b (nr_X10_marksOf_191__193 b)) (fun b => f23 195 b (nr_X10_marksOf_191__195 b)) (fun b => f23 197 b (nr_X10_marksOf_191__197 b)) (fun b => f23 199 b (nr_X10_marksOf_191__199 b)) (fun b => f23 201 b (nr_X10_marksOf_191__201 b)) (fun b => f23 203 b (nr_X10_marksOf_191__203 b)) (fun b => f23 205 b (nr_X10_marksOf_191__205 b)) (fun b => f23 207 b (nr_X10_marksOf_191__207 b)) (fun b => f23 209 b (nr_X10_marksOf_191__209 b)) (fun b => f23 211 b (nr_X10_marksOf_191__211 b)) (fun b => f23 213 b (nr_X10_marksOf_191__213 b)) (fun b => f23 215 b (nr_X10_marksOf_191__215 b)) (fun b => f23 217 b (nr_X10_marksOf_191__217 b)) (fun b => f23 219 b (nr_X10_marksOf_191__219 b)) (f23 240 6 (by decide)) (fun b => f23 248 b (nr_X10_marksOf_191__248 b))
  have r32 := y_YC.fr o11 (f23 191 16 (by decide)) (f23 6 6 (by decide)) (f23 191 17 (by decide)) (f23 191 18 (by decide)) (fun b => f23 3 b (nr_X10_marksOf_191__3 b)) (fun b => f23 8 b (nr_X10_marksOf_191__8 b)) (fun b => f23 12 b (nr_X10_marksOf_191__12 b)) (fun b => f23 14 b (nr_X10_marksOf_191__14 b)) (fun b => f23 16 b (nr_X10_marksOf_191__16 b)) (fun b => f23 18 b (nr_X10_marksOf_191__18 b)) (fun b => f23 193 b (nr_X10_marksOf_191__193 b)) (fun b => f23 195 b (nr_X10_marksOf_191__195 b)) (fun b => f23 197 b (nr_X10_marksOf_191__197 b)) (fun b => f23 199 b (nr_X10_marksOf_191__199 b)) (fun b => f23 201 b (nr_X10_marksOf_191__201 b)) (fun b => f23 203 b (nr_X10_marksOf_191__203 b)) (fun b => f23 205 b (nr_X10_marksOf_191__205 b)) (fun b => f23 207 b (nr_X10_marksOf_191__207 b)) (fun b => f23 209 b (nr_X10_marksOf_191__209 b)) (fun b => f23 211 b (nr_X10_marksOf_191__211 b)) (fun b => f23 213 b (nr_X10_marksOf_191__213 b)) (fun b => f23 215 b (nr_X10_marksOf_191__215 b)) (fun b => f23 217 b (nr_X10_marksOf_191__217 b)) (fun b => f23 219 b (nr_X10_marksOf_191__219 b)) (f23 240 6 (by decide)) (fun b => f23 248 b (nr_X10_marksOf_191__248 b)) (fun b => f23 260 b (nr_X10_marksOf_191__260 b)) (fun b => f23 262 b (nr_X10_marksOf_191__262 b)) (fun b => f23 264 b (nr_X10_marksOf_191__264 b)) (fun b => f23 266 b (nr_X10_marksOf_191__266 b)) (fun b => f23 268 b (nr_X10_marksOf_191__268 b)) (fun b => f23 270 b (nr_X10_marksOf_191__270 b)) (fun b => f23 272 b (nr_X10_marksOf_191__272 b)) (fun b => f23 274 b (nr_X10_marksOf_191__274 b)) (fun b => f23 276 b (nr_X10_marksOf_191__276 b)) (fun b => f23 278 b (nr_X10_marksOf_191__278 b)) (f23 279 9 (by decide)) (fun b => f23 281 b (nr_X10_marksOf_191__281 b)) (fun b => f23 283 b (nr_X10_marksOf_191__283 b)) (fun b => f23 285 b (nr_X10_marksOf_191__285 b)) (fun b => f23 287 b (nr_X10_marksOf_191__287 b)) (fun b => f23 289 b (nr_X10_marksOf_191__289 b)) (fun b => f23 291 b (nr_X10_marksOf_191__291 b)) (fun b => f23 293 b (nr_X10_marksOf_191__293 b)) (fun b => f23 295 b (nr_X10_marksOf_191__295 b))
  have r33 := y_B0.fr o9.1.1 (f23 211 0 (by decide)) (f23 213 0 (by decide))
  exact T_ret ⟨c22, f24, (y_V3.u r30 (Or.inr r31)), (y_Y4.c r32), Or.inl (⟨x25, rfl, by omega, by omega⟩)⟩
abbrev P_X11_moves_1Y (r0 : z_M) : z_V → z_M → Prop := fun v s' => z_CI s' ∧ z_Fr R_X11_moves_1 r0 s' ∧ (y_V3 s') ∧ (y_Y4 s') ∧ (∃ x, v = vI x ∧ -2147483648 ≤ x ∧ x ≤ 2147483647)
set_option maxHeartbeats 4000000 in
theorem sf_X11_moves_1Y {fu : Nat} (hfu : 8589934592 ≤ fu) (r0 : z_M) (c0 : z_CI r0) (p0 : y_V3 r0) (p1 : y_Y4 r0) : z_T (fX11_moves fu r0 1) (P_X11_moves_1Y r0) := by
  refine T_of (fX11_moves.eq_1 ..) ?_
  refine T_if1 (by decide +kernel) ?_
  refine T_useN (sf_X11_refresh_1Y hfu r0 c0 p0 p1) (fun v6 s1 hq => ?_)
  obtain ⟨c2, f3, o7, o8, o9, rfl⟩ := hq
  refine T_vN ?_
  have f4 := z_Fr.tr (R := R_X11_moves_1) z_Fr.rf f3 rs_X11_refresh_1__X11_moves_1
  refine T_if1 (by decide +kernel) ?_
  refine T_let 2 (by decide +kernel) ?_
  refine T_if1 (by decide +kernel) ?_
  refine T_let 2 (by decide +kernel) ?_
  refine T_if1 (by decide +kernel) ?_
  refine T_get (by decide +kernel) (c := 3) (by decide +kernel) bdr_3 (by decide) c2 (fun x12 e13 b14 w15 => ?_)
  have l16 : z_ln 2 = 9 := by decide +kernel
  refine T_leq (fun x17 e18 => ?_)
  have w19 := z_wb e18
  refine T_if1 (by decide +kernel) ?_
  refine T_put (by decide +kernel) (c := 3) (by decide +kernel) bdr_3 (by omega) c2 (fun s20 e23 c21 g24 => ?_)
  have f22 := z_Fr.up (R := R_X11_moves_1) f4 g24 (fun _ => (Or.inl (⟨by decide, by decide⟩)))
  have r25 := y_B0.fr o7.1.1 (g24 211 0 (by decide)) (g24 213 0 (by decide))
  refine T_if1 (by decide +kernel) ?_
  refine T_let 191 (by decide +kernel) ?_
  refine T_if1 (by decide +kernel) ?_
  refine T_useN (sf_X10_build_191K hfu s20 c21 r25) (fun v31 s26 hq => ?_)
  obtain ⟨c27, f28, o32, rfl⟩ := hq
  refine T_vN ?_
  have f29 := z_Fr.tr (R := R_X11_moves_1) f22 f28 rs_X10_build_191__X11_moves_1
  refine T_if1 (by decide +kernel) ?_
  refine T_let 220 (by decide +kernel) ?_
  refine T_if1 (by decide +kernel) ?_
  refine T_useN (sf_X5_forget_220K hfu s26 c27 o32) (fun v40 s35 hq => ?_)
  obtain ⟨c36, f37, o41, rfl⟩ := hq
  refine T_vN ?_
  have f38 := z_Fr.tr (R := R_X11_moves_1) f29 f37 rs_X5_forget_220__X11_moves_1
  have r44 := y_U2.fr o32 (f37 191 16 (by decide)) (f37 6 6 (by decide)) (f37 191 17 (by decide)) (f37 191 18 (by decide)) (fun b => f37 3 b (nr_X5_forget_220__3 b)) (fun b => f37 8 b (nr_X5_forget_220__8 b)) (fun b => f37 12 b (nr_X5_forget_220__12 b)) (fun b => f37 14 b (nr_X5_forget_220__14 b)) (fun b => f37 16 b (nr_X5_forget_220__16 b)) (fun b => f37 18 b (nr_X5_forget_220__18 b)) (fun b => f37 193 b (nr_X5_forget_220__193 b)) (fun b => f37 195 b (nr_X5_forget_220__195 b)) (fun b => f37 197 b (nr_X5_forget_220__197 b)) (fun b => f37 199 b (nr_X5_forget_220__199 b)) (fun b => f37 201 b (nr_X5_forget_220__201 b)) (fun b => f37 203 b (nr_X5_forget_220__203 b)) (fun b => f37 205 b (nr_X5_forget_220__205 b)) (fun b => f37 207 b (nr_X5_forget_220__207 b)) (fun b => f37 209 b (nr_X5_forget_220__209 b)) (fun b => f37 211 b (nr_X5_forget_220__211 b)) (fun b => f37 213 b (nr_X5_forget_220__213 b)) (fun b => f37 215 b (nr_X5_forget_220__215 b)) (fun b => f37 217 b (nr_X5_forget_220__217 b)) (fun b => f37 219 b (nr_X5_forget_220__219 b))
  have r45 := y_B0.fr o32.1 (f37 211 0 (by decide)) (f37 213 0 (by decide))
  refine T_if1 (by decide +kernel) ?_
  refine T_let 249 (by decide +kernel) ?_
  refine T_if1 (by decide +kernel) ?_
  refine T_let 2 (by decide +kernel) ?_
  refine T_if1 (by decide +kernel) ?_
  refine T_get (by decide +kernel) (c := 3) (by decide +kernel) bdr_3 (by decide) c36 (fun x46 e47 b48 w49 => ?_)
  have l50 : z_ln 2 = 9 := by decide +kernel
  refine T_if1 (by decide +kernel) ?_
  refine T_let 2 (by decide +kernel) ?_
  refine T_if1 (by decide +kernel) ?_
  refine T_get (by decide +kernel) (c := 3) (by decide +kernel) bdr_3 (by decide) c36 (fun x51 e52 b53 w54 => ?_)
  have l55 : z_ln 2 = 9 := by decide +kernel
  refine T_if1 (by decide +kernel) ?_
  refine T_useN (sf_X1_go_249K hfu s35 c36 x46 x51 (by omega) (by omega) o41 (by first | exact y_LNr.i (by omega) | exact y_LNr.t (by assumption) rfl | exact y_LNr.t (by assumption) (by omega))) (fun v61 s56 hq => ?_)
  obtain ⟨c57, f58, o62, o63, rfl⟩ := hq
  refine T_vN ?_
  have f59 := z_Fr.tr (R := R_X11_moves_1) f38 f58 rs_X1_go_249__X11_moves_1
  have r66 := y_U2.fr r44 (f58 191 16 (by decide)) (f58 6 6 (by decide)) (f58 191 17 (by decide)) (f58 191 18 (by decide)) (fun b => f58 3 b (nr_X1_go_249__3 b)) (fun b => f58 8 b (nr_X1_go_249__8 b)) (fun b => f58 12 b (nr_X1_go_249__12 b)) (fun b => f58 14 b (nr_X1_go_249__14 b)) (fun b => f58 16 b (nr_X1_go_249__16 b)) (fun b => f58 18 b (nr_X1_go_249__18 b)) (fun b => f58 193 b (nr_X1_go_249__193 b)) (fun b => f58 195 b (nr_X1_go_249__195 b)) (fun b => f58 197 b (nr_X1_go_249__197 b)) (fun b => f58 199 b (nr_X1_go_249__199 b)) (fun b => f58 201 b (nr_X1_go_249__201 b)) (fun b => f58 203 b (nr_X1_go_249__203 b)) (fun b => f58 205 b (nr_X1_go_249__205 b)) (fun b => f58 207 b (nr_X1_go_249__207 b)) (fun b => f58 209 b (nr_X1_go_249__209 b)) (fun b => f58 211 b (nr_X1_go_249__211 b)) (fun b => f58 213 b (nr_X1_go_249__213 b)) (fun b => f58 215 b (nr_X1_go_249__215 b)) (fun b => f58 217 b (nr_X1_go_249__217 b)) (fun b => f58 219 b (nr_X1_go_249__219 b))
  have r67 := y_B0.fr o41.1.1 (f58 211 0 (by decide)) (f58 213 0 (by decide))
  refine T_if1 (by decide +kernel) ?_
  refine T_let 249 (by decide +kernel) ?_
  refine T_if1 (by decide +kernel) ?_
  refine T_let 258 (by decide +kernel) ?_
  refine T_if1 (by decide +kernel) ?_
  refine T_let 259 (by decide +kernel) ?_
  refine T_if1 (by decide +kernel) ?_
  refine T_useI (sf_X1_movedFrom_249_259 hfu s56 c57) (fun v73 s68 hq => ?_)
  obtain ⟨c69, f70, ⟨x72, rfl, b74, b75⟩⟩ := hq
  refine T_vI ?_
  have f71 := z_Fr.tr (R := R_X11_moves_1) f59 f70 (fun a b h => absurd h not_false)
  have r76 := y_U2.fr r66 (f70 191 16 (by decide)) (f70 6 6 (by decide)) (f70 191 17 (by decide)) (f70 191 18 (by decide)) (fun b => f70 3 b (nr_X1_movedFrom_249_259__3 b)) (fun b => f70 8 b (nr_X1_movedFrom_249_259__8 b)) (fun b => f70 12 b (nr_X1_movedFrom_249_259__12 b)) (fun b => f70 14 b (nr_X1_movedFrom_249_259__14 b)) (fun b => f70 16 b (nr_X1_movedFrom_249_259__16 b)) (fun b => f70 18 b (nr_X1_movedFrom_249_259__18 b)) (fun b => f70 193 b (nr_X1_movedFrom_249_259__193 b)) (fun b => f70 195 b (nr_X1_movedFrom_249_259__195 b)) (fun b => f70 197 b (nr_X1_movedFrom_249_259__197 b)) (fun b => f70 199 b (nr_X1_movedFrom_249_259__199 b)) (fun b => f70 201 b (nr_X1_movedFrom_249_259__201 b)) (fun b => f70 203 b (nr_X1_movedFrom_249_259__203 b)) (fun b => f70 205 b (nr_X1_movedFrom_249_259__205 b)) (fun b => f70 207 b (nr_X1_movedFrom_249_259__207 b)) (fun b => f70 209 b (nr_X1_movedFrom_249_259__209 b)) (fun b => f70 211 b (nr_X1_movedFrom_249_259__211 b)) (fun b => f70 213 b (nr_X1_movedFrom_249_259__213 b)) (fun b => f70 215 b (nr_X1_movedFrom_249_259__215 b)) (fun b => f70 217 b (nr_X1_movedFrom_249_259__217 b)) (fun b => f70 219 b (nr_X1_movedFrom_249_259__219 b))
  have r77 := y_B0.fr o62.1.1 (f70 211 0 (by decide)) (f70 213 0 (by decide))
  have r78 := y_U3.fr o62 (f70 191 16 (by decide)) (f70 6 6 (by decide)) (f70 191 17 (by decide)) (f70 191 18 (by decide)) (fun b => f70 3 b (nr_X1_movedFrom_249_259__3 b)) (fun b => f70 8 b (nr_X1_movedFrom_249_259__8 b)) (fun b => f70 12 b (nr_X1_movedFrom_249_259__12 b)) (fun b => f70 14 b (nr_X1_movedFrom_249_259__14 b)) (fun b => f70 16 b (nr_X1_movedFrom_249_259__16 b)) (fun b => f70 18 b (nr_X1_movedFrom_249_259__18 b)) (fun b => f70 193 b (nr_X1_movedFrom_249_259__193 b)) (fun b => f70 195 b (nr_X1_movedFrom_249_259__195 b)) (fun b => f70 197 b (nr_X1_movedFrom_249_259__197 b)) (fun b => f70 199 b (nr_X1_movedFrom_249_259__199 b)) (fun b => f70 201 b (nr_X1_movedFrom_249_259__201 b)) (fun b => f70 203 b (nr_X1_movedFrom_249_259__203 b)) (fun b => f70 205 b (nr_X1_movedFrom_249_259__205 b)) (fun b => f70 207 b (nr_X1_movedFrom_249_259__207 b)) (fun b => f70 209 b (nr_X1_movedFrom_249_259__209 b)) (fun b => f70 211 b (nr_X1_movedFrom_249_259__211 b)) (fun b => f70 213 b (nr_X1_movedFrom_249_259__213 b)) (fun b => f70 215 b (nr_X1_movedFrom_249_259__215 b)) (fun b => f70 217 b (nr_X1_movedFrom_249_259__217 b)) (fun b => f70 219 b (nr_X1_movedFrom_249_259__219 b)) (fun b => f70 222 b (nr_X1_movedFrom_249_259__222 b))
  have r79 := y_SV.fr o63 (f70 191 16 (by decide)) (f70 6 6 (by decide)) (f70 191 17 (by decide)) (f70 191 18 (by decide)) (fun b => f70 3 b (nr_X1_movedFrom_249_259__3 b)) (fun b => f70 8 b (nr_X1_movedFrom_249_259__8 b)) (fun b => f70 12 b (nr_X1_movedFrom_249_259__12 b)) (fun b => f70 14 b (nr_X1_movedFrom_249_259__14 b)) (fun b => f70 16 b (nr_X1_movedFrom_249_259__16 b)) (fun b => f70 18 b (nr_X1_movedFrom_249_259__18 b)) (fun b => f70 193 b (nr_X1_movedFrom_249_259__193 b)) (fun b => f70 195 b (nr_X1_movedFrom_249_259__195 b)) (fun b => f70 197 b (nr_X1_movedFrom_249_259__197 b)) (fun b => f70 199 b (nr_X1_movedFrom_249_259__199 b)) (fun b => f70 201 b (nr_X1_movedFrom_249_259__201 b)) (fun b => f70 203 b (nr_X1_movedFrom_249_259__203 b)) (fun b => f70 205 b (nr_X1_movedFrom_249_259__205 b)) (fun b => f70 207 b (nr_X1_movedFrom_249_259__207 b)) (fun b => f70 209 b (nr_X1_movedFrom_249_259__209 b)) (fun b => f70 211 b (nr_X1_movedFrom_249_259__211 b)) (fun b => f70 213 b (nr_X1_movedFrom_249_259__213 b)) (fun b => f70 215 b (nr_X1_movedFrom_249_259__215 b)) (fun b => f70 217 b (nr_X1_movedFrom_249_259__217 b)) (fun b => f70 219 b (nr_X1_movedFrom_249_259__219 b)) (f70 240 6 (by decide)) (fun b => f70 248 b (nr_X1_movedFrom_249_259__248 b)) (f70 249 6 (by decide)) (fun b => f70 257 b (nr_X1_movedFrom_249_259__257 b))
  refine T_if1 (by decide +kernel) ?_
  refine T_let 2 (by decide +kernel) ?_
  refine T_if1 (by decide +kernel) ?_
  refine T_let 2 (by decide +kernel) ?_
  refine T_if1 (by decide +kernel) ?_
  refine T_get (by decide +kernel) (c := 3) (by decide +kernel) bdr_3 (by decide) c69 (fun x80 e81 b82 w83 => ?_)
  have l84 : z_ln 2 = 9 := by decide +kernel
  refine T_leq (fun x85 e86 => ?_)
  have w87 := z_wb e86
  refine T_if1 (by decide +kernel) ?_
  refine T_put (by decide +kernel) (c := 3) (by decide +kernel) bdr_3 (by omega) c69 (fun s88 e91 c89 g92 => ?_)
  have f90 := z_Fr.up (R := R_X11_moves_1) f71 g92 (fun _ => (Or.inl (⟨by decide, by decide⟩)))
  have r93 := y_B0.fr r77 (g92 211 0 (by decide)) (g92 213 0 (by decide))
  refine T_if1 ⟨(by decide +kernel), by unfold z_bl; omega⟩ ?_
  refine T_upg c89 bd_1_16 (by omega) (fun s94 c95 g97 g98 e99 => ?_)
  have f96 := z_Fr.upf (R := R_X11_moves_1) f90 g97 g98 (Or.inr (Or.inr (Or.inr (Or.inr (Or.inr (Or.inr (Or.inr (Or.inr (Or.inr (Or.inr (Or.inl (⟨rfl, by decide⟩))))))))))))
  have r100 := y_B0.fr r93 (g97 211 0 (by decide)) (g97 213 0 (by decide))
  exact T_ret ⟨c95, f96, (y_V3.z r100 (by omega)), (by first | exact y_Y4.z (by omega) | exact y_Y4.z7 (by omega)), ⟨x72, rfl, by omega, by omega⟩⟩
abbrev P_X11_lend_1Y (r0 : z_M) : z_V → z_M → Prop := fun v s' => z_CI s' ∧ z_Fr R_X11_lend_1 r0 s' ∧ (y_V3 s') ∧ (y_Y4 s') ∧ ((∃ x, v = vI x ∧ -2147483648 ≤ x ∧ x ≤ 2147483647) ∨ v = vX 1)
theorem nr_X5_longWith_220__260 (b : Int) : ¬ R_X5_longWith_220 260 b := by
  unfold R_X5_longWith_220; omega
theorem nr_X5_longWith_220__262 (b : Int) : ¬ R_X5_longWith_220 262 b := by
  unfold R_X5_longWith_220; omega
theorem nr_X5_longWith_220__264 (b : Int) : ¬ R_X5_longWith_220 264 b := by
  unfold R_X5_longWith_220; omega
theorem nr_X5_longWith_220__266 (b : Int) : ¬ R_X5_longWith_220 266 b := by
  unfold R_X5_longWith_220; omega
theorem nr_X5_longWith_220__268 (b : Int) : ¬ R_X5_longWith_220 268 b := by
  unfold R_X5_longWith_220; omega
theorem nr_X5_longWith_220__270 (b : Int) : ¬ R_X5_longWith_220 270 b := by
  unfold R_X5_longWith_220; omega
theorem nr_X5_longWith_220__272 (b : Int) : ¬ R_X5_longWith_220 272 b := by
  unfold R_X5_longWith_220; omega
theorem nr_X5_longWith_220__274 (b : Int) : ¬ R_X5_longWith_220 274 b := by
  unfold R_X5_longWith_220; omega
theorem nr_X5_longWith_220__276 (b : Int) : ¬ R_X5_longWith_220 276 b := by
  unfold R_X5_longWith_220; omega
theorem nr_X5_longWith_220__278 (b : Int) : ¬ R_X5_longWith_220 278 b := by
  unfold R_X5_longWith_220; omega
theorem nr_X5_longWith_220__281 (b : Int) : ¬ R_X5_longWith_220 281 b := by
  unfold R_X5_longWith_220; omega
theorem nr_X5_longWith_220__283 (b : Int) : ¬ R_X5_longWith_220 283 b := by
  unfold R_X5_longWith_220; omega
theorem nr_X5_longWith_220__285 (b : Int) : ¬ R_X5_longWith_220 285 b := by
  unfold R_X5_longWith_220; omega
theorem nr_X5_longWith_220__287 (b : Int) : ¬ R_X5_longWith_220 287 b := by
  unfold R_X5_longWith_220; omega
theorem nr_X5_longWith_220__289 (b : Int) : ¬ R_X5_longWith_220 289 b := by
  unfold R_X5_longWith_220; omega
theorem nr_X5_longWith_220__291 (b : Int) : ¬ R_X5_longWith_220 291 b := by
  unfold R_X5_longWith_220; omega
theorem nr_X5_longWith_220__293 (b : Int) : ¬ R_X5_longWith_220 293 b := by
  unfold R_X5_longWith_220; omega
theorem nr_X5_longWith_220__295 (b : Int) : ¬ R_X5_longWith_220 295 b := by
  unfold R_X5_longWith_220; omega
theorem sj_X11_lend_1Y_J88 {fu : Nat} (hfu : 8589934592 ≤ fu) (r0 s : z_M) (c : z_CI s) (f : z_Fr R_X11_lend_1 r0 s) (a1 : Int) (a2 : Int) (a3 : Int) (a4 : Int) (b1 : -2147483648 ≤ a1 ∧ a1 ≤ 2147483647) (b2 : -2147483648 ≤ a2 ∧ a2 ≤ 2147483647) (b3 : -2147483648 ≤ a3 ∧ a3 ≤ 2147483647) (b4 : -2147483648 ≤ a4 ∧ a4 ≤ 2147483646) (p0 : y_V3 s) (p1 : y_Y4 s) (M : Int) (pm : 2147483647 - a4 ≤ M) {r : z_M → Int → Int → Int → z_O} {k : z_M → Int → Int → z_O} (hr : ∀ (s' : z_M) (v2 : Int) (v3 : Int) (v4 : Int), z_CI s' → z_Fr R_X11_lend_1 r0 s' → (-2147483648 ≤ v2 ∧ v2 ≤ 2147483647) → (-2147483648 ≤ v3 ∧ v3 ≤ 2147483647) → (-2147483648 ≤ v4 ∧ v4 ≤ 2147483647) → (y_V3 s') → (y_Y4 s') → (2147483647 - v4 < M) → z_T (r s' v2 v3 v4) (P_X11_lend_1Y r0)) (hk : ∀ (s' : z_M) (v2 : Int) (v3 : Int), z_CI s' → z_Fr R_X11_lend_1 r0 s' → (-2147483648 ≤ v2 ∧ v2 ≤ 2147483647) → (-2147483648 ≤ v3 ∧ v3 ≤ 2147483647) → (y_V3 s') → (y_Y4 s') → z_T (k s' v2 v3) (P_X11_lend_1Y r0)) : z_T (fX11_lend_J88 fu s 1 a1 a2 a3 a4 r k) (P_X11_lend_1Y r0) := by
  refine T_of (fX11_lend_J88.eq_1 ..) ?_
  have u1 := CI_b c (k := 191) (j := 16) bd_191_16
  refine T_leq (fun x2 e3 => ?_)
  have w4 := z_wb e3
  exact hr s a2 a3 x2 c f (by omega) (by omega) (by omega) p0 p1 (by omega)
theorem sl_X11_lend_1Y_L43 {fu : Nat} (hfu : 8589934592 ≤ fu) (r0 : z_M) (a1 : Int) (b1 : -2147483648 ≤ a1 ∧ a1 ≤ 2147483647) {k : z_M → Int → Int → z_O} (hk : ∀ (s' : z_M) (v2 : Int) (v3 : Int), z_CI s' → z_Fr R_X11_lend_1 r0 s' → (-2147483648 ≤ v2 ∧ v2 ≤ 2147483647) → (-2147483648 ≤ v3 ∧ v3 ≤ 2147483647) → (y_V3 s') → (y_Y4 s') → z_T (k s' v2 v3) (P_X11_lend_1Y r0)) : ∀ (F : Nat) (s : z_M) (a2 : Int) (a3 : Int) (a4 : Int), z_CI s → z_Fr R_X11_lend_1 r0 s → (-2147483648 ≤ a2 ∧ a2 ≤ 2147483647) → (-2147483648 ≤ a3 ∧ a3 ≤ 2147483647) → (-2147483648 ≤ a4 ∧ a4 ≤ 2147483647) → (y_V3 s) → (y_Y4 s) → (2147483647 - a4 < (F : Int)) → z_T (fX11_lend_L43 fu 1 a1 F s a2 a3 a4 k) (P_X11_lend_1Y r0) := by
  intro F
  induction F with
  | zero =>
    intro s a2 a3 a4 c f b2 b3 b4 i0 i1 hm
    have u26 := CI_b c (k := 191) (j := 16) bd_191_16
    exfalso; omega
  | succ F ih =>
    intro s a2 a3 a4 c f b2 b3 b4 i0 i1 hm
    refine T_of (fX11_lend_L43.eq_2 ..) ?_
    have u1 := CI_b c (k := 191) (j := 16) bd_191_16
    refine T_pick (by decide) (fun x2 e3 b4 => ?_)
    have b5 : x2 = (6 : Int) := by rw [← e3]; decide +kernel
    refine T_ite (fun h6 => ?_) (fun h6 => ?_)
    · exact hk s a2 a3 c f (by omega) (by omega) i0 i1
    · refine T_if1 (by decide +kernel) ?_
      refine T_let 220 (by decide +kernel) ?_
      refine T_if1 (by decide +kernel) ?_
      refine T_let 191 (by decide +kernel) ?_
      refine T_if1 (by decide +kernel) ?_
      refine T_leq (fun x7 e8 => ?_)
      have u9 := CI_b c (k := 191) (j := 16) bd_191_16
      refine T_leq (fun x10 e11 => ?_)
      have w12 := z_wb e11
      refine T_if1 (by decide +kernel) ?_
      refine T_useI (sf_X5_longWith_220 hfu s c 0 x10 a4 (by omega) (by omega) (by omega)) (fun v18 s13 hq => ?_)
      obtain ⟨c14, f15, ⟨x17, rfl, b19, b20⟩⟩ := hq
      refine T_vI ?_
      have f16 := z_Fr.tr (R := R_X11_lend_1) f f15 rs_X5_longWith_220__X11_lend_1
      have t21 : s13 191 16 = s 191 16 := f15 191 16 (by decide)
      have r22 := y_V3.fr i0 (f15 1 16 (by decide)) (f15 1 17 (by decide)) (f15 191 16 (by decide)) (f15 6 6 (by decide)) (f15 191 17 (by decide)) (f15 191 18 (by decide)) (fun b => f15 3 b (nr_X5_longWith_220__3 b)) (fun b => f15 8 b (nr_X5_longWith_220__8 b)) (fun b => f15 12 b (nr_X5_longWith_220__12 b)) (fun b => f15 14 b (nr_X5_longWith_220__14 b)) (fun b => f15 16 b (nr_X5_longWith_220__16 b)) (fun b => f15 18 b (nr_X5_longWith_220__18 b)) (fun b => f15 193 b (nr_X5_longWith_220__193 b)) (fun b => f15 195 b (nr_X5_longWith_220__195 b)) (fun b => f15 197 b (nr_X5_longWith_220__197 b)) (fun b => f15 199 b (nr_X5_longWith_220__199 b)) (fun b => f15 201 b (nr_X5_longWith_220__201 b)) (fun b => f15 203 b (nr_X5_longWith_220__203 b)) (fun b => f15 205 b (nr_X5_longWith_220__205 b)) (fun b => f15 207 b (nr_X5_longWith_220__207 b)) (fun b => f15 209 b (nr_X5_longWith_220__209 b)) (fun b => f15 211 b (nr_X5_longWith_220__211 b)) (fun b => f15 213 b (nr_X5_longWith_220__213 b)) (fun b => f15 215 b (nr_X5_longWith_220__215 b)) (fun b => f15 217 b (nr_X5_longWith_220__217 b)) (fun b => f15 219 b (nr_X5_longWith_220__219 b)) (fun b => f15 222 b (nr_X5_longWith_220__222 b)) (f15 240 6 (by decide)) (fun b => f15 248 b (nr_X5_longWith_220__248 b))
      have r23 := y_Y4.fr i1 (f15 1 16 (by decide)) (f15 1 17 (by decide)) (f15 191 16 (by decide)) (f15 6 6 (by decide)) (f15 191 17 (by decide)) (f15 191 18 (by decide)) (fun b => f15 3 b (nr_X5_longWith_220__3 b)) (fun b => f15 8 b (nr_X5_longWith_220__8 b)) (fun b => f15 12 b (nr_X5_longWith_220__12 b)) (fun b => f15 14 b (nr_X5_longWith_220__14 b)) (fun b => f15 16 b (nr_X5_longWith_220__16 b)) (fun b => f15 18 b (nr_X5_longWith_220__18 b)) (fun b => f15 193 b (nr_X5_longWith_220__193 b)) (fun b => f15 195 b (nr_X5_longWith_220__195 b)) (fun b => f15 197 b (nr_X5_longWith_220__197 b)) (fun b => f15 199 b (nr_X5_longWith_220__199 b)) (fun b => f15 201 b (nr_X5_longWith_220__201 b)) (fun b => f15 203 b (nr_X5_longWith_220__203 b)) (fun b => f15 205 b (nr_X5_longWith_220__205 b)) (fun b => f15 207 b (nr_X5_longWith_220__207 b)) (fun b => f15 209 b (nr_X5_longWith_220__209 b)) (fun b => f15 211 b (nr_X5_longWith_220__211 b)) (fun b => f15 213 b (nr_X5_longWith_220__213 b)) (fun b => f15 215 b (nr_X5_longWith_220__215 b)) (fun b => f15 217 b (nr_X5_longWith_220__217 b)) (fun b => f15 219 b (nr_X5_longWith_220__219 b)) (f15 240 6 (by decide)) (fun b => f15 248 b (nr_X5_longWith_220__248 b)) (fun b => f15 260 b (nr_X5_longWith_220__260 b)) (fun b => f15 262 b (nr_X5_longWith_220__262 b)) (fun b => f15 264 b (nr_X5_longWith_220__264 b)) (fun b => f15 266 b (nr_X5_longWith_220__266 b)) (fun b => f15 268 b (nr_X5_longWith_220__268 b)) (fun b => f15 270 b (nr_X5_longWith_220__270 b)) (fun b => f15 272 b (nr_X5_longWith_220__272 b)) (fun b => f15 274 b (nr_X5_longWith_220__274 b)) (fun b => f15 276 b (nr_X5_longWith_220__276 b)) (fun b => f15 278 b (nr_X5_longWith_220__278 b)) (f15 279 9 (by decide)) (fun b => f15 281 b (nr_X5_longWith_220__281 b)) (fun b => f15 283 b (nr_X5_longWith_220__283 b)) (fun b => f15 285 b (nr_X5_longWith_220__285 b)) (fun b => f15 287 b (nr_X5_longWith_220__287 b)) (fun b => f15 289 b (nr_X5_longWith_220__289 b)) (fun b => f15 291 b (nr_X5_longWith_220__291 b)) (fun b => f15 293 b (nr_X5_longWith_220__293 b)) (fun b => f15 295 b (nr_X5_longWith_220__295 b))
      have r24 := y_B0.fr i0.1.1 (f15 211 0 (by decide)) (f15 213 0 (by decide))
      refine T_ite (fun h25 => ?_) (fun h25 => ?_)
      · exact sj_X11_lend_1Y_J88 hfu r0 s13 c14 f16 a1 a2 a3 a4 (by omega) (by omega) (by omega) (by omega) r22 r23 (2147483647 - a4) (by omega) (fun s' v2 v3 v4 c' f' w2 w3 w4 z0 z1 pg => ih s' v2 v3 v4 c' f' w2 w3 w4 z0 z1 (by omega)) hk
      · exact sj_X11_lend_1Y_J88 hfu r0 s13 c14 f16 a1 a4 x17 a4 (by omega) (by omega) (by omega) (by omega) r22 r23 (2147483647 - a4) (by omega) (fun s' v2 v3 v4 c' f' w2 w3 w4 z0 z1 pg => ih s' v2 v3 v4 c' f' w2 w3 w4 z0 z1 (by omega)) hk
theorem sj_X11_lend_1Y_J103 {fu : Nat} (hfu : 8589934592 ≤ fu) (r0 s : z_M) (c : z_CI s) (f : z_Fr R_X11_lend_1 r0 s) (t0 : Int) (d0 : -2147483648 ≤ t0 ∧ t0 ≤ 2147483647) (p0 : y_V3 s) (p1 : y_Y4 s) : z_T (fX11_lend_J103 fu s t0) (P_X11_lend_1Y r0) := by
  refine T_of (fX11_lend_J103.eq_1 ..) ?_
  have u1 := CI_b c (k := 191) (j := 16) bd_191_16
  exact T_ret ⟨c, f, p0, p1, Or.inl (⟨t0, rfl, by omega, by omega⟩)⟩
set_option maxHeartbeats 4000000 in
theorem sf_X11_lend_1Y {fu : Nat} (hfu : 8589934592 ≤ fu) (r0 : z_M) (c0 : z_CI r0) (a1 : Int) (b1 : -2147483648 ≤ a1 ∧ a1 ≤ 2147483647) (p0 : y_V3 r0) (p1 : y_Y4 r0) : z_T (fX11_lend fu r0 1 a1) (P_X11_lend_1Y r0) := by
  refine T_of (fX11_lend.eq_1 ..) ?_
  refine T_if1 (by decide +kernel) ?_
  refine T_nw ?_ (fun h1 h2 => ?_)
  · exact T_ret ⟨CI_up c0 bd_1_15 (z_wb rfl).1, z_Fr.upf (R := R_X11_lend_1) z_Fr.rf (fun a b h => z_up_k h) (fun b h => z_up_j h) (Or.inr (Or.inr (Or.inr (Or.inr (Or.inr (Or.inr (Or.inr (Or.inl (⟨rfl, by decide⟩))))))))), y_V3.fr p0 (z_up_j (by decide)) (z_up_j (by decide)) (z_up_k (by decide)) (z_up_k (by decide)) (z_up_k (by decide)) (z_up_k (by decide)) (fun _ => z_up_k (by decide)) (fun _ => z_up_k (by decide)) (fun _ => z_up_k (by decide)) (fun _ => z_up_k (by decide)) (fun _ => z_up_k (by decide)) (fun _ => z_up_k (by decide)) (fun _ => z_up_k (by decide)) (fun _ => z_up_k (by decide)) (fun _ => z_up_k (by decide)) (fun _ => z_up_k (by decide)) (fun _ => z_up_k (by decide)) (fun _ => z_up_k (by decide)) (fun _ => z_up_k (by decide)) (fun _ => z_up_k (by decide)) (fun _ => z_up_k (by decide)) (fun _ => z_up_k (by decide)) (fun _ => z_up_k (by decide)) (fun _ => z_up_k (by decide)) (fun _ => z_up_k (by decide)) (fun _ => z_up_k (by decide)) (fun _ => z_up_k (by decide)) (z_up_k (by decide)) (fun _ => z_up_k (by decide)), y_Y4.fr p1 (z_up_j (by decide)) (z_up_j (by decide)) (z_up_k (by decide)) (z_up_k (by decide)) (z_up_k (by decide)) (z_up_k (by decide)) (fun _ => z_up_k (by decide)) (fun _ => z_up_k (by decide)) (fun _ => z_up_k (by decide)) (fun _ => z_up_k (by decide)) (fun _ => z_up_k (by decide)) (fun _ => z_up_k (by decide)) (fun _ => z_up_k (by decide)) (fun _ => z_up_k (by decide)) (fun _ => z_up_k (by decide)) (fun _ => z_up_k (by decide)) (fun _ => z_up_k (by decide)) (fun _ => z_up_k (by decide)) (fun _ => z_up_k (by decide)) (fun _ => z_up_k (by decide)) (fun _ => z_up_k (by decide)) (fun _ => z_up_k (by decide)) (fun _ => z_up_k (by decide)) (fun _ => z_up_k (by decide)) (fun _ => z_up_k (by decide)) (fun _ => z_up_k (by decide)) (z_up_k (by decide)) (fun _ => z_up_k (by decide)) (fun _ => z_up_k (by decide)) (fun _ => z_up_k (by decide)) (fun _ => z_up_k (by decide)) (fun _ => z_up_k (by decide)) (fun _ => z_up_k (by decide)) (fun _ => z_up_k (by decide)) (fun _ => z_up_k (by decide)) (fun _ => z_up_k (by decide)) (fun _ => z_up_k (by decide)) (fun _ => z_up_k (by decide)) (z_up_k (by decide)) (fun _ => z_up_k (by decide)) (fun _ => z_up_k (by decide)) (fun _ => z_up_k (by decide)) (fun _ => z_up_k (by decide)) (fun _ => z_up_k (by decide)) (fun _ => z_up_k (by decide)) (fun _ => z_up_k (by decide)) (fun _ => z_up_k (by decide)), Or.inr rfl⟩
  refine T_if1 (by decide +kernel) ?_
  refine T_useN (sf_X11_refresh_1Y hfu r0 c0 p0 p1) (fun v8 s3 hq => ?_)
  obtain ⟨c4, f5, o9, o10, o11, rfl⟩ := hq
  refine T_vN ?_
  have f6 := z_Fr.tr (R := R_X11_lend_1) z_Fr.rf f5 rs_X11_refresh_1__X11_lend_1
  have u14 := CI_b c4 (k := 191) (j := 16) bd_191_16
  refine T_pick (by decide) (fun x15 e16 b17 => ?_)
  have b18 : x15 = (0 : Int) := by rw [← e16]; decide +kernel
  refine T_if1 (by decide +kernel) ?_
  refine T_let 220 (by decide +kernel) ?_
  refine T_if1 (by decide +kernel) ?_
  refine T_let 191 (by decide +kernel) ?_
  refine T_if1 (by decide +kernel) ?_
  refine T_leq (fun x19 e20 => ?_)
  have u21 := CI_b c4 (k := 191) (j := 16) bd_191_16
  refine T_leq (fun x22 e23 => ?_)
  have w24 := z_wb e23
  refine T_if1 (by decide +kernel) ?_
  refine T_useI (sf_X5_longWith_220 hfu s3 c4 0 x22 x15 (by omega) (by omega) (by omega)) (fun v30 s25 hq => ?_)
  obtain ⟨c26, f27, ⟨x29, rfl, b31, b32⟩⟩ := hq
  refine T_vI ?_
  have f28 := z_Fr.tr (R := R_X11_lend_1) f6 f27 rs_X5_longWith_220__X11_lend_1
  have t33 : s25 191 16 = s3 191 16 := f27 191 16 (by decide)
  have r34 := y_U3.fr o9 (f27 191 16 (by decide)) (f27 6 6 (by decide)) (f27 191 17 (by decide)) (f27 191 18 (by decide)) (fun b => f27 3 b (nr_X5_longWith_220__3 b)) (fun b => f27 8 b (nr_X5_longWith_220__8 b)) (fun b => f27 12 b (nr_X5_longWith_220__12 b)) (fun b => f27 14 b (nr_X5_longWith_220__14 b)) (fun b => f27 16 b (nr_X5_longWith_220__16 b)) (fun b => f27 18 b (nr_X5_longWith_220__18 b)) (fun b => f27 193 b (nr_X5_longWith_220__193 b)) (fun b => f27 195 b (nr_X5_longWith_220__195 b)) (fun b => f27 197 b (nr_X5_longWith_220__197 b)) (fun b => f27 199 b (nr_X5_longWith_220__199 b)) (fun b => f27 201 b (nr_X5_longWith_220__201 b)) (fun b => f27 203 b (nr_X5_longWith_220__203 b)) (fun b => f27 205 b (nr_X5_longWith_220__205 b)) (fun b => f27 207 b (nr_X5_longWith_220__207 b)) (fun b => f27 209 b (nr_X5_longWith_220__209 b)) (fun b => f27 211 b (nr_X5_longWith_220__211 b)) (fun b => f27 213 b (nr_X5_longWith_220__213 b)) (fun b => f27 215 b (nr_X5_longWith_220__215 b)) (fun b => f27 217 b (nr_X5_longWith_220__217 b)) (fun b => f27 219 b (nr_X5_longWith_220__219 b)) (fun b => f27 222 b (nr_X5_longWith_220__222 b))
  have r35 := y_SA.fr o10 (f27 191 16 (by decide)) (f27 6 6 (by decide)) (f27 191 17 (by decide)) (f27 191 18 (by decide)) (fun b => f27 3 b (nr_X5_longWith_220__3 b)) (fun b => f27 8 b (nr_X5_longWith_220__8 b)) (fun b => f27 12 b (nr_X5_longWith_220__12 b)) (fun b => f27 14 b (nr_X5_longWith_220__14 b)) (fun b => f27 16 b (nr_X5_longWith_220__16 b)) (fun b => f27 18 b (nr_X5_longWith_220__18 b)) (fun b => f27 193 b (nr_X5_longWith_220__193 b)) (fun b => f27 195 b (nr_X5_longWith_220__195 b)) (fun b => f27 197 b (nr_X5_longWith_220__197 b)) (fun b => f27 199 b (nr_X5_longWith_220__199 b)) (fun b => f27 201 b (nr_X5_longWith_220__201 b)) (fun b => f27 203 b (nr_X5_longWith_220__203 b)) (fun b => f27 205 b (nr_X5_longWith_220__205 b)) (fun b => f27 207 b (nr_X5_longWith_220__207 b)) (fun b => f27 209 b (nr_X5_longWith_220__209 b)) (fun b => f27 211 b (nr_X5_longWith_220__211 b)) (fun b => f27 213 b (nr_X5_longWith_220__213 b)) (fun b => f27 215 b (nr_X5_longWith_220__215 b)) (fun b => f27 217 b (nr_X5_longWith_220__217 b)) (fun b => f27 219 b (nr_X5_longWith_220__219 b)) (f27 240 6 (by decide)) (fun b => f27 248 b (nr_X5_longWith_220__248 b))
  have r36 := y_YC.fr o11 (f27 191 16 (by decide)) (f27 6 6 (by decide)) (f27 191 17 (by decide)) (f27 191 18 (by decide)) (fun b => f27 3 b (nr_X5_longWith_220__3 b)) (fun b => f27 8 b (nr_X5_longWith_220__8 b)) (fun b => f27 12 b (nr_X5_longWith_220__12 b)) (fun b => f27 14 b (nr_X5_longWith_220__14 b)) (fun b => f27 16 b (nr_X5_longWith_220__16 b)) (fun b => f27 18 b (nr_X5_longWith_220__18 b)) (fun b => f27 193 b (nr_X5_longWith_220__193 b)) (fun b => f27 195 b (nr_X5_longWith_220__195 b)) (fun b => f27 197 b (nr_X5_longWith_220__197 b)) (fun b => f27 199 b (nr_X5_longWith_220__199 b)) (fun b => f27 201 b (nr_X5_longWith_220__201 b)) (fun b => f27 203 b (nr_X5_longWith_220__203 b)) (fun b => f27 205 b (nr_X5_longWith_220__205 b)) (fun b => f27 207 b (nr_X5_longWith_220__207 b)) (fun b => f27 209 b (nr_X5_longWith_220__209 b)) (fun b => f27 211 b (nr_X5_longWith_220__211 b)) (fun b => f27 213 b (nr_X5_longWith_220__213 b)) (fun b => f27 215 b (nr_X5_longWith_220__215 b)) (fun b => f27 217 b (nr_X5_longWith_220__217 b)) (fun b => f27 219 b (nr_X5_longWith_220__219 b)) (f27 240 6 (by decide)) (fun b => f27 248 b (nr_X5_longWith_220__248 b)) (fun b => f27 260 b (nr_X5_longWith_220__260 b)) (fun b => f27 262 b (nr_X5_longWith_220__262 b)) (fun b => f27 264 b (nr_X5_longWith_220__264 b)) (fun b => f27 266 b (nr_X5_longWith_220__266 b)) (fun b => f27 268 b (nr_X5_longWith_220__268 b)) (fun b => f27 270 b (nr_X5_longWith_220__270 b)) (fun b => f27 272 b (nr_X5_longWith_220__272 b)) (fun b => f27 274 b (nr_X5_longWith_220__274 b)) (fun b => f27 276 b (nr_X5_longWith_220__276 b)) (fun b => f27 278 b (nr_X5_longWith_220__278 b)) (f27 279 9 (by decide)) (fun b => f27 281 b (nr_X5_longWith_220__281 b)) (fun b => f27 283 b (nr_X5_longWith_220__283 b)) (fun b => f27 285 b (nr_X5_longWith_220__285 b)) (fun b => f27 287 b (nr_X5_longWith_220__287 b)) (fun b => f27 289 b (nr_X5_longWith_220__289 b)) (fun b => f27 291 b (nr_X5_longWith_220__291 b)) (fun b => f27 293 b (nr_X5_longWith_220__293 b)) (fun b => f27 295 b (nr_X5_longWith_220__295 b))
  have r37 := y_B0.fr o9.1.1 (f27 211 0 (by decide)) (f27 213 0 (by decide))
  refine T_leq (fun x38 e39 => ?_)
  have w40 := z_wb e39
  refine sl_X11_lend_1Y_L43 hfu r0 a1 (by omega) (fun s41 y44 y45 c42 f43 b46 b47 g48 g49 => ?_) fu s25 x15 x29 x38 c26 f28 (by omega) (by omega) (by omega) (y_V3.u r34 (Or.inr r35)) (y_Y4.c r36) (by omega)
  have u50 := CI_b c42 (k := 191) (j := 16) bd_191_16
  refine T_ite (fun h51 => ?_) (fun h51 => ?_)
  · exact sj_X11_lend_1Y_J103 hfu r0 s41 c42 f43 y45 (by omega) g48 g49
  · exact sj_X11_lend_1Y_J103 hfu r0 s41 c42 f43 y44 (by omega) g48 g49
abbrev P_X11_nearest_1Y (r0 : z_M) : z_V → z_M → Prop := fun v s' => z_CI s' ∧ z_Fr R_X11_nearest_1 r0 s' ∧ (y_V3 s') ∧ (y_Y4 s') ∧ ((∃ x, v = vI x ∧ -2147483648 ≤ x ∧ x ≤ 2147483647) ∨ v = vX 1)
theorem nr_X3_nearestOn_258__260 (b : Int) : ¬ R_X3_nearestOn_258 260 b := not_false
theorem nr_X3_nearestOn_258__262 (b : Int) : ¬ R_X3_nearestOn_258 262 b := not_false
theorem nr_X3_nearestOn_258__264 (b : Int) : ¬ R_X3_nearestOn_258 264 b := not_false
theorem nr_X3_nearestOn_258__266 (b : Int) : ¬ R_X3_nearestOn_258 266 b := not_false
theorem nr_X3_nearestOn_258__268 (b : Int) : ¬ R_X3_nearestOn_258 268 b := not_false
theorem nr_X3_nearestOn_258__270 (b : Int) : ¬ R_X3_nearestOn_258 270 b := not_false
theorem nr_X3_nearestOn_258__272 (b : Int) : ¬ R_X3_nearestOn_258 272 b := not_false
theorem nr_X3_nearestOn_258__274 (b : Int) : ¬ R_X3_nearestOn_258 274 b := not_false
theorem nr_X3_nearestOn_258__276 (b : Int) : ¬ R_X3_nearestOn_258 276 b := not_false
theorem nr_X3_nearestOn_258__278 (b : Int) : ¬ R_X3_nearestOn_258 278 b := not_false
theorem nr_X3_nearestOn_258__281 (b : Int) : ¬ R_X3_nearestOn_258 281 b := not_false
theorem nr_X3_nearestOn_258__283 (b : Int) : ¬ R_X3_nearestOn_258 283 b := not_false
theorem nr_X3_nearestOn_258__285 (b : Int) : ¬ R_X3_nearestOn_258 285 b := not_false
theorem nr_X3_nearestOn_258__287 (b : Int) : ¬ R_X3_nearestOn_258 287 b := not_false
theorem nr_X3_nearestOn_258__289 (b : Int) : ¬ R_X3_nearestOn_258 289 b := not_false
theorem nr_X3_nearestOn_258__291 (b : Int) : ¬ R_X3_nearestOn_258 291 b := not_false
theorem nr_X3_nearestOn_258__293 (b : Int) : ¬ R_X3_nearestOn_258 293 b := not_false
theorem nr_X3_nearestOn_258__295 (b : Int) : ¬ R_X3_nearestOn_258 295 b := not_false
theorem sj_X11_nearest_1Y_J69 {fu : Nat} (hfu : 8589934592 ≤ fu) (r0 s : z_M) (c : z_CI s) (f : z_Fr R_X11_nearest_1 r0 s) (a1 : Int) (a2 : Int) (a3 : Int) (a4 : Int) (b1 : -2147483648 ≤ a1 ∧ a1 ≤ 2147483647) (b2 : -2147483648 ≤ a2 ∧ a2 ≤ 2147483647) (b3 : -2147483648 ≤ a3 ∧ a3 ≤ 2147483647) (b4 : -2147483648 ≤ a4 ∧ a4 ≤ 2147483646) (p0 : y_V3 s) (p1 : y_Y4 s) (M : Int) (pm : 2147483647 - a4 ≤ M) {r : z_M → Int → Int → Int → z_O} {k : z_M → Int → Int → z_O} (hr : ∀ (s' : z_M) (v2 : Int) (v3 : Int) (v4 : Int), z_CI s' → z_Fr R_X11_nearest_1 r0 s' → (-2147483648 ≤ v2 ∧ v2 ≤ 2147483647) → (-2147483648 ≤ v3 ∧ v3 ≤ 2147483647) → (-2147483648 ≤ v4 ∧ v4 ≤ 2147483647) → (y_V3 s') → (y_Y4 s') → (2147483647 - v4 < M) → z_T (r s' v2 v3 v4) (P_X11_nearest_1Y r0)) (hk : ∀ (s' : z_M) (v2 : Int) (v3 : Int), z_CI s' → z_Fr R_X11_nearest_1 r0 s' → (-2147483648 ≤ v2 ∧ v2 ≤ 2147483647) → (-2147483648 ≤ v3 ∧ v3 ≤ 2147483647) → (y_V3 s') → (y_Y4 s') → z_T (k s' v2 v3) (P_X11_nearest_1Y r0)) : z_T (fX11_nearest_J69 fu s 1 a1 a2 a3 a4 r k) (P_X11_nearest_1Y r0) := by
  refine T_of (fX11_nearest_J69.eq_1 ..) ?_
  have u1 := CI_b c (k := 240) (j := 6) bd_240_6
  refine T_leq (fun x2 e3 => ?_)
  have w4 := z_wb e3
  exact hr s a2 a3 x2 c f (by omega) (by omega) (by omega) p0 p1 (by omega)
set_option maxHeartbeats 4000000 in
theorem sl_X11_nearest_1Y_L20 {fu : Nat} (hfu : 8589934592 ≤ fu) (r0 : z_M) (a1 : Int) (b1 : -2147483648 ≤ a1 ∧ a1 ≤ 2147483647) {k : z_M → Int → Int → z_O} (hk : ∀ (s' : z_M) (v2 : Int) (v3 : Int), z_CI s' → z_Fr R_X11_nearest_1 r0 s' → (-2147483648 ≤ v2 ∧ v2 ≤ 2147483647) → (-2147483648 ≤ v3 ∧ v3 ≤ 2147483647) → (y_V3 s') → (y_Y4 s') → z_T (k s' v2 v3) (P_X11_nearest_1Y r0)) : ∀ (F : Nat) (s : z_M) (a2 : Int) (a3 : Int) (a4 : Int), z_CI s → z_Fr R_X11_nearest_1 r0 s → (-2147483648 ≤ a2 ∧ a2 ≤ 2147483647) → (-2147483648 ≤ a3 ∧ a3 ≤ 2147483647) → (-2147483648 ≤ a4 ∧ a4 ≤ 2147483647) → (y_V3 s) → (y_Y4 s) → (2147483647 - a4 < (F : Int)) → z_T (fX11_nearest_L20 fu 1 a1 F s a2 a3 a4 k) (P_X11_nearest_1Y r0) := by
  intro F
  induction F with
  | zero =>
    intro s a2 a3 a4 c f b2 b3 b4 i0 i1 hm
    have u34 := CI_b c (k := 240) (j := 6) bd_240_6
    exfalso; omega
  | succ F ih =>
    intro s a2 a3 a4 c f b2 b3 b4 i0 i1 hm
    refine T_of (fX11_nearest_L20.eq_2 ..) ?_
    have u1 := CI_b c (k := 240) (j := 6) bd_240_6
    refine T_if1 (by decide +kernel) ?_
    refine T_let 240 (by decide +kernel) ?_
    refine T_if1 (by decide +kernel) ?_
    refine T_leq (fun x2 e3 => ?_)
    have u4 := CI_b c (k := 240) (j := 6) bd_240_6
    refine T_ite (fun h5 => ?_) (fun h5 => ?_)
    · exact hk s a2 a3 c f (by omega) (by omega) i0 i1
    · refine T_if1 (by decide +kernel) ?_
      refine T_let 258 (by decide +kernel) ?_
      refine T_if1 (by decide +kernel) ?_
      refine T_useI (sf_X3_nearestOn_258 hfu s c a4 0 (by omega) (by omega)) (fun v11 s6 hq => ?_)
      obtain ⟨c7, f8, ⟨x10, rfl, b12, b13⟩⟩ := hq
      refine T_vI ?_
      have f9 := z_Fr.tr (R := R_X11_nearest_1) f f8 (fun a b h => absurd h not_false)
      have t14 : s6 240 6 = s 240 6 := f8 240 6 (by decide)
      have r15 := y_V3.fr i0 (f8 1 16 (by decide)) (f8 1 17 (by decide)) (f8 191 16 (by decide)) (f8 6 6 (by decide)) (f8 191 17 (by decide)) (f8 191 18 (by decide)) (fun b => f8 3 b (nr_X3_nearestOn_258__3 b)) (fun b => f8 8 b (nr_X3_nearestOn_258__8 b)) (fun b => f8 12 b (nr_X3_nearestOn_258__12 b)) (fun b => f8 14 b (nr_X3_nearestOn_258__14 b)) (fun b => f8 16 b (nr_X3_nearestOn_258__16 b)) (fun b => f8 18 b (nr_X3_nearestOn_258__18 b)) (fun b => f8 193 b (nr_X3_nearestOn_258__193 b)) (fun b => f8 195 b (nr_X3_nearestOn_258__195 b)) (fun b => f8 197 b (nr_X3_nearestOn_258__197 b)) (fun b => f8 199 b (nr_X3_nearestOn_258__199 b)) (fun b => f8 201 b (nr_X3_nearestOn_258__201 b)) (fun b => f8 203 b (nr_X3_nearestOn_258__203 b)) (fun b => f8 205 b (nr_X3_nearestOn_258__205 b)) (fun b => f8 207 b (nr_X3_nearestOn_258__207 b)) (fun b => f8 209 b (nr_X3_nearestOn_258__209 b)) (fun b => f8 211 b (nr_X3_nearestOn_258__211 b)) (fun b => f8 213 b (nr_X3_nearestOn_258__213 b)) (fun b => f8 215 b (nr_X3_nearestOn_258__215 b)) (fun b => f8 217 b (nr_X3_nearestOn_258__217 b)) (fun b => f8 219 b (nr_X3_nearestOn_258__219 b)) (fun b => f8 222 b (nr_X3_nearestOn_258__222 b)) (f8 240 6 (by decide)) (fun b => f8 248 b (nr_X3_nearestOn_258__248 b))
      have r16 := y_Y4.fr i1 (f8 1 16 (by decide)) (f8 1 17 (by decide)) (f8 191 16 (by decide)) (f8 6 6 (by decide)) (f8 191 17 (by decide)) (f8 191 18 (by decide)) (fun b => f8 3 b (nr_X3_nearestOn_258__3 b)) (fun b => f8 8 b (nr_X3_nearestOn_258__8 b)) (fun b => f8 12 b (nr_X3_nearestOn_258__12 b)) (fun b => f8 14 b (nr_X3_nearestOn_258__14 b)) (fun b => f8 16 b (nr_X3_nearestOn_258__16 b)) (fun b => f8 18 b (nr_X3_nearestOn_258__18 b)) (fun b => f8 193 b (nr_X3_nearestOn_258__193 b)) (fun b => f8 195 b (nr_X3_nearestOn_258__195 b)) (fun b => f8 197 b (nr_X3_nearestOn_258__197 b)) (fun b => f8 199 b (nr_X3_nearestOn_258__199 b)) (fun b => f8 201 b (nr_X3_nearestOn_258__201 b)) (fun b => f8 203 b (nr_X3_nearestOn_258__203 b)) (fun b => f8 205 b (nr_X3_nearestOn_258__205 b)) (fun b => f8 207 b (nr_X3_nearestOn_258__207 b)) (fun b => f8 209 b (nr_X3_nearestOn_258__209 b)) (fun b => f8 211 b (nr_X3_nearestOn_258__211 b)) (fun b => f8 213 b (nr_X3_nearestOn_258__213 b)) (fun b => f8 215 b (nr_X3_nearestOn_258__215 b)) (fun b => f8 217 b (nr_X3_nearestOn_258__217 b)) (fun b => f8 219 b (nr_X3_nearestOn_258__219 b)) (f8 240 6 (by decide)) (fun b => f8 248 b (nr_X3_nearestOn_258__248 b)) (fun b => f8 260 b (nr_X3_nearestOn_258__260 b)) (fun b => f8 262 b (nr_X3_nearestOn_258__262 b)) (fun b => f8 264 b (nr_X3_nearestOn_258__264 b)) (fun b => f8 266 b (nr_X3_nearestOn_258__266 b)) (fun b => f8 268 b (nr_X3_nearestOn_258__268 b)) (fun b => f8 270 b (nr_X3_nearestOn_258__270 b)) (fun b => f8 272 b (nr_X3_nearestOn_258__272 b)) (fun b => f8 274 b (nr_X3_nearestOn_258__274 b)) (fun b => f8 276 b (nr_X3_nearestOn_258__276 b)) (fun b => f8 278 b (nr_X3_nearestOn_258__278 b)) (f8 279 9 (by decide)) (fun b => f8 281 b (nr_X3_nearestOn_258__281 b)) (fun b => f8 283 b (nr_X3_nearestOn_258__283 b)) (fun b => f8 285 b (nr_X3_nearestOn_258__285 b)) (fun b => f8 287 b (nr_X3_nearestOn_258__287 b)) (fun b => f8 289 b (nr_X3_nearestOn_258__289 b)) (fun b => f8 291 b (nr_X3_nearestOn_258__291 b)) (fun b => f8 293 b (nr_X3_nearestOn_258__293 b)) (fun b => f8 295 b (nr_X3_nearestOn_258__295 b))
      have r17 := y_B0.fr i0.1.1 (f8 211 0 (by decide)) (f8 213 0 (by decide))
      refine T_if1 (by decide +kernel) ?_
      refine T_let 258 (by decide +kernel) ?_
      refine T_if1 (by decide +kernel) ?_
      refine T_useI (sf_X3_nearestOn_258 hfu s6 c7 a4 1 (by omega) (by omega)) (fun v23 s18 hq => ?_)
      obtain ⟨c19, f20, ⟨x22, rfl, b24, b25⟩⟩ := hq
      refine T_vI ?_
      have f21 := z_Fr.tr (R := R_X11_nearest_1) f9 f20 (fun a b h => absurd h not_false)
      have t26 : s18 240 6 = s6 240 6 := f20 240 6 (by decide)
      have r27 := y_V3.fr r15 (f20 1 16 (by decide)) (f20 1 17 (by decide)) (f20 191 16 (by decide)) (f20 6 6 (by decide)) (f20 191 17 (by decide)) (f20 191 18 (by decide)) (fun b => f20 3 b (nr_X3_nearestOn_258__3 b)) (fun b => f20 8 b (nr_X3_nearestOn_258__8 b)) (fun b => f20 12 b (nr_X3_nearestOn_258__12 b)) (fun b => f20 14 b (nr_X3_nearestOn_258__14 b)) (fun b => f20 16 b (nr_X3_nearestOn_258__16 b)) (fun b => f20 18 b (nr_X3_nearestOn_258__18 b)) (fun b => f20 193 b (nr_X3_nearestOn_258__193 b)) (fun b => f20 195 b (nr_X3_nearestOn_258__195 b)) (fun b => f20 197 b (nr_X3_nearestOn_258__197 b)) (fun b => f20 199 b (nr_X3_nearestOn_258__199 b)) (fun b => f20 201 b (nr_X3_nearestOn_258__201 b)) (fun b => f20 203 b (nr_X3_nearestOn_258__203 b)) (fun b => f20 205 b (nr_X3_nearestOn_258__205 b)) (fun b => f20 207 b (nr_X3_nearestOn_258__207 b)) (fun b => f20 209 b (nr_X3_nearestOn_258__209 b)) (fun b => f20 211 b (nr_X3_nearestOn_258__211 b)) (fun b => f20 213 b (nr_X3_nearestOn_258__213 b)) (fun b => f20 215 b (nr_X3_nearestOn_258__215 b)) (fun b => f20 217 b (nr_X3_nearestOn_258__217 b)) (fun b => f20 219 b (nr_X3_nearestOn_258__219 b)) (fun b => f20 222 b (nr_X3_nearestOn_258__222 b)) (f20 240 6 (by decide)) (fun b => f20 248 b (nr_X3_nearestOn_258__248 b))
      have r28 := y_Y4.fr r16 (f20 1 16 (by decide)) (f20 1 17 (by decide)) (f20 191 16 (by decide)) (f20 6 6 (by decide)) (f20 191 17 (by decide)) (f20 191 18 (by decide)) (fun b => f20 3 b (nr_X3_nearestOn_258__3 b)) (fun b => f20 8 b (nr_X3_nearestOn_258__8 b)) (fun b => f20 12 b (nr_X3_nearestOn_258__12 b)) (fun b => f20 14 b (nr_X3_nearestOn_258__14 b)) (fun b => f20 16 b (nr_X3_nearestOn_258__16 b)) (fun b => f20 18 b (nr_X3_nearestOn_258__18 b)) (fun b => f20 193 b (nr_X3_nearestOn_258__193 b)) (fun b => f20 195 b (nr_X3_nearestOn_258__195 b)) (fun b => f20 197 b (nr_X3_nearestOn_258__197 b)) (fun b => f20 199 b (nr_X3_nearestOn_258__199 b)) (fun b => f20 201 b (nr_X3_nearestOn_258__201 b)) (fun b => f20 203 b (nr_X3_nearestOn_258__203 b)) (fun b => f20 205 b (nr_X3_nearestOn_258__205 b)) (fun b => f20 207 b (nr_X3_nearestOn_258__207 b)) (fun b => f20 209 b (nr_X3_nearestOn_258__209 b)) (fun b => f20 211 b (nr_X3_nearestOn_258__211 b)) (fun b => f20 213 b (nr_X3_nearestOn_258__213 b)) (fun b => f20 215 b (nr_X3_nearestOn_258__215 b)) (fun b => f20 217 b (nr_X3_nearestOn_258__217 b)) (fun b => f20 219 b (nr_X3_nearestOn_258__219 b)) (f20 240 6 (by decide)) (fun b => f20 248 b (nr_X3_nearestOn_258__248 b)) (fun b => f20 260 b (nr_X3_nearestOn_258__260 b)) (fun b => f20 262 b (nr_X3_nearestOn_258__262 b)) (fun b => f20 264 b (nr_X3_nearestOn_258__264 b)) (fun b => f20 266 b (nr_X3_nearestOn_258__266 b)) (fun b => f20 268 b (nr_X3_nearestOn_258__268 b)) (fun b => f20 270 b (nr_X3_nearestOn_258__270 b)) (fun b => f20 272 b (nr_X3_nearestOn_258__272 b)) (fun b => f20 274 b (nr_X3_nearestOn_258__274 b)) (fun b => f20 276 b (nr_X3_nearestOn_258__276 b)) (fun b => f20 278 b (nr_X3_nearestOn_258__278 b)) (f20 279 9 (by decide)) (fun b => f20 281 b (nr_X3_nearestOn_258__281 b)) (fun b => f20 283 b (nr_X3_nearestOn_258__283 b)) (fun b => f20 285 b (nr_X3_nearestOn_258__285 b)) (fun b => f20 287 b (nr_X3_nearestOn_258__287 b)) (fun b => f20 289 b (nr_X3_nearestOn_258__289 b)) (fun b => f20 291 b (nr_X3_nearestOn_258__291 b)) (fun b => f20 293 b (nr_X3_nearestOn_258__293 b)) (fun b => f20 295 b (nr_X3_nearestOn_258__295 b))
      have r29 := y_B0.fr r17 (f20 211 0 (by decide)) (f20 213 0 (by decide))
      refine T_leq (fun x30 e31 => ?_)
      have w32 := z_minb x10 x22
      rw [e31] at w32
      refine T_ite (fun h33 => ?_) (fun h33 => ?_)
      · exact sj_X11_nearest_1Y_J69 hfu r0 s18 c19 f21 a1 a2 a3 a4 (by omega) (by omega) (by omega) (by omega) r27 r28 (2147483647 - a4) (by omega) (fun s' v2 v3 v4 c' f' w2 w3 w4 z0 z1 pg => ih s' v2 v3 v4 c' f' w2 w3 w4 z0 z1 (by omega)) hk
      · exact sj_X11_nearest_1Y_J69 hfu r0 s18 c19 f21 a1 x30 a4 a4 (by omega) (by omega) (by omega) (by omega) r27 r28 (2147483647 - a4) (by omega) (fun s' v2 v3 v4 c' f' w2 w3 w4 z0 z1 pg => ih s' v2 v3 v4 c' f' w2 w3 w4 z0 z1 (by omega)) hk
theorem sj_X11_nearest_1Y_J94 {fu : Nat} (hfu : 8589934592 ≤ fu) (r0 s : z_M) (c : z_CI s) (f : z_Fr R_X11_nearest_1 r0 s) (t0 : Int) (d0 : -2147483648 ≤ t0 ∧ t0 ≤ 2147483647) (p0 : y_V3 s) (p1 : y_Y4 s) : z_T (fX11_nearest_J94 fu s t0) (P_X11_nearest_1Y r0) := by
  refine T_of (fX11_nearest_J94.eq_1 ..) ?_
  have u1 := CI_b c (k := 240) (j := 6) bd_240_6
  exact T_ret ⟨c, f, p0, p1, Or.inl (⟨t0, rfl, by omega, by omega⟩)⟩
theorem sf_X11_nearest_1Y {fu : Nat} (hfu : 8589934592 ≤ fu) (r0 : z_M) (c0 : z_CI r0) (a1 : Int) (b1 : -2147483648 ≤ a1 ∧ a1 ≤ 2147483647) (p0 : y_V3 r0) (p1 : y_Y4 r0) : z_T (fX11_nearest fu r0 1 a1) (P_X11_nearest_1Y r0) := by
  refine T_of (fX11_nearest.eq_1 ..) ?_
  refine T_if1 (by decide +kernel) ?_
  refine T_nw ?_ (fun h1 h2 => ?_)
  · exact T_ret ⟨CI_up c0 bd_1_15 (z_wb rfl).1, z_Fr.upf (R := R_X11_nearest_1) z_Fr.rf (fun a b h => z_up_k h) (fun b h => z_up_j h) (Or.inr (Or.inr (Or.inr (Or.inr (Or.inr (Or.inr (Or.inr (Or.inl (⟨rfl, by decide⟩))))))))), y_V3.fr p0 (z_up_j (by decide)) (z_up_j (by decide)) (z_up_k (by decide)) (z_up_k (by decide)) (z_up_k (by decide)) (z_up_k (by decide)) (fun _ => z_up_k (by decide)) (fun _ => z_up_k (by decide)) (fun _ => z_up_k (by decide)) (fun _ => z_up_k (by decide)) (fun _ => z_up_k (by decide)) (fun _ => z_up_k (by decide)) (fun _ => z_up_k (by decide)) (fun _ => z_up_k (by decide)) (fun _ => z_up_k (by decide)) (fun _ => z_up_k (by decide)) (fun _ => z_up_k (by decide)) (fun _ => z_up_k (by decide)) (fun _ => z_up_k (by decide)) (fun _ => z_up_k (by decide)) (fun _ => z_up_k (by decide)) (fun _ => z_up_k (by decide)) (fun _ => z_up_k (by decide)) (fun _ => z_up_k (by decide)) (fun _ => z_up_k (by decide)) (fun _ => z_up_k (by decide)) (fun _ => z_up_k (by decide)) (z_up_k (by decide)) (fun _ => z_up_k (by decide)), y_Y4.fr p1 (z_up_j (by decide)) (z_up_j (by decide)) (z_up_k (by decide)) (z_up_k (by decide)) (z_up_k (by decide)) (z_up_k (by decide)) (fun _ => z_up_k (by decide)) (fun _ => z_up_k (by decide)) (fun _ => z_up_k (by decide)) (fun _ => z_up_k (by decide)) (fun _ => z_up_k (by decide)) (fun _ => z_up_k (by decide)) (fun _ => z_up_k (by decide)) (fun _ => z_up_k (by decide)) (fun _ => z_up_k (by decide)) (fun _ => z_up_k (by decide)) (fun _ => z_up_k (by decide)) (fun _ => z_up_k (by decide)) (fun _ => z_up_k (by decide)) (fun _ => z_up_k (by decide)) (fun _ => z_up_k (by decide)) (fun _ => z_up_k (by decide)) (fun _ => z_up_k (by decide)) (fun _ => z_up_k (by decide)) (fun _ => z_up_k (by decide)) (fun _ => z_up_k (by decide)) (z_up_k (by decide)) (fun _ => z_up_k (by decide)) (fun _ => z_up_k (by decide)) (fun _ => z_up_k (by decide)) (fun _ => z_up_k (by decide)) (fun _ => z_up_k (by decide)) (fun _ => z_up_k (by decide)) (fun _ => z_up_k (by decide)) (fun _ => z_up_k (by decide)) (fun _ => z_up_k (by decide)) (fun _ => z_up_k (by decide)) (fun _ => z_up_k (by decide)) (z_up_k (by decide)) (fun _ => z_up_k (by decide)) (fun _ => z_up_k (by decide)) (fun _ => z_up_k (by decide)) (fun _ => z_up_k (by decide)) (fun _ => z_up_k (by decide)) (fun _ => z_up_k (by decide)) (fun _ => z_up_k (by decide)) (fun _ => z_up_k (by decide)), Or.inr rfl⟩
  refine T_if1 (by decide +kernel) ?_
  refine T_useN (sf_X11_refresh_1Y hfu r0 c0 p0 p1) (fun v8 s3 hq => ?_)
  obtain ⟨c4, f5, o9, o10, o11, rfl⟩ := hq
  refine T_vN ?_
  have f6 := z_Fr.tr (R := R_X11_nearest_1) z_Fr.rf f5 rs_X11_refresh_1__X11_nearest_1
  have u14 := CI_b c4 (k := 240) (j := 6) bd_240_6
  refine sl_X11_nearest_1Y_L20 hfu r0 a1 (by omega) (fun s15 y18 y19 c16 f17 b20 b21 g22 g23 => ?_) fu s3 2147483647 (-1) 0 c4 f6 (by omega) (by omega) (by omega) (y_V3.u o9 (Or.inr o10)) (y_Y4.c o11) (by omega)
  have u24 := CI_b c16 (k := 240) (j := 6) bd_240_6
  refine T_ite (fun h25 => ?_) (fun h25 => ?_)
  · refine T_ite (fun h26 => ?_) (fun h26 => ?_)
    · exact sj_X11_nearest_1Y_J94 hfu r0 s15 c16 f17 y18 (by omega) g22 g23
    · exact sj_X11_nearest_1Y_J94 hfu r0 s15 c16 f17 999 (by omega) g22 g23
  · exact T_ret ⟨c16, f17, g22, g23, Or.inl (⟨y19, rfl, by omega, by omega⟩)⟩
abbrev P_X11_partner_1Y (r0 : z_M) : z_V → z_M → Prop := fun v s' => z_CI s' ∧ z_Fr R_X11_partner_1 r0 s' ∧ (y_V3 s') ∧ (y_Y4 s') ∧ ((∃ x, v = vI x ∧ -2147483648 ≤ x ∧ x ≤ 2147483647) ∨ v = vX 0)
theorem sf_X11_partner_1Y {fu : Nat} (hfu : 8589934592 ≤ fu) (r0 : z_M) (c0 : z_CI r0) (a1 : Int) (b1 : -2147483648 ≤ a1 ∧ a1 ≤ 2147483647) (p0 : y_V3 r0) (p1 : y_Y4 r0) : z_T (fX11_partner fu r0 1 a1) (P_X11_partner_1Y r0) := by
  refine T_of (fX11_partner.eq_1 ..) ?_
  refine T_if1 (by decide +kernel) ?_
  refine T_useN (sf_X11_refresh_1Y hfu r0 c0 p0 p1) (fun v6 s1 hq => ?_)
  obtain ⟨c2, f3, o7, o8, o9, rfl⟩ := hq
  refine T_vN ?_
  have f4 := z_Fr.tr (R := R_X11_partner_1) z_Fr.rf f3 rs_X11_refresh_1__X11_partner_1
  have u12 := CI_b c2 (k := 191) (j := 16) bd_191_16
  refine T_if1 (by decide +kernel) ?_
  refine T_let 191 (by decide +kernel) ?_
  refine T_if1 (by decide +kernel) ?_
  refine T_leq (fun x13 e14 => ?_)
  have u15 := CI_b c2 (k := 191) (j := 16) bd_191_16
  refine T_if1 (by decide +kernel) ?_
  refine T_ne ?_ (fun h16 h17 => ?_)
  · exact T_ret ⟨CI_up c2 bd_1_14 (z_wb rfl).1, z_Fr.upf (R := R_X11_partner_1) f4 (fun a b h => z_up_k h) (fun b h => z_up_j h) (Or.inr (Or.inr (Or.inr (Or.inr (Or.inr (Or.inr (Or.inr (Or.inl (⟨rfl, by decide⟩))))))))), y_V3.u (y_U3.fr o7 (z_up_k (by decide)) (z_up_k (by decide)) (z_up_k (by decide)) (z_up_k (by decide)) (fun _ => z_up_k (by decide)) (fun _ => z_up_k (by decide)) (fun _ => z_up_k (by decide)) (fun _ => z_up_k (by decide)) (fun _ => z_up_k (by decide)) (fun _ => z_up_k (by decide)) (fun _ => z_up_k (by decide)) (fun _ => z_up_k (by decide)) (fun _ => z_up_k (by decide)) (fun _ => z_up_k (by decide)) (fun _ => z_up_k (by decide)) (fun _ => z_up_k (by decide)) (fun _ => z_up_k (by decide)) (fun _ => z_up_k (by decide)) (fun _ => z_up_k (by decide)) (fun _ => z_up_k (by decide)) (fun _ => z_up_k (by decide)) (fun _ => z_up_k (by decide)) (fun _ => z_up_k (by decide)) (fun _ => z_up_k (by decide)) (fun _ => z_up_k (by decide))) (y_L3.fr (show y_L3 s1 from (Or.inr o8)) (z_up_j (by decide)) (z_up_k (by decide)) (z_up_k (by decide)) (z_up_k (by decide)) (z_up_k (by decide)) (fun _ => z_up_k (by decide)) (fun _ => z_up_k (by decide)) (fun _ => z_up_k (by decide)) (fun _ => z_up_k (by decide)) (fun _ => z_up_k (by decide)) (fun _ => z_up_k (by decide)) (fun _ => z_up_k (by decide)) (fun _ => z_up_k (by decide)) (fun _ => z_up_k (by decide)) (fun _ => z_up_k (by decide)) (fun _ => z_up_k (by decide)) (fun _ => z_up_k (by decide)) (fun _ => z_up_k (by decide)) (fun _ => z_up_k (by decide)) (fun _ => z_up_k (by decide)) (fun _ => z_up_k (by decide)) (fun _ => z_up_k (by decide)) (fun _ => z_up_k (by decide)) (fun _ => z_up_k (by decide)) (fun _ => z_up_k (by decide)) (z_up_k (by decide)) (fun _ => z_up_k (by decide))), y_Y4.c (y_YC.fr o9 (z_up_k (by decide)) (z_up_k (by decide)) (z_up_k (by decide)) (z_up_k (by decide)) (fun _ => z_up_k (by decide)) (fun _ => z_up_k (by decide)) (fun _ => z_up_k (by decide)) (fun _ => z_up_k (by decide)) (fun _ => z_up_k (by decide)) (fun _ => z_up_k (by decide)) (fun _ => z_up_k (by decide)) (fun _ => z_up_k (by decide)) (fun _ => z_up_k (by decide)) (fun _ => z_up_k (by decide)) (fun _ => z_up_k (by decide)) (fun _ => z_up_k (by decide)) (fun _ => z_up_k (by decide)) (fun _ => z_up_k (by decide)) (fun _ => z_up_k (by decide)) (fun _ => z_up_k (by decide)) (fun _ => z_up_k (by decide)) (fun _ => z_up_k (by decide)) (fun _ => z_up_k (by decide)) (fun _ => z_up_k (by decide)) (z_up_k (by decide)) (fun _ => z_up_k (by decide)) (fun _ => z_up_k (by decide)) (fun _ => z_up_k (by decide)) (fun _ => z_up_k (by decide)) (fun _ => z_up_k (by decide)) (fun _ => z_up_k (by decide)) (fun _ => z_up_k (by decide)) (fun _ => z_up_k (by decide)) (fun _ => z_up_k (by decide)) (fun _ => z_up_k (by decide)) (fun _ => z_up_k (by decide)) (z_up_k (by decide)) (fun _ => z_up_k (by decide)) (fun _ => z_up_k (by decide)) (fun _ => z_up_k (by decide)) (fun _ => z_up_k (by decide)) (fun _ => z_up_k (by decide)) (fun _ => z_up_k (by decide)) (fun _ => z_up_k (by decide)) (fun _ => z_up_k (by decide))), Or.inr rfl⟩
  refine T_if1 (by decide +kernel) ?_
  refine T_let 191 (by decide +kernel) ?_
  refine T_if1 (by decide +kernel) ?_
  refine T_let 206 (by decide +kernel) ?_
  refine T_if1 (by decide +kernel) ?_
  refine T_get (by decide +kernel) (c := 207) (by decide +kernel) bdr_207 (by decide) c2 (fun x18 e19 b20 w21 => ?_)
  have l22 : z_ln 206 = 200 := by decide +kernel
  exact T_ret ⟨c2, f4, (y_V3.u o7 (Or.inr o8)), (y_Y4.c o9), Or.inl (⟨x18, rfl, by omega, by omega⟩)⟩
abbrev P_X11_side_1Y (r0 : z_M) : z_V → z_M → Prop := fun v s' => z_CI s' ∧ z_Fr R_X11_side_1 r0 s' ∧ (y_V3 s') ∧ (y_Y4 s') ∧ ((∃ x, v = vI x ∧ -2147483648 ≤ x ∧ x ≤ 2147483647) ∨ v = vX 0 ∨ v = vX 1)
theorem nr_X3_marksBeside_258__260 (b : Int) : ¬ R_X3_marksBeside_258 260 b := not_false
theorem nr_X3_marksBeside_258__262 (b : Int) : ¬ R_X3_marksBeside_258 262 b := not_false
theorem nr_X3_marksBeside_258__264 (b : Int) : ¬ R_X3_marksBeside_258 264 b := not_false
theorem nr_X3_marksBeside_258__266 (b : Int) : ¬ R_X3_marksBeside_258 266 b := not_false
theorem nr_X3_marksBeside_258__268 (b : Int) : ¬ R_X3_marksBeside_258 268 b := not_false
theorem nr_X3_marksBeside_258__270 (b : Int) : ¬ R_X3_marksBeside_258 270 b := not_false
theorem nr_X3_marksBeside_258__272 (b : Int) : ¬ R_X3_marksBeside_258 272 b := not_false
theorem nr_X3_marksBeside_258__274 (b : Int) : ¬ R_X3_marksBeside_258 274 b := not_false
theorem nr_X3_marksBeside_258__276 (b : Int) : ¬ R_X3_marksBeside_258 276 b := not_false
theorem nr_X3_marksBeside_258__278 (b : Int) : ¬ R_X3_marksBeside_258 278 b := not_false
theorem nr_X3_marksBeside_258__281 (b : Int) : ¬ R_X3_marksBeside_258 281 b := not_false
theorem nr_X3_marksBeside_258__283 (b : Int) : ¬ R_X3_marksBeside_258 283 b := not_false
theorem nr_X3_marksBeside_258__285 (b : Int) : ¬ R_X3_marksBeside_258 285 b := not_false
theorem nr_X3_marksBeside_258__287 (b : Int) : ¬ R_X3_marksBeside_258 287 b := not_false
theorem nr_X3_marksBeside_258__289 (b : Int) : ¬ R_X3_marksBeside_258 289 b := not_false
theorem nr_X3_marksBeside_258__291 (b : Int) : ¬ R_X3_marksBeside_258 291 b := not_false
theorem nr_X3_marksBeside_258__293 (b : Int) : ¬ R_X3_marksBeside_258 293 b := not_false
theorem nr_X3_marksBeside_258__295 (b : Int) : ¬ R_X3_marksBeside_258 295 b := not_false
theorem sj_X11_side_1Y_J55 {fu : Nat} (hfu : 8589934592 ≤ fu) (r0 s : z_M) (c : z_CI s) (f : z_Fr R_X11_side_1 r0 s) (t0 : Int) (d0 : -2147483648 ≤ t0 ∧ t0 ≤ 2147483647) (p0 : y_V3 s) (p1 : y_Y4 s) : z_T (fX11_side_J55 fu s t0) (P_X11_side_1Y r0) := by
  refine T_of (fX11_side_J55.eq_1 ..) ?_
  have u1 := CI_b c (k := 240) (j := 6) bd_240_6
  exact T_ret ⟨c, f, p0, p1, Or.inl (⟨t0, rfl, by omega, by omega⟩)⟩
theorem nr_X3_lettersBeside_258__260 (b : Int) : ¬ R_X3_lettersBeside_258 260 b := not_false
theorem nr_X3_lettersBeside_258__262 (b : Int) : ¬ R_X3_lettersBeside_258 262 b := not_false
theorem nr_X3_lettersBeside_258__264 (b : Int) : ¬ R_X3_lettersBeside_258 264 b := not_false
theorem nr_X3_lettersBeside_258__266 (b : Int) : ¬ R_X3_lettersBeside_258 266 b := not_false
theorem nr_X3_lettersBeside_258__268 (b : Int) : ¬ R_X3_lettersBeside_258 268 b := not_false
theorem nr_X3_lettersBeside_258__270 (b : Int) : ¬ R_X3_lettersBeside_258 270 b := not_false
theorem nr_X3_lettersBeside_258__272 (b : Int) : ¬ R_X3_lettersBeside_258 272 b := not_false
theorem nr_X3_lettersBeside_258__274 (b : Int) : ¬ R_X3_lettersBeside_258 274 b := not_false
theorem nr_X3_lettersBeside_258__276 (b : Int) : ¬ R_X3_lettersBeside_258 276 b := not_false
theorem nr_X3_lettersBeside_258__278 (b : Int) : ¬ R_X3_lettersBeside_258 278 b := not_false
theorem nr_X3_lettersBeside_258__281 (b : Int) : ¬ R_X3_lettersBeside_258 281 b := not_false
theorem nr_X3_lettersBeside_258__283 (b : Int) : ¬ R_X3_lettersBeside_258 283 b := not_false
theorem nr_X3_lettersBeside_258__285 (b : Int) : ¬ R_X3_lettersBeside_258 285 b := not_false
theorem nr_X3_lettersBeside_258__287 (b : Int) : ¬ R_X3_lettersBeside_258 287 b := not_false
theorem nr_X3_lettersBeside_258__289 (b : Int) : ¬ R_X3_lettersBeside_258 289 b := not_false
theorem nr_X3_lettersBeside_258__291 (b : Int) : ¬ R_X3_lettersBeside_258 291 b := not_false
theorem nr_X3_lettersBeside_258__293 (b : Int) : ¬ R_X3_lettersBeside_258 293 b := not_false
theorem nr_X3_lettersBeside_258__295 (b : Int) : ¬ R_X3_lettersBeside_258 295 b := not_false
set_option maxHeartbeats 4000000 in
theorem sf_X11_side_1Y {fu : Nat} (hfu : 8589934592 ≤ fu) (r0 : z_M) (c0 : z_CI r0) (a1 : Int) (a2 : Int) (a3 : Int) (b1 : -2147483648 ≤ a1 ∧ a1 ≤ 2147483647) (b2 : -2147483648 ≤ a2 ∧ a2 ≤ 2147483647) (b3 : -2147483648 ≤ a3 ∧ a3 ≤ 2147483647) (p0 : y_V3 r0) (p1 : y_Y4 r0) : z_T (fX11_side fu r0 1 a1 a2 a3) (P_X11_side_1Y r0) := by
  refine T_of (fX11_side.eq_1 ..) ?_
  refine T_if1 (by decide +kernel) ?_
  refine T_useN (sf_X11_refresh_1Y hfu r0 c0 p0 p1) (fun v6 s1 hq => ?_)
  obtain ⟨c2, f3, o7, o8, o9, rfl⟩ := hq
  refine T_vN ?_
  have f4 := z_Fr.tr (R := R_X11_side_1) z_Fr.rf f3 rs_X11_refresh_1__X11_side_1
  have u12 := CI_b c2 (k := 240) (j := 6) bd_240_6
  refine T_if1 (by decide +kernel) ?_
  refine T_let 240 (by decide +kernel) ?_
  refine T_if1 (by decide +kernel) ?_
  refine T_leq (fun x13 e14 => ?_)
  have u15 := CI_b c2 (k := 240) (j := 6) bd_240_6
  refine T_if1 (by decide +kernel) ?_
  refine T_ne ?_ (fun h16 h17 => ?_)
  · exact T_ret ⟨CI_up c2 bd_1_14 (z_wb rfl).1, z_Fr.upf (R := R_X11_side_1) f4 (fun a b h => z_up_k h) (fun b h => z_up_j h) (Or.inr (Or.inr (Or.inr (Or.inr (Or.inr (Or.inr (Or.inr (Or.inl (⟨rfl, by decide⟩))))))))), y_V3.u (y_U3.fr o7 (z_up_k (by decide)) (z_up_k (by decide)) (z_up_k (by decide)) (z_up_k (by decide)) (fun _ => z_up_k (by decide)) (fun _ => z_up_k (by decide)) (fun _ => z_up_k (by decide)) (fun _ => z_up_k (by decide)) (fun _ => z_up_k (by decide)) (fun _ => z_up_k (by decide)) (fun _ => z_up_k (by decide)) (fun _ => z_up_k (by decide)) (fun _ => z_up_k (by decide)) (fun _ => z_up_k (by decide)) (fun _ => z_up_k (by decide)) (fun _ => z_up_k (by decide)) (fun _ => z_up_k (by decide)) (fun _ => z_up_k (by decide)) (fun _ => z_up_k (by decide)) (fun _ => z_up_k (by decide)) (fun _ => z_up_k (by decide)) (fun _ => z_up_k (by decide)) (fun _ => z_up_k (by decide)) (fun _ => z_up_k (by decide)) (fun _ => z_up_k (by decide))) (y_L3.fr (show y_L3 s1 from (Or.inr o8)) (z_up_j (by decide)) (z_up_k (by decide)) (z_up_k (by decide)) (z_up_k (by decide)) (z_up_k (by decide)) (fun _ => z_up_k (by decide)) (fun _ => z_up_k (by decide)) (fun _ => z_up_k (by decide)) (fun _ => z_up_k (by decide)) (fun _ => z_up_k (by decide)) (fun _ => z_up_k (by decide)) (fun _ => z_up_k (by decide)) (fun _ => z_up_k (by decide)) (fun _ => z_up_k (by decide)) (fun _ => z_up_k (by decide)) (fun _ => z_up_k (by decide)) (fun _ => z_up_k (by decide)) (fun _ => z_up_k (by decide)) (fun _ => z_up_k (by decide)) (fun _ => z_up_k (by decide)) (fun _ => z_up_k (by decide)) (fun _ => z_up_k (by decide)) (fun _ => z_up_k (by decide)) (fun _ => z_up_k (by decide)) (fun _ => z_up_k (by decide)) (z_up_k (by decide)) (fun _ => z_up_k (by decide))), y_Y4.c (y_YC.fr o9 (z_up_k (by decide)) (z_up_k (by decide)) (z_up_k (by decide)) (z_up_k (by decide)) (fun _ => z_up_k (by decide)) (fun _ => z_up_k (by decide)) (fun _ => z_up_k (by decide)) (fun _ => z_up_k (by decide)) (fun _ => z_up_k (by decide)) (fun _ => z_up_k (by decide)) (fun _ => z_up_k (by decide)) (fun _ => z_up_k (by decide)) (fun _ => z_up_k (by decide)) (fun _ => z_up_k (by decide)) (fun _ => z_up_k (by decide)) (fun _ => z_up_k (by decide)) (fun _ => z_up_k (by decide)) (fun _ => z_up_k (by decide)) (fun _ => z_up_k (by decide)) (fun _ => z_up_k (by decide)) (fun _ => z_up_k (by decide)) (fun _ => z_up_k (by decide)) (fun _ => z_up_k (by decide)) (fun _ => z_up_k (by decide)) (z_up_k (by decide)) (fun _ => z_up_k (by decide)) (fun _ => z_up_k (by decide)) (fun _ => z_up_k (by decide)) (fun _ => z_up_k (by decide)) (fun _ => z_up_k (by decide)) (fun _ => z_up_k (by decide)) (fun _ => z_up_k (by decide)) (fun _ => z_up_k (by decide)) (fun _ => z_up_k (by decide)) (fun _ => z_up_k (by decide)) (fun _ => z_up_k (by decide)) (z_up_k (by decide)) (fun _ => z_up_k (by decide)) (fun _ => z_up_k (by decide)) (fun _ => z_up_k (by decide)) (fun _ => z_up_k (by decide)) (fun _ => z_up_k (by decide)) (fun _ => z_up_k (by decide)) (fun _ => z_up_k (by decide)) (fun _ => z_up_k (by decide))), Or.inr (Or.inl rfl)⟩
  refine T_if1 (by decide +kernel) ?_
  refine T_nw ?_ (fun h18 h19 => ?_)
  · exact T_ret ⟨CI_up c2 bd_1_15 (z_wb rfl).1, z_Fr.upf (R := R_X11_side_1) f4 (fun a b h => z_up_k h) (fun b h => z_up_j h) (Or.inr (Or.inr (Or.inr (Or.inr (Or.inr (Or.inr (Or.inr (Or.inl (⟨rfl, by decide⟩))))))))), y_V3.u (y_U3.fr o7 (z_up_k (by decide)) (z_up_k (by decide)) (z_up_k (by decide)) (z_up_k (by decide)) (fun _ => z_up_k (by decide)) (fun _ => z_up_k (by decide)) (fun _ => z_up_k (by decide)) (fun _ => z_up_k (by decide)) (fun _ => z_up_k (by decide)) (fun _ => z_up_k (by decide)) (fun _ => z_up_k (by decide)) (fun _ => z_up_k (by decide)) (fun _ => z_up_k (by decide)) (fun _ => z_up_k (by decide)) (fun _ => z_up_k (by decide)) (fun _ => z_up_k (by decide)) (fun _ => z_up_k (by decide)) (fun _ => z_up_k (by decide)) (fun _ => z_up_k (by decide)) (fun _ => z_up_k (by decide)) (fun _ => z_up_k (by decide)) (fun _ => z_up_k (by decide)) (fun _ => z_up_k (by decide)) (fun _ => z_up_k (by decide)) (fun _ => z_up_k (by decide))) (y_L3.fr (show y_L3 s1 from (Or.inr o8)) (z_up_j (by decide)) (z_up_k (by decide)) (z_up_k (by decide)) (z_up_k (by decide)) (z_up_k (by decide)) (fun _ => z_up_k (by decide)) (fun _ => z_up_k (by decide)) (fun _ => z_up_k (by decide)) (fun _ => z_up_k (by decide)) (fun _ => z_up_k (by decide)) (fun _ => z_up_k (by decide)) (fun _ => z_up_k (by decide)) (fun _ => z_up_k (by decide)) (fun _ => z_up_k (by decide)) (fun _ => z_up_k (by decide)) (fun _ => z_up_k (by decide)) (fun _ => z_up_k (by decide)) (fun _ => z_up_k (by decide)) (fun _ => z_up_k (by decide)) (fun _ => z_up_k (by decide)) (fun _ => z_up_k (by decide)) (fun _ => z_up_k (by decide)) (fun _ => z_up_k (by decide)) (fun _ => z_up_k (by decide)) (fun _ => z_up_k (by decide)) (z_up_k (by decide)) (fun _ => z_up_k (by decide))), y_Y4.c (y_YC.fr o9 (z_up_k (by decide)) (z_up_k (by decide)) (z_up_k (by decide)) (z_up_k (by decide)) (fun _ => z_up_k (by decide)) (fun _ => z_up_k (by decide)) (fun _ => z_up_k (by decide)) (fun _ => z_up_k (by decide)) (fun _ => z_up_k (by decide)) (fun _ => z_up_k (by decide)) (fun _ => z_up_k (by decide)) (fun _ => z_up_k (by decide)) (fun _ => z_up_k (by decide)) (fun _ => z_up_k (by decide)) (fun _ => z_up_k (by decide)) (fun _ => z_up_k (by decide)) (fun _ => z_up_k (by decide)) (fun _ => z_up_k (by decide)) (fun _ => z_up_k (by decide)) (fun _ => z_up_k (by decide)) (fun _ => z_up_k (by decide)) (fun _ => z_up_k (by decide)) (fun _ => z_up_k (by decide)) (fun _ => z_up_k (by decide)) (z_up_k (by decide)) (fun _ => z_up_k (by decide)) (fun _ => z_up_k (by decide)) (fun _ => z_up_k (by decide)) (fun _ => z_up_k (by decide)) (fun _ => z_up_k (by decide)) (fun _ => z_up_k (by decide)) (fun _ => z_up_k (by decide)) (fun _ => z_up_k (by decide)) (fun _ => z_up_k (by decide)) (fun _ => z_up_k (by decide)) (fun _ => z_up_k (by decide)) (z_up_k (by decide)) (fun _ => z_up_k (by decide)) (fun _ => z_up_k (by decide)) (fun _ => z_up_k (by decide)) (fun _ => z_up_k (by decide)) (fun _ => z_up_k (by decide)) (fun _ => z_up_k (by decide)) (fun _ => z_up_k (by decide)) (fun _ => z_up_k (by decide))), Or.inr (Or.inr rfl)⟩
  refine T_if1 (by decide +kernel) ?_
  refine T_nw ?_ (fun h20 h21 => ?_)
  · exact T_ret ⟨CI_up c2 bd_1_15 (z_wb rfl).1, z_Fr.upf (R := R_X11_side_1) f4 (fun a b h => z_up_k h) (fun b h => z_up_j h) (Or.inr (Or.inr (Or.inr (Or.inr (Or.inr (Or.inr (Or.inr (Or.inl (⟨rfl, by decide⟩))))))))), y_V3.u (y_U3.fr o7 (z_up_k (by decide)) (z_up_k (by decide)) (z_up_k (by decide)) (z_up_k (by decide)) (fun _ => z_up_k (by decide)) (fun _ => z_up_k (by decide)) (fun _ => z_up_k (by decide)) (fun _ => z_up_k (by decide)) (fun _ => z_up_k (by decide)) (fun _ => z_up_k (by decide)) (fun _ => z_up_k (by decide)) (fun _ => z_up_k (by decide)) (fun _ => z_up_k (by decide)) (fun _ => z_up_k (by decide)) (fun _ => z_up_k (by decide)) (fun _ => z_up_k (by decide)) (fun _ => z_up_k (by decide)) (fun _ => z_up_k (by decide)) (fun _ => z_up_k (by decide)) (fun _ => z_up_k (by decide)) (fun _ => z_up_k (by decide)) (fun _ => z_up_k (by decide)) (fun _ => z_up_k (by decide)) (fun _ => z_up_k (by decide)) (fun _ => z_up_k (by decide))) (y_L3.fr (show y_L3 s1 from (Or.inr o8)) (z_up_j (by decide)) (z_up_k (by decide)) (z_up_k (by decide)) (z_up_k (by decide)) (z_up_k (by decide)) (fun _ => z_up_k (by decide)) (fun _ => z_up_k (by decide)) (fun _ => z_up_k (by decide)) (fun _ => z_up_k (by decide)) (fun _ => z_up_k (by decide)) (fun _ => z_up_k (by decide)) (fun _ => z_up_k (by decide)) (fun _ => z_up_k (by decide)) (fun _ => z_up_k (by decide)) (fun _ => z_up_k (by decide)) (fun _ => z_up_k (by decide)) (fun _ => z_up_k (by decide)) (fun _ => z_up_k (by decide)) (fun _ => z_up_k (by decide)) (fun _ => z_up_k (by decide)) (fun _ => z_up_k (by decide)) (fun _ => z_up_k (by decide)) (fun _ => z_up_k (by decide)) (fun _ => z_up_k (by decide)) (fun _ => z_up_k (by decide)) (z_up_k (by decide)) (fun _ => z_up_k (by decide))), y_Y4.c (y_YC.fr o9 (z_up_k (by decide)) (z_up_k (by decide)) (z_up_k (by decide)) (z_up_k (by decide)) (fun _ => z_up_k (by decide)) (fun _ => z_up_k (by decide)) (fun _ => z_up_k (by decide)) (fun _ => z_up_k (by decide)) (fun _ => z_up_k (by decide)) (fun _ => z_up_k (by decide)) (fun _ => z_up_k (by decide)) (fun _ => z_up_k (by decide)) (fun _ => z_up_k (by decide)) (fun _ => z_up_k (by decide)) (fun _ => z_up_k (by decide)) (fun _ => z_up_k (by decide)) (fun _ => z_up_k (by decide)) (fun _ => z_up_k (by decide)) (fun _ => z_up_k (by decide)) (fun _ => z_up_k (by decide)) (fun _ => z_up_k (by decide)) (fun _ => z_up_k (by decide)) (fun _ => z_up_k (by decide)) (fun _ => z_up_k (by decide)) (z_up_k (by decide)) (fun _ => z_up_k (by decide)) (fun _ => z_up_k (by decide)) (fun _ => z_up_k (by decide)) (fun _ => z_up_k (by decide)) (fun _ => z_up_k (by decide)) (fun _ => z_up_k (by decide)) (fun _ => z_up_k (by decide)) (fun _ => z_up_k (by decide)) (fun _ => z_up_k (by decide)) (fun _ => z_up_k (by decide)) (fun _ => z_up_k (by decide)) (z_up_k (by decide)) (fun _ => z_up_k (by decide)) (fun _ => z_up_k (by decide)) (fun _ => z_up_k (by decide)) (fun _ => z_up_k (by decide)) (fun _ => z_up_k (by decide)) (fun _ => z_up_k (by decide)) (fun _ => z_up_k (by decide)) (fun _ => z_up_k (by decide))), Or.inr (Or.inr rfl)⟩
  refine T_ite (fun h22 => ?_) (fun h22 => ?_)
  · refine T_if1 (by decide +kernel) ?_
    refine T_let 258 (by decide +kernel) ?_
    refine T_if1 (by decide +kernel) ?_
    refine T_useI (sf_X3_marksBeside_258 hfu s1 c2 a1 a2 (by omega) (by omega)) (fun v28 s23 hq => ?_)
    obtain ⟨c24, f25, ⟨x27, rfl, b29, b30⟩⟩ := hq
    refine T_vI ?_
    have f26 := z_Fr.tr (R := R_X11_side_1) f4 f25 (fun a b h => absurd h not_false)
    have t31 : s23 240 6 = s1 240 6 := f25 240 6 (by decide)
    have r32 := y_U3.fr o7 (f25 191 16 (by decide)) (f25 6 6 (by decide)) (f25 191 17 (by decide)) (f25 191 18 (by decide)) (fun b => f25 3 b (nr_X3_marksBeside_258__3 b)) (fun b => f25 8 b (nr_X3_marksBeside_258__8 b)) (fun b => f25 12 b (nr_X3_marksBeside_258__12 b)) (fun b => f25 14 b (nr_X3_marksBeside_258__14 b)) (fun b => f25 16 b (nr_X3_marksBeside_258__16 b)) (fun b => f25 18 b (nr_X3_marksBeside_258__18 b)) (fun b => f25 193 b (nr_X3_marksBeside_258__193 b)) (fun b => f25 195 b (nr_X3_marksBeside_258__195 b)) (fun b => f25 197 b (nr_X3_marksBeside_258__197 b)) (fun b => f25 199 b (nr_X3_marksBeside_258__199 b)) (fun b => f25 201 b (nr_X3_marksBeside_258__201 b)) (fun b => f25 203 b (nr_X3_marksBeside_258__203 b)) (fun b => f25 205 b (nr_X3_marksBeside_258__205 b)) (fun b => f25 207 b (nr_X3_marksBeside_258__207 b)) (fun b => f25 209 b (nr_X3_marksBeside_258__209 b)) (fun b => f25 211 b (nr_X3_marksBeside_258__211 b)) (fun b => f25 213 b (nr_X3_marksBeside_258__213 b)) (fun b => f25 215 b (nr_X3_marksBeside_258__215 b)) (fun b => f25 217 b (nr_X3_marksBeside_258__217 b)) (fun b => f25 219 b (nr_X3_marksBeside_258__219 b)) (fun b => f25 222 b (nr_X3_marksBeside_258__222 b))
    have r33 := y_SA.fr o8 (f25 191 16 (by decide)) (f25 6 6 (by decide)) (f25 191 17 (by decide)) (f25 191 18 (by decide)) (fun b => f25 3 b (nr_X3_marksBeside_258__3 b)) (fun b => f25 8 b (nr_X3_marksBeside_258__8 b)) (fun b => f25 12 b (nr_X3_marksBeside_258__12 b)) (fun b => f25 14 b (nr_X3_marksBeside_258__14 b)) (fun b => f25 16 b (nr_X3_marksBeside_258__16 b)) (fun b => f25 18 b (nr_X3_marksBeside_258__18 b)) (fun b => f25 193 b (nr_X3_marksBeside_258__193 b)) (fun b => f25 195 b (nr_X3_marksBeside_258__195 b)) (fun b => f25 197 b (nr_X3_marksBeside_258__197 b)) (fun b => f25 199 b (nr_X3_marksBeside_258__199 b)) (fun b => f25 201 b (nr_X3_marksBeside_258__201 b)) (fun b => f25 203 b (nr_X3_marksBeside_258__203 b)) (fun b => f25 205 b (nr_X3_marksBeside_258__205 b)) (fun b => f25 207 b (nr_X3_marksBeside_258__207 b)) (fun b => f25 209 b (nr_X3_marksBeside_258__209 b)) (fun b => f25 211 b (nr_X3_marksBeside_258__211 b)) (fun b => f25 213 b (nr_X3_marksBeside_258__213 b)) (fun b => f25 215 b (nr_X3_marksBeside_258__215 b)) (fun b => f25 217 b (nr_X3_marksBeside_258__217 b)) (fun b => f25 219 b (nr_X3_marksBeside_258__219 b)) (f25 240 6 (by decide)) (fun b => f25 248 b (nr_X3_marksBeside_258__248 b))
    have r34 := y_YC.fr o9 (f25 191 16 (by decide)) (f25 6 6 (by decide)) (f25 191 17 (by decide)) (f25 191 18 (by decide)) (fun b => f25 3 b (nr_X3_marksBeside_258__3 b)) (fun b => f25 8 b (nr_X3_marksBeside_258__8 b)) (fun b => f25 12 b (nr_X3_marksBeside_258__12 b)) (fun b => f25 14 b (nr_X3_marksBeside_258__14 b)) (fun b => f25 16 b (nr_X3_marksBeside_258__16 b)) (fun b => f25 18 b (nr_X3_marksBeside_258__18 b)) (fun b => f25 193 b (nr_X3_marksBeside_258__193 b)) (fun b => f25 195 b (nr_X3_marksBeside_258__195 b)) (fun b => f25 197 b (nr_X3_marksBeside_258__197 b)) (fun b => f25 199 b (nr_X3_marksBeside_258__199 b)) (fun b => f25 201 b (nr_X3_marksBeside_258__201 b)) (fun b => f25 203 b (nr_X3_marksBeside_258__203 b)) (fun b => f25 205 b (nr_X3_marksBeside_258__205 b)) (fun b => f25 207 b (nr_X3_marksBeside_258__207 b)) (fun b => f25 209 b (nr_X3_marksBeside_258__209 b)) (fun b => f25 211 b (nr_X3_marksBeside_258__211 b)) (fun b => f25 213 b (nr_X3_marksBeside_258__213 b)) (fun b => f25 215 b (nr_X3_marksBeside_258__215 b)) (fun b => f25 217 b (nr_X3_marksBeside_258__217 b)) (fun b => f25 219 b (nr_X3_marksBeside_258__219 b)) (f25 240 6 (by decide)) (fun b => f25 248 b (nr_X3_marksBeside_258__248 b)) (fun b => f25 260 b (nr_X3_marksBeside_258__260 b)) (fun b => f25 262 b (nr_X3_marksBeside_258__262 b)) (fun b => f25 264 b (nr_X3_marksBeside_258__264 b)) (fun b => f25 266 b (nr_X3_marksBeside_258__266 b)) (fun b => f25 268 b (nr_X3_marksBeside_258__268 b)) (fun b => f25 270 b (nr_X3_marksBeside_258__270 b)) (fun b => f25 272 b (nr_X3_marksBeside_258__272 b)) (fun b => f25 274 b (nr_X3_marksBeside_258__274 b)) (fun b => f25 276 b (nr_X3_marksBeside_258__276 b)) (fun b => f25 278 b (nr_X3_marksBeside_258__278 b)) (f25 279 9 (by decide)) (fun b => f25 281 b (nr_X3_marksBeside_258__281 b)) (fun b => f25 283 b (nr_X3_marksBeside_258__283 b)) (fun b => f25 285 b (nr_X3_marksBeside_258__285 b)) (fun b => f25 287 b (nr_X3_marksBeside_258__287 b)) (fun b => f25 289 b (nr_X3_marksBeside_258__289 b)) (fun b => f25 291 b (nr_X3_marksBeside_258__291 b)) (fun b => f25 293 b (nr_X3_marksBeside_258__293 b)) (fun b => f25 295 b (nr_X3_marksBeside_258__295 b))
    have r35 := y_B0.fr o7.1.1 (f25 211 0 (by decide)) (f25 213 0 (by decide))
    exact sj_X11_side_1Y_J55 hfu r0 s23 c24 f26 x27 (by omega) (y_V3.u r32 (Or.inr r33)) (y_Y4.c r34)
  · refine T_if1 (by decide +kernel) ?_
    refine T_let 258 (by decide +kernel) ?_
    refine T_if1 (by decide +kernel) ?_
    refine T_useI (sf_X3_lettersBeside_258 hfu s1 c2 a1 a2 (by omega) (by omega)) (fun v41 s36 hq => ?_)
    obtain ⟨c37, f38, ⟨x40, rfl, b42, b43⟩⟩ := hq
    refine T_vI ?_
    have f39 := z_Fr.tr (R := R_X11_side_1) f4 f38 (fun a b h => absurd h not_false)
    have t44 : s36 240 6 = s1 240 6 := f38 240 6 (by decide)
    have r45 := y_U3.fr o7 (f38 191 16 (by decide)) (f38 6 6 (by decide)) (f38 191 17 (by decide)) (f38 191 18 (by decide)) (fun b => f38 3 b (nr_X3_lettersBeside_258__3 b)) (fun b => f38 8 b (nr_X3_lettersBeside_258__8 b)) (fun b => f38 12 b (nr_X3_lettersBeside_258__12 b)) (fun b => f38 14 b (nr_X3_lettersBeside_258__14 b)) (fun b => f38 16 b (nr_X3_lettersBeside_258__16 b)) (fun b => f38 18 b (nr_X3_lettersBeside_258__18 b)) (fun b => f38 193 b (nr_X3_lettersBeside_258__193 b)) (fun b => f38 195 b (nr_X3_lettersBeside_258__195 b)) (fun b => f38 197 b (nr_X3_lettersBeside_258__197 b)) (fun b => f38 199 b (nr_X3_lettersBeside_258__199 b)) (fun b => f38 201 b (nr_X3_lettersBeside_258__201 b)) (fun b => f38 203 b (nr_X3_lettersBeside_258__203 b)) (fun b => f38 205 b (nr_X3_lettersBeside_258__205 b)) (fun b => f38 207 b (nr_X3_lettersBeside_258__207 b)) (fun b => f38 209 b (nr_X3_lettersBeside_258__209 b)) (fun b => f38 211 b (nr_X3_lettersBeside_258__211 b)) (fun b => f38 213 b (nr_X3_lettersBeside_258__213 b)) (fun b => f38 215 b (nr_X3_lettersBeside_258__215 b)) (fun b => f38 217 b (nr_X3_lettersBeside_258__217 b)) (fun b => f38 219 b (nr_X3_lettersBeside_258__219 b)) (fun b => f38 222 b (nr_X3_lettersBeside_258__222 b))
    have r46 := y_SA.fr o8 (f38 191 16 (by decide)) (f38 6 6 (by decide)) (f38 191 17 (by decide)) (f38 191 18 (by decide)) (fun b => f38 3 b (nr_X3_lettersBeside_258__3 b)) (fun b => f38 8 b (nr_X3_lettersBeside_258__8 b)) (fun b => f38 12 b (nr_X3_lettersBeside_258__12 b)) (fun b => f38 14 b (nr_X3_lettersBeside_258__14 b)) (fun b => f38 16 b (nr_X3_lettersBeside_258__16 b)) (fun b => f38 18 b (nr_X3_lettersBeside_258__18 b)) (fun b => f38 193 b (nr_X3_lettersBeside_258__193 b)) (fun b => f38 195 b (nr_X3_lettersBeside_258__195 b)) (fun b => f38 197 b (nr_X3_lettersBeside_258__197 b)) (fun b => f38 199 b (nr_X3_lettersBeside_258__199 b)) (fun b => f38 201 b (nr_X3_lettersBeside_258__201 b)) (fun b => f38 203 b (nr_X3_lettersBeside_258__203 b)) (fun b => f38 205 b (nr_X3_lettersBeside_258__205 b)) (fun b => f38 207 b (nr_X3_lettersBeside_258__207 b)) (fun b => f38 209 b (nr_X3_lettersBeside_258__209 b)) (fun b => f38 211 b (nr_X3_lettersBeside_258__211 b)) (fun b => f38 213 b (nr_X3_lettersBeside_258__213 b)) (fun b => f38 215 b (nr_X3_lettersBeside_258__215 b)) (fun b => f38 217 b (nr_X3_lettersBeside_258__217 b)) (fun b => f38 219 b (nr_X3_lettersBeside_258__219 b)) (f38 240 6 (by decide)) (fun b => f38 248 b (nr_X3_lettersBeside_258__248 b))
    have r47 := y_YC.fr o9 (f38 191 16 (by decide)) (f38 6 6 (by decide)) (f38 191 17 (by decide)) (f38 191 18 (by decide)) (fun b => f38 3 b (nr_X3_lettersBeside_258__3 b)) (fun b => f38 8 b (nr_X3_lettersBeside_258__8 b)) (fun b => f38 12 b (nr_X3_lettersBeside_258__12 b)) (fun b => f38 14 b (nr_X3_lettersBeside_258__14 b)) (fun b => f38 16 b (nr_X3_lettersBeside_258__16 b)) (fun b => f38 18 b (nr_X3_lettersBeside_258__18 b)) (fun b => f38 193 b (nr_X3_lettersBeside_258__193 b)) (fun b => f38 195 b (nr_X3_lettersBeside_258__195 b)) (fun b => f38 197 b (nr_X3_lettersBeside_258__197 b)) (fun b => f38 199 b (nr_X3_lettersBeside_258__199 b)) (fun b => f38 201 b (nr_X3_lettersBeside_258__201 b)) (fun b => f38 203 b (nr_X3_lettersBeside_258__203 b)) (fun b => f38 205 b (nr_X3_lettersBeside_258__205 b)) (fun b => f38 207 b (nr_X3_lettersBeside_258__207 b)) (fun b => f38 209 b (nr_X3_lettersBeside_258__209 b)) (fun b => f38 211 b (nr_X3_lettersBeside_258__211 b)) (fun b => f38 213 b (nr_X3_lettersBeside_258__213 b)) (fun b => f38 215 b (nr_X3_lettersBeside_258__215 b)) (fun b => f38 217 b (nr_X3_lettersBeside_258__217 b)) (fun b => f38 219 b (nr_X3_lettersBeside_258__219 b)) (f38 240 6 (by decide)) (fun b => f38 248 b (nr_X3_lettersBeside_258__248 b)) (fun b => f38 260 b (nr_X3_lettersBeside_258__260 b)) (fun b => f38 262 b (nr_X3_lettersBeside_258__262 b)) (fun b => f38 264 b (nr_X3_lettersBeside_258__264 b)) (fun b => f38 266 b (nr_X3_lettersBeside_258__266 b)) (fun b => f38 268 b (nr_X3_lettersBeside_258__268 b)) (fun b => f38 270 b (nr_X3_lettersBeside_258__270 b)) (fun b => f38 272 b (nr_X3_lettersBeside_258__272 b)) (fun b => f38 274 b (nr_X3_lettersBeside_258__274 b)) (fun b => f38 276 b (nr_X3_lettersBeside_258__276 b)) (fun b => f38 278 b (nr_X3_lettersBeside_258__278 b)) (f38 279 9 (by decide)) (fun b => f38 281 b (nr_X3_lettersBeside_258__281 b)) (fun b => f38 283 b (nr_X3_lettersBeside_258__283 b)) (fun b => f38 285 b (nr_X3_lettersBeside_258__285 b)) (fun b => f38 287 b (nr_X3_lettersBeside_258__287 b)) (fun b => f38 289 b (nr_X3_lettersBeside_258__289 b)) (fun b => f38 291 b (nr_X3_lettersBeside_258__291 b)) (fun b => f38 293 b (nr_X3_lettersBeside_258__293 b)) (fun b => f38 295 b (nr_X3_lettersBeside_258__295 b))
    have r48 := y_B0.fr o7.1.1 (f38 211 0 (by decide)) (f38 213 0 (by decide))
    exact sj_X11_side_1Y_J55 hfu r0 s36 c37 f39 x40 (by omega) (y_V3.u r45 (Or.inr r46)) (y_Y4.c r47)
abbrev P_X11_refreshSides_1Y (r0 : z_M) : z_V → z_M → Prop := fun v s' => z_CI s' ∧ z_Fr R_X11_refreshSides_1 r0 s' ∧ (y_V3 s') ∧ (y_Y4 s') ∧ (v = vN)
theorem sj_X11_refreshSides_1Y_J19 {fu : Nat} (hfu : 8589934592 ≤ fu) (r0 s : z_M) (c : z_CI s) (f : z_Fr R_X11_refreshSides_1 r0 s) (p0 : y_V3 s) (p1 : y_Y4 s) : z_T (fX11_refreshSides_J19 fu s) (P_X11_refreshSides_1Y r0) := by
  refine T_of (fX11_refreshSides_J19.eq_1 ..) ?_
  have u1 := CI_b c (k := 1) (j := 18) bd_1_18
  exact T_ret ⟨c, f, p0, p1, rfl⟩
theorem nr_X8_build_296__260 (b : Int) : ¬ R_X8_build_296 260 b := by
  unfold R_X8_build_296; omega
theorem nr_X8_build_296__262 (b : Int) : ¬ R_X8_build_296 262 b := by
  unfold R_X8_build_296; omega
theorem nr_X8_build_296__264 (b : Int) : ¬ R_X8_build_296 264 b := by
  unfold R_X8_build_296; omega
theorem nr_X8_build_296__266 (b : Int) : ¬ R_X8_build_296 266 b := by
  unfold R_X8_build_296; omega
theorem nr_X8_build_296__268 (b : Int) : ¬ R_X8_build_296 268 b := by
  unfold R_X8_build_296; omega
theorem nr_X8_build_296__270 (b : Int) : ¬ R_X8_build_296 270 b := by
  unfold R_X8_build_296; omega
theorem nr_X8_build_296__272 (b : Int) : ¬ R_X8_build_296 272 b := by
  unfold R_X8_build_296; omega
theorem nr_X8_build_296__274 (b : Int) : ¬ R_X8_build_296 274 b := by
  unfold R_X8_build_296; omega
theorem nr_X8_build_296__276 (b : Int) : ¬ R_X8_build_296 276 b := by
  unfold R_X8_build_296; omega
theorem nr_X8_build_296__278 (b : Int) : ¬ R_X8_build_296 278 b := by
  unfold R_X8_build_296; omega
theorem nr_X8_build_296__281 (b : Int) : ¬ R_X8_build_296 281 b := by
  unfold R_X8_build_296; omega
theorem nr_X8_build_296__283 (b : Int) : ¬ R_X8_build_296 283 b := by
  unfold R_X8_build_296; omega
theorem nr_X8_build_296__285 (b : Int) : ¬ R_X8_build_296 285 b := by
  unfold R_X8_build_296; omega
theorem nr_X8_build_296__287 (b : Int) : ¬ R_X8_build_296 287 b := by
  unfold R_X8_build_296; omega
theorem nr_X8_build_296__289 (b : Int) : ¬ R_X8_build_296 289 b := by
  unfold R_X8_build_296; omega
theorem nr_X8_build_296__291 (b : Int) : ¬ R_X8_build_296 291 b := by
  unfold R_X8_build_296; omega
theorem nr_X8_build_296__293 (b : Int) : ¬ R_X8_build_296 293 b := by
  unfold R_X8_build_296; omega
theorem nr_X8_build_296__295 (b : Int) : ¬ R_X8_build_296 295 b := by
  unfold R_X8_build_296; omega
theorem sf_X11_refreshSides_1Y {fu : Nat} (hfu : 8589934592 ≤ fu) (r0 : z_M) (c0 : z_CI r0) (p0 : y_V3 r0) (p1 : y_Y4 r0) : z_T (fX11_refreshSides fu r0 1) (P_X11_refreshSides_1Y r0) := by
  refine T_of (fX11_refreshSides.eq_1 ..) ?_
  refine T_if1 (by decide +kernel) ?_
  refine T_leq (fun x1 e2 => ?_)
  have u3 := CI_b c0 (k := 1) (j := 18) bd_1_18
  refine T_ite (fun h4 => ?_) (fun h4 => ?_)
  · exact sj_X11_refreshSides_1Y_J19 hfu r0 r0 c0 z_Fr.rf p0 p1
  · refine T_if1 (by decide +kernel) ?_
    refine T_let 296 (by decide +kernel) ?_
    refine T_if1 (by decide +kernel) ?_
    refine T_useN (sf_X8_build_296 hfu r0 c0) (fun v10 s5 hq => ?_)
    obtain ⟨c6, f7, rfl⟩ := hq
    refine T_vN ?_
    have f8 := z_Fr.tr (R := R_X11_refreshSides_1) z_Fr.rf f7 rs_X8_build_296__X11_refreshSides_1
    have t13 : s5 1 18 = r0 1 18 := f7 1 18 (by decide)
    have r14 := y_V3.fr p0 (f7 1 16 (by decide)) (f7 1 17 (by decide)) (f7 191 16 (by decide)) (f7 6 6 (by decide)) (f7 191 17 (by decide)) (f7 191 18 (by decide)) (fun b => f7 3 b (nr_X8_build_296__3 b)) (fun b => f7 8 b (nr_X8_build_296__8 b)) (fun b => f7 12 b (nr_X8_build_296__12 b)) (fun b => f7 14 b (nr_X8_build_296__14 b)) (fun b => f7 16 b (nr_X8_build_296__16 b)) (fun b => f7 18 b (nr_X8_build_296__18 b)) (fun b => f7 193 b (nr_X8_build_296__193 b)) (fun b => f7 195 b (nr_X8_build_296__195 b)) (fun b => f7 197 b (nr_X8_build_296__197 b)) (fun b => f7 199 b (nr_X8_build_296__199 b)) (fun b => f7 201 b (nr_X8_build_296__201 b)) (fun b => f7 203 b (nr_X8_build_296__203 b)) (fun b => f7 205 b (nr_X8_build_296__205 b)) (fun b => f7 207 b (nr_X8_build_296__207 b)) (fun b => f7 209 b (nr_X8_build_296__209 b)) (fun b => f7 211 b (nr_X8_build_296__211 b)) (fun b => f7 213 b (nr_X8_build_296__213 b)) (fun b => f7 215 b (nr_X8_build_296__215 b)) (fun b => f7 217 b (nr_X8_build_296__217 b)) (fun b => f7 219 b (nr_X8_build_296__219 b)) (fun b => f7 222 b (nr_X8_build_296__222 b)) (f7 240 6 (by decide)) (fun b => f7 248 b (nr_X8_build_296__248 b))
    have r15 := y_Y4.fr p1 (f7 1 16 (by decide)) (f7 1 17 (by decide)) (f7 191 16 (by decide)) (f7 6 6 (by decide)) (f7 191 17 (by decide)) (f7 191 18 (by decide)) (fun b => f7 3 b (nr_X8_build_296__3 b)) (fun b => f7 8 b (nr_X8_build_296__8 b)) (fun b => f7 12 b (nr_X8_build_296__12 b)) (fun b => f7 14 b (nr_X8_build_296__14 b)) (fun b => f7 16 b (nr_X8_build_296__16 b)) (fun b => f7 18 b (nr_X8_build_296__18 b)) (fun b => f7 193 b (nr_X8_build_296__193 b)) (fun b => f7 195 b (nr_X8_build_296__195 b)) (fun b => f7 197 b (nr_X8_build_296__197 b)) (fun b => f7 199 b (nr_X8_build_296__199 b)) (fun b => f7 201 b (nr_X8_build_296__201 b)) (fun b => f7 203 b (nr_X8_build_296__203 b)) (fun b => f7 205 b (nr_X8_build_296__205 b)) (fun b => f7 207 b (nr_X8_build_296__207 b)) (fun b => f7 209 b (nr_X8_build_296__209 b)) (fun b => f7 211 b (nr_X8_build_296__211 b)) (fun b => f7 213 b (nr_X8_build_296__213 b)) (fun b => f7 215 b (nr_X8_build_296__215 b)) (fun b => f7 217 b (nr_X8_build_296__217 b)) (fun b => f7 219 b (nr_X8_build_296__219 b)) (f7 240 6 (by decide)) (fun b => f7 248 b (nr_X8_build_296__248 b)) (fun b => f7 260 b (nr_X8_build_296__260 b)) (fun b => f7 262 b (nr_X8_build_296__262 b)) (fun b => f7 264 b (nr_X8_build_296__264 b)) (fun b => f7 266 b (nr_X8_build_296__266 b)) (fun b => f7 268 b (nr_X8_build_296__268 b)) (fun b => f7 270 b (nr_X8_build_296__270 b)) (fun b => f7 272 b (nr_X8_build_296__272 b)) (fun b => f7 274 b (nr_X8_build_296__274 b)) (fun b => f7 276 b (nr_X8_build_296__276 b)) (fun b => f7 278 b (nr_X8_build_296__278 b)) (f7 279 9 (by decide)) (fun b => f7 281 b (nr_X8_build_296__281 b)) (fun b => f7 283 b (nr_X8_build_296__283 b)) (fun b => f7 285 b (nr_X8_build_296__285 b)) (fun b => f7 287 b (nr_X8_build_296__287 b)) (fun b => f7 289 b (nr_X8_build_296__289 b)) (fun b => f7 291 b (nr_X8_build_296__291 b)) (fun b => f7 293 b (nr_X8_build_296__293 b)) (fun b => f7 295 b (nr_X8_build_296__295 b))
    have r16 := y_B0.fr p0.1.1 (f7 211 0 (by decide)) (f7 213 0 (by decide))
    refine T_if1 ⟨(by decide +kernel), by unfold z_bl; omega⟩ ?_
    refine T_upg c6 bd_1_18 (by omega) (fun s17 c18 g20 g21 e22 => ?_)
    have f19 := z_Fr.upf (R := R_X11_refreshSides_1) f8 g20 g21 (Or.inr (Or.inl (⟨rfl, by decide⟩)))
    have r23 := y_V3.fr r14 (g21 16 (by decide)) (g21 17 (by decide)) (g20 191 16 (by decide)) (g20 6 6 (by decide)) (g20 191 17 (by decide)) (g20 191 18 (by decide)) (fun b => g20 3 b (by decide)) (fun b => g20 8 b (by decide)) (fun b => g20 12 b (by decide)) (fun b => g20 14 b (by decide)) (fun b => g20 16 b (by decide)) (fun b => g20 18 b (by decide)) (fun b => g20 193 b (by decide)) (fun b => g20 195 b (by decide)) (fun b => g20 197 b (by decide)) (fun b => g20 199 b (by decide)) (fun b => g20 201 b (by decide)) (fun b => g20 203 b (by decide)) (fun b => g20 205 b (by decide)) (fun b => g20 207 b (by decide)) (fun b => g20 209 b (by decide)) (fun b => g20 211 b (by decide)) (fun b => g20 213 b (by decide)) (fun b => g20 215 b (by decide)) (fun b => g20 217 b (by decide)) (fun b => g20 219 b (by decide)) (fun b => g20 222 b (by decide)) (g20 240 6 (by decide)) (fun b => g20 248 b (by decide))
    have r24 := y_Y4.fr r15 (g21 16 (by decide)) (g21 17 (by decide)) (g20 191 16 (by decide)) (g20 6 6 (by decide)) (g20 191 17 (by decide)) (g20 191 18 (by decide)) (fun b => g20 3 b (by decide)) (fun b => g20 8 b (by decide)) (fun b => g20 12 b (by decide)) (fun b => g20 14 b (by decide)) (fun b => g20 16 b (by decide)) (fun b => g20 18 b (by decide)) (fun b => g20 193 b (by decide)) (fun b => g20 195 b (by decide)) (fun b => g20 197 b (by decide)) (fun b => g20 199 b (by decide)) (fun b => g20 201 b (by decide)) (fun b => g20 203 b (by decide)) (fun b => g20 205 b (by decide)) (fun b => g20 207 b (by decide)) (fun b => g20 209 b (by decide)) (fun b => g20 211 b (by decide)) (fun b => g20 213 b (by decide)) (fun b => g20 215 b (by decide)) (fun b => g20 217 b (by decide)) (fun b => g20 219 b (by decide)) (g20 240 6 (by decide)) (fun b => g20 248 b (by decide)) (fun b => g20 260 b (by decide)) (fun b => g20 262 b (by decide)) (fun b => g20 264 b (by decide)) (fun b => g20 266 b (by decide)) (fun b => g20 268 b (by decide)) (fun b => g20 270 b (by decide)) (fun b => g20 272 b (by decide)) (fun b => g20 274 b (by decide)) (fun b => g20 276 b (by decide)) (fun b => g20 278 b (by decide)) (g20 279 9 (by decide)) (fun b => g20 281 b (by decide)) (fun b => g20 283 b (by decide)) (fun b => g20 285 b (by decide)) (fun b => g20 287 b (by decide)) (fun b => g20 289 b (by decide)) (fun b => g20 291 b (by decide)) (fun b => g20 293 b (by decide)) (fun b => g20 295 b (by decide))
    have r25 := y_B0.fr r16 (g20 211 0 (by decide)) (g20 213 0 (by decide))
    exact sj_X11_refreshSides_1Y_J19 hfu r0 s17 c18 f19 r23 r24
abbrev P_X11_gutter_1Y (r0 : z_M) : z_V → z_M → Prop := fun v s' => z_CI s' ∧ z_Fr R_X11_gutter_1 r0 s' ∧ (y_V3 s') ∧ (y_Y4 s') ∧ ((∃ x, v = vI x ∧ -2147483648 ≤ x ∧ x ≤ 2147483647) ∨ v = vX 0)
theorem nr_X11_refreshSides_1__260 (b : Int) : ¬ R_X11_refreshSides_1 260 b := by
  unfold R_X11_refreshSides_1; omega
theorem nr_X11_refreshSides_1__262 (b : Int) : ¬ R_X11_refreshSides_1 262 b := by
  unfold R_X11_refreshSides_1; omega
theorem nr_X11_refreshSides_1__264 (b : Int) : ¬ R_X11_refreshSides_1 264 b := by
  unfold R_X11_refreshSides_1; omega
theorem nr_X11_refreshSides_1__266 (b : Int) : ¬ R_X11_refreshSides_1 266 b := by
  unfold R_X11_refreshSides_1; omega
theorem nr_X11_refreshSides_1__268 (b : Int) : ¬ R_X11_refreshSides_1 268 b := by
  unfold R_X11_refreshSides_1; omega
theorem nr_X11_refreshSides_1__270 (b : Int) : ¬ R_X11_refreshSides_1 270 b := by
  unfold R_X11_refreshSides_1; omega
theorem nr_X11_refreshSides_1__272 (b : Int) : ¬ R_X11_refreshSides_1 272 b := by
  unfold R_X11_refreshSides_1; omega
theorem nr_X11_refreshSides_1__274 (b : Int) : ¬ R_X11_refreshSides_1 274 b := by
  unfold R_X11_refreshSides_1; omega
theorem nr_X11_refreshSides_1__276 (b : Int) : ¬ R_X11_refreshSides_1 276 b := by
  unfold R_X11_refreshSides_1; omega
theorem nr_X11_refreshSides_1__278 (b : Int) : ¬ R_X11_refreshSides_1 278 b := by
  unfold R_X11_refreshSides_1; omega
theorem nr_X11_refreshSides_1__281 (b : Int) : ¬ R_X11_refreshSides_1 281 b := by
  unfold R_X11_refreshSides_1; omega
theorem nr_X11_refreshSides_1__283 (b : Int) : ¬ R_X11_refreshSides_1 283 b := by
  unfold R_X11_refreshSides_1; omega
theorem nr_X11_refreshSides_1__285 (b : Int) : ¬ R_X11_refreshSides_1 285 b := by
  unfold R_X11_refreshSides_1; omega
theorem nr_X11_refreshSides_1__287 (b : Int) : ¬ R_X11_refreshSides_1 287 b := by
  unfold R_X11_refreshSides_1; omega
theorem nr_X11_refreshSides_1__289 (b : Int) : ¬ R_X11_refreshSides_1 289 b := by
  unfold R_X11_refreshSides_1; omega
theorem nr_X11_refreshSides_1__291 (b : Int) : ¬ R_X11_refreshSides_1 291 b := by
  unfold R_X11_refreshSides_1; omega
theorem nr_X11_refreshSides_1__293 (b : Int) : ¬ R_X11_refreshSides_1 293 b := by
  unfold R_X11_refreshSides_1; omega
theorem nr_X11_refreshSides_1__295 (b : Int) : ¬ R_X11_refreshSides_1 295 b := by
  unfold R_X11_refreshSides_1; omega
theorem sj_X11_gutter_1Y_J48 {fu : Nat} (hfu : 8589934592 ≤ fu) (r0 s : z_M) (c : z_CI s) (f : z_Fr R_X11_gutter_1 r0 s) (t0 : Int) (d0 : -2147483648 ≤ t0 ∧ t0 ≤ 2147483647) (p0 : y_V3 s) (p1 : y_Y4 s) : z_T (fX11_gutter_J48 fu s t0) (P_X11_gutter_1Y r0) := by
  refine T_of (fX11_gutter_J48.eq_1 ..) ?_
  have u1 := CI_b c (k := 240) (j := 6) bd_240_6
  exact T_ret ⟨c, f, p0, p1, Or.inl (⟨t0, rfl, by omega, by omega⟩)⟩
set_option maxHeartbeats 4000000 in
theorem sf_X11_gutter_1Y {fu : Nat} (hfu : 8589934592 ≤ fu) (r0 : z_M) (c0 : z_CI r0) (a1 : Int) (b1 : -2147483648 ≤ a1 ∧ a1 ≤ 2147483647) (p0 : y_V3 r0) (p1 : y_Y4 r0) : z_T (fX11_gutter fu r0 1 a1) (P_X11_gutter_1Y r0) := by
  refine T_of (fX11_gutter.eq_1 ..) ?_
  refine T_if1 (by decide +kernel) ?_
  refine T_useN (sf_X11_refresh_1Y hfu r0 c0 p0 p1) (fun v6 s1 hq => ?_)
  obtain ⟨c2, f3, o7, o8, o9, rfl⟩ := hq
  refine T_vN ?_
  have f4 := z_Fr.tr (R := R_X11_gutter_1) z_Fr.rf f3 rs_X11_refresh_1__X11_gutter_1
  have u12 := CI_b c2 (k := 240) (j := 6) bd_240_6
  refine T_if1 (by decide +kernel) ?_
  refine T_let 240 (by decide +kernel) ?_
  refine T_if1 (by decide +kernel) ?_
  refine T_leq (fun x13 e14 => ?_)
  have u15 := CI_b c2 (k := 240) (j := 6) bd_240_6
  refine T_if1 (by decide +kernel) ?_
  refine T_ne ?_ (fun h16 h17 => ?_)
  · exact T_ret ⟨CI_up c2 bd_1_14 (z_wb rfl).1, z_Fr.upf (R := R_X11_gutter_1) f4 (fun a b h => z_up_k h) (fun b h => z_up_j h) (Or.inr (Or.inr (Or.inr (Or.inr (Or.inr (Or.inr (Or.inr (Or.inr (Or.inl (⟨rfl, by decide⟩)))))))))), y_V3.u (y_U3.fr o7 (z_up_k (by decide)) (z_up_k (by decide)) (z_up_k (by decide)) (z_up_k (by decide)) (fun _ => z_up_k (by decide)) (fun _ => z_up_k (by decide)) (fun _ => z_up_k (by decide)) (fun _ => z_up_k (by decide)) (fun _ => z_up_k (by decide)) (fun _ => z_up_k (by decide)) (fun _ => z_up_k (by decide)) (fun _ => z_up_k (by decide)) (fun _ => z_up_k (by decide)) (fun _ => z_up_k (by decide)) (fun _ => z_up_k (by decide)) (fun _ => z_up_k (by decide)) (fun _ => z_up_k (by decide)) (fun _ => z_up_k (by decide)) (fun _ => z_up_k (by decide)) (fun _ => z_up_k (by decide)) (fun _ => z_up_k (by decide)) (fun _ => z_up_k (by decide)) (fun _ => z_up_k (by decide)) (fun _ => z_up_k (by decide)) (fun _ => z_up_k (by decide))) (y_L3.fr (show y_L3 s1 from (Or.inr o8)) (z_up_j (by decide)) (z_up_k (by decide)) (z_up_k (by decide)) (z_up_k (by decide)) (z_up_k (by decide)) (fun _ => z_up_k (by decide)) (fun _ => z_up_k (by decide)) (fun _ => z_up_k (by decide)) (fun _ => z_up_k (by decide)) (fun _ => z_up_k (by decide)) (fun _ => z_up_k (by decide)) (fun _ => z_up_k (by decide)) (fun _ => z_up_k (by decide)) (fun _ => z_up_k (by decide)) (fun _ => z_up_k (by decide)) (fun _ => z_up_k (by decide)) (fun _ => z_up_k (by decide)) (fun _ => z_up_k (by decide)) (fun _ => z_up_k (by decide)) (fun _ => z_up_k (by decide)) (fun _ => z_up_k (by decide)) (fun _ => z_up_k (by decide)) (fun _ => z_up_k (by decide)) (fun _ => z_up_k (by decide)) (fun _ => z_up_k (by decide)) (z_up_k (by decide)) (fun _ => z_up_k (by decide))), y_Y4.c (y_YC.fr o9 (z_up_k (by decide)) (z_up_k (by decide)) (z_up_k (by decide)) (z_up_k (by decide)) (fun _ => z_up_k (by decide)) (fun _ => z_up_k (by decide)) (fun _ => z_up_k (by decide)) (fun _ => z_up_k (by decide)) (fun _ => z_up_k (by decide)) (fun _ => z_up_k (by decide)) (fun _ => z_up_k (by decide)) (fun _ => z_up_k (by decide)) (fun _ => z_up_k (by decide)) (fun _ => z_up_k (by decide)) (fun _ => z_up_k (by decide)) (fun _ => z_up_k (by decide)) (fun _ => z_up_k (by decide)) (fun _ => z_up_k (by decide)) (fun _ => z_up_k (by decide)) (fun _ => z_up_k (by decide)) (fun _ => z_up_k (by decide)) (fun _ => z_up_k (by decide)) (fun _ => z_up_k (by decide)) (fun _ => z_up_k (by decide)) (z_up_k (by decide)) (fun _ => z_up_k (by decide)) (fun _ => z_up_k (by decide)) (fun _ => z_up_k (by decide)) (fun _ => z_up_k (by decide)) (fun _ => z_up_k (by decide)) (fun _ => z_up_k (by decide)) (fun _ => z_up_k (by decide)) (fun _ => z_up_k (by decide)) (fun _ => z_up_k (by decide)) (fun _ => z_up_k (by decide)) (fun _ => z_up_k (by decide)) (z_up_k (by decide)) (fun _ => z_up_k (by decide)) (fun _ => z_up_k (by decide)) (fun _ => z_up_k (by decide)) (fun _ => z_up_k (by decide)) (fun _ => z_up_k (by decide)) (fun _ => z_up_k (by decide)) (fun _ => z_up_k (by decide)) (fun _ => z_up_k (by decide))), Or.inr rfl⟩
  refine T_if1 (by decide +kernel) ?_
  refine T_useN (sf_X11_refreshSides_1Y hfu s1 c2 (y_V3.u o7 (Or.inr o8)) (y_Y4.c o9)) (fun v23 s18 hq => ?_)
  obtain ⟨c19, f20, o24, o25, rfl⟩ := hq
  refine T_vN ?_
  have f21 := z_Fr.tr (R := R_X11_gutter_1) f4 f20 rs_X11_refreshSides_1__X11_gutter_1
  have t28 : s18 240 6 = s1 240 6 := f20 240 6 (by decide)
  have r29 := y_U3.fr o7 (f20 191 16 (by decide)) (f20 6 6 (by decide)) (f20 191 17 (by decide)) (f20 191 18 (by decide)) (fun b => f20 3 b (nr_X11_refreshSides_1__3 b)) (fun b => f20 8 b (nr_X11_refreshSides_1__8 b)) (fun b => f20 12 b (nr_X11_refreshSides_1__12 b)) (fun b => f20 14 b (nr_X11_refreshSides_1__14 b)) (fun b => f20 16 b (nr_X11_refreshSides_1__16 b)) (fun b => f20 18 b (nr_X11_refreshSides_1__18 b)) (fun b => f20 193 b (nr_X11_refreshSides_1__193 b)) (fun b => f20 195 b (nr_X11_refreshSides_1__195 b)) (fun b => f20 197 b (nr_X11_refreshSides_1__197 b)) (fun b => f20 199 b (nr_X11_refreshSides_1__199 b)) (fun b => f20 201 b (nr_X11_refreshSides_1__201 b)) (fun b => f20 203 b (nr_X11_refreshSides_1__203 b)) (fun b => f20 205 b (nr_X11_refreshSides_1__205 b)) (fun b => f20 207 b (nr_X11_refreshSides_1__207 b)) (fun b => f20 209 b (nr_X11_refreshSides_1__209 b)) (fun b => f20 211 b (nr_X11_refreshSides_1__211 b)) (fun b => f20 213 b (nr_X11_refreshSides_1__213 b)) (fun b => f20 215 b (nr_X11_refreshSides_1__215 b)) (fun b => f20 217 b (nr_X11_refreshSides_1__217 b)) (fun b => f20 219 b (nr_X11_refreshSides_1__219 b)) (fun b => f20 222 b (nr_X11_refreshSides_1__222 b))
  have r30 := y_SA.fr o8 (f20 191 16 (by decide)) (f20 6 6 (by decide)) (f20 191 17 (by decide)) (f20 191 18 (by decide)) (fun b => f20 3 b (nr_X11_refreshSides_1__3 b)) (fun b => f20 8 b (nr_X11_refreshSides_1__8 b)) (fun b => f20 12 b (nr_X11_refreshSides_1__12 b)) (fun b => f20 14 b (nr_X11_refreshSides_1__14 b)) (fun b => f20 16 b (nr_X11_refreshSides_1__16 b)) (fun b => f20 18 b (nr_X11_refreshSides_1__18 b)) (fun b => f20 193 b (nr_X11_refreshSides_1__193 b)) (fun b => f20 195 b (nr_X11_refreshSides_1__195 b)) (fun b => f20 197 b (nr_X11_refreshSides_1__197 b)) (fun b => f20 199 b (nr_X11_refreshSides_1__199 b)) (fun b => f20 201 b (nr_X11_refreshSides_1__201 b)) (fun b => f20 203 b (nr_X11_refreshSides_1__203 b)) (fun b => f20 205 b (nr_X11_refreshSides_1__205 b)) (fun b => f20 207 b (nr_X11_refreshSides_1__207 b)) (fun b => f20 209 b (nr_X11_refreshSides_1__209 b)) (fun b => f20 211 b (nr_X11_refreshSides_1__211 b)) (fun b => f20 213 b (nr_X11_refreshSides_1__213 b)) (fun b => f20 215 b (nr_X11_refreshSides_1__215 b)) (fun b => f20 217 b (nr_X11_refreshSides_1__217 b)) (fun b => f20 219 b (nr_X11_refreshSides_1__219 b)) (f20 240 6 (by decide)) (fun b => f20 248 b (nr_X11_refreshSides_1__248 b))
  have r31 := y_YC.fr o9 (f20 191 16 (by decide)) (f20 6 6 (by decide)) (f20 191 17 (by decide)) (f20 191 18 (by decide)) (fun b => f20 3 b (nr_X11_refreshSides_1__3 b)) (fun b => f20 8 b (nr_X11_refreshSides_1__8 b)) (fun b => f20 12 b (nr_X11_refreshSides_1__12 b)) (fun b => f20 14 b (nr_X11_refreshSides_1__14 b)) (fun b => f20 16 b (nr_X11_refreshSides_1__16 b)) (fun b => f20 18 b (nr_X11_refreshSides_1__18 b)) (fun b => f20 193 b (nr_X11_refreshSides_1__193 b)) (fun b => f20 195 b (nr_X11_refreshSides_1__195 b)) (fun b => f20 197 b (nr_X11_refreshSides_1__197 b)) (fun b => f20 199 b (nr_X11_refreshSides_1__199 b)) (fun b => f20 201 b (nr_X11_refreshSides_1__201 b)) (fun b => f20 203 b (nr_X11_refreshSides_1__203 b)) (fun b => f20 205 b (nr_X11_refreshSides_1__205 b)) (fun b => f20 207 b (nr_X11_refreshSides_1__207 b)) (fun b => f20 209 b (nr_X11_refreshSides_1__209 b)) (fun b => f20 211 b (nr_X11_refreshSides_1__211 b)) (fun b => f20 213 b (nr_X11_refreshSides_1__213 b)) (fun b => f20 215 b (nr_X11_refreshSides_1__215 b)) (fun b => f20 217 b (nr_X11_refreshSides_1__217 b)) (fun b => f20 219 b (nr_X11_refreshSides_1__219 b)) (f20 240 6 (by decide)) (fun b => f20 248 b (nr_X11_refreshSides_1__248 b)) (fun b => f20 260 b (nr_X11_refreshSides_1__260 b)) (fun b => f20 262 b (nr_X11_refreshSides_1__262 b)) (fun b => f20 264 b (nr_X11_refreshSides_1__264 b)) (fun b => f20 266 b (nr_X11_refreshSides_1__266 b)) (fun b => f20 268 b (nr_X11_refreshSides_1__268 b)) (fun b => f20 270 b (nr_X11_refreshSides_1__270 b)) (fun b => f20 272 b (nr_X11_refreshSides_1__272 b)) (fun b => f20 274 b (nr_X11_refreshSides_1__274 b)) (fun b => f20 276 b (nr_X11_refreshSides_1__276 b)) (fun b => f20 278 b (nr_X11_refreshSides_1__278 b)) (f20 279 9 (by decide)) (fun b => f20 281 b (nr_X11_refreshSides_1__281 b)) (fun b => f20 283 b (nr_X11_refreshSides_1__283 b)) (fun b => f20 285 b (nr_X11_refreshSides_1__285 b)) (fun b => f20 287 b (nr_X11_refreshSides_1__287 b)) (fun b => f20 289 b (nr_X11_refreshSides_1__289 b)) (fun b => f20 291 b (nr_X11_refreshSides_1__291 b)) (fun b => f20 293 b (nr_X11_refreshSides_1__293 b)) (fun b => f20 295 b (nr_X11_refreshSides_1__295 b))
  have r32 := y_B0.fr o7.1.1 (f20 211 0 (by decide)) (f20 213 0 (by decide))
  refine T_if1 (by decide +kernel) ?_
  refine T_let 240 (by decide +kernel) ?_
  refine T_if1 (by decide +kernel) ?_
  refine T_leq (fun x33 e34 => ?_)
  have u35 := CI_b c19 (k := 240) (j := 6) bd_240_6
  refine T_leq (fun x36 e37 => ?_)
  have w38 := z_wr e37
  refine T_ite (fun h39 => ?_) (fun h39 => ?_)
  · refine T_if1 (by decide +kernel) ?_
    refine T_let 296 (by decide +kernel) ?_
    refine T_if1 (by decide +kernel) ?_
    refine T_let 301 (by decide +kernel) ?_
    refine T_if1 (by decide +kernel) ?_
    refine T_get (by decide +kernel) (c := 302) (by decide +kernel) bdr_302 (by decide) c19 (fun x40 e41 b42 w43 => ?_)
    have l44 : z_ln 301 = 200 := by decide +kernel
    exact sj_X11_gutter_1Y_J48 hfu r0 s18 c19 f21 x40 (by omega) o24 o25
  · exact sj_X11_gutter_1Y_J48 hfu r0 s18 c19 f21 (-1) (by omega) o24 o25
abbrev P_X11_clash_1Y (r0 : z_M) : z_V → z_M → Prop := fun v s' => z_CI s' ∧ z_Fr R_X11_clash_1 r0 s' ∧ (y_V3 s') ∧ (y_Y4 s') ∧ ((∃ x, v = vI x ∧ -2147483648 ≤ x ∧ x ≤ 2147483647) ∨ v = vX 0)
set_option maxHeartbeats 4000000 in
theorem sf_X11_clash_1Y {fu : Nat} (hfu : 8589934592 ≤ fu) (r0 : z_M) (c0 : z_CI r0) (a1 : Int) (b1 : -2147483648 ≤ a1 ∧ a1 ≤ 2147483647) (p0 : y_V3 r0) (p1 : y_Y4 r0) : z_T (fX11_clash fu r0 1 a1) (P_X11_clash_1Y r0) := by
  refine T_of (fX11_clash.eq_1 ..) ?_
  refine T_if1 (by decide +kernel) ?_
  refine T_useN (sf_X11_refresh_1Y hfu r0 c0 p0 p1) (fun v6 s1 hq => ?_)
  obtain ⟨c2, f3, o7, o8, o9, rfl⟩ := hq
  refine T_vN ?_
  have f4 := z_Fr.tr (R := R_X11_clash_1) z_Fr.rf f3 rs_X11_refresh_1__X11_clash_1
  have u12 := CI_b c2 (k := 240) (j := 6) bd_240_6
  refine T_if1 (by decide +kernel) ?_
  refine T_let 240 (by decide +kernel) ?_
  refine T_if1 (by decide +kernel) ?_
  refine T_leq (fun x13 e14 => ?_)
  have u15 := CI_b c2 (k := 240) (j := 6) bd_240_6
  refine T_if1 (by decide +kernel) ?_
  refine T_ne ?_ (fun h16 h17 => ?_)
  · exact T_ret ⟨CI_up c2 bd_1_14 (z_wb rfl).1, z_Fr.upf (R := R_X11_clash_1) f4 (fun a b h => z_up_k h) (fun b h => z_up_j h) (Or.inr (Or.inr (Or.inr (Or.inr (Or.inr (Or.inr (Or.inr (Or.inr (Or.inl (⟨rfl, by decide⟩)))))))))), y_V3.u (y_U3.fr o7 (z_up_k (by decide)) (z_up_k (by decide)) (z_up_k (by decide)) (z_up_k (by decide)) (fun _ => z_up_k (by decide)) (fun _ => z_up_k (by decide)) (fun _ => z_up_k (by decide)) (fun _ => z_up_k (by decide)) (fun _ => z_up_k (by decide)) (fun _ => z_up_k (by decide)) (fun _ => z_up_k (by decide)) (fun _ => z_up_k (by decide)) (fun _ => z_up_k (by decide)) (fun _ => z_up_k (by decide)) (fun _ => z_up_k (by decide)) (fun _ => z_up_k (by decide)) (fun _ => z_up_k (by decide)) (fun _ => z_up_k (by decide)) (fun _ => z_up_k (by decide)) (fun _ => z_up_k (by decide)) (fun _ => z_up_k (by decide)) (fun _ => z_up_k (by decide)) (fun _ => z_up_k (by decide)) (fun _ => z_up_k (by decide)) (fun _ => z_up_k (by decide))) (y_L3.fr (show y_L3 s1 from (Or.inr o8)) (z_up_j (by decide)) (z_up_k (by decide)) (z_up_k (by decide)) (z_up_k (by decide)) (z_up_k (by decide)) (fun _ => z_up_k (by decide)) (fun _ => z_up_k (by decide)) (fun _ => z_up_k (by decide)) (fun _ => z_up_k (by decide)) (fun _ => z_up_k (by decide)) (fun _ => z_up_k (by decide)) (fun _ => z_up_k (by decide)) (fun _ => z_up_k (by decide)) (fun _ => z_up_k (by decide)) (fun _ => z_up_k (by decide)) (fun _ => z_up_k (by decide)) (fun _ => z_up_k (by decide)) (fun _ => z_up_k (by decide)) (fun _ => z_up_k (by decide)) (fun _ => z_up_k (by decide)) (fun _ => z_up_k (by decide)) (fun _ => z_up_k (by decide)) (fun _ => z_up_k (by decide)) (fun _ => z_up_k (by decide)) (fun _ => z_up_k (by decide)) (z_up_k (by decide)) (fun _ => z_up_k (by decide))), y_Y4.c (y_YC.fr o9 (z_up_k (by decide)) (z_up_k (by decide)) (z_up_k (by decide)) (z_up_k (by decide)) (fun _ => z_up_k (by decide)) (fun _ => z_up_k (by decide)) (fun _ => z_up_k (by decide)) (fun _ => z_up_k (by decide)) (fun _ => z_up_k (by decide)) (fun _ => z_up_k (by decide)) (fun _ => z_up_k (by decide)) (fun _ => z_up_k (by decide)) (fun _ => z_up_k (by decide)) (fun _ => z_up_k (by decide)) (fun _ => z_up_k (by decide)) (fun _ => z_up_k (by decide)) (fun _ => z_up_k (by decide)) (fun _ => z_up_k (by decide)) (fun _ => z_up_k (by decide)) (fun _ => z_up_k (by decide)) (fun _ => z_up_k (by decide)) (fun _ => z_up_k (by decide)) (fun _ => z_up_k (by decide)) (fun _ => z_up_k (by decide)) (z_up_k (by decide)) (fun _ => z_up_k (by decide)) (fun _ => z_up_k (by decide)) (fun _ => z_up_k (by decide)) (fun _ => z_up_k (by decide)) (fun _ => z_up_k (by decide)) (fun _ => z_up_k (by decide)) (fun _ => z_up_k (by decide)) (fun _ => z_up_k (by decide)) (fun _ => z_up_k (by decide)) (fun _ => z_up_k (by decide)) (fun _ => z_up_k (by decide)) (z_up_k (by decide)) (fun _ => z_up_k (by decide)) (fun _ => z_up_k (by decide)) (fun _ => z_up_k (by decide)) (fun _ => z_up_k (by decide)) (fun _ => z_up_k (by decide)) (fun _ => z_up_k (by decide)) (fun _ => z_up_k (by decide)) (fun _ => z_up_k (by decide))), Or.inr rfl⟩
  refine T_if1 (by decide +kernel) ?_
  refine T_useN (sf_X11_refreshSides_1Y hfu s1 c2 (y_V3.u o7 (Or.inr o8)) (y_Y4.c o9)) (fun v23 s18 hq => ?_)
  obtain ⟨c19, f20, o24, o25, rfl⟩ := hq
  refine T_vN ?_
  have f21 := z_Fr.tr (R := R_X11_clash_1) f4 f20 rs_X11_refreshSides_1__X11_clash_1
  have t28 : s18 240 6 = s1 240 6 := f20 240 6 (by decide)
  have r29 := y_U3.fr o7 (f20 191 16 (by decide)) (f20 6 6 (by decide)) (f20 191 17 (by decide)) (f20 191 18 (by decide)) (fun b => f20 3 b (nr_X11_refreshSides_1__3 b)) (fun b => f20 8 b (nr_X11_refreshSides_1__8 b)) (fun b => f20 12 b (nr_X11_refreshSides_1__12 b)) (fun b => f20 14 b (nr_X11_refreshSides_1__14 b)) (fun b => f20 16 b (nr_X11_refreshSides_1__16 b)) (fun b => f20 18 b (nr_X11_refreshSides_1__18 b)) (fun b => f20 193 b (nr_X11_refreshSides_1__193 b)) (fun b => f20 195 b (nr_X11_refreshSides_1__195 b)) (fun b => f20 197 b (nr_X11_refreshSides_1__197 b)) (fun b => f20 199 b (nr_X11_refreshSides_1__199 b)) (fun b => f20 201 b (nr_X11_refreshSides_1__201 b)) (fun b => f20 203 b (nr_X11_refreshSides_1__203 b)) (fun b => f20 205 b (nr_X11_refreshSides_1__205 b)) (fun b => f20 207 b (nr_X11_refreshSides_1__207 b)) (fun b => f20 209 b (nr_X11_refreshSides_1__209 b)) (fun b => f20 211 b (nr_X11_refreshSides_1__211 b)) (fun b => f20 213 b (nr_X11_refreshSides_1__213 b)) (fun b => f20 215 b (nr_X11_refreshSides_1__215 b)) (fun b => f20 217 b (nr_X11_refreshSides_1__217 b)) (fun b => f20 219 b (nr_X11_refreshSides_1__219 b)) (fun b => f20 222 b (nr_X11_refreshSides_1__222 b))
  have r30 := y_SA.fr o8 (f20 191 16 (by decide)) (f20 6 6 (by decide)) (f20 191 17 (by decide)) (f20 191 18 (by decide)) (fun b => f20 3 b (nr_X11_refreshSides_1__3 b)) (fun b => f20 8 b (nr_X11_refreshSides_1__8 b)) (fun b => f20 12 b (nr_X11_refreshSides_1__12 b)) (fun b => f20 14 b (nr_X11_refreshSides_1__14 b)) (fun b => f20 16 b (nr_X11_refreshSides_1__16 b)) (fun b => f20 18 b (nr_X11_refreshSides_1__18 b)) (fun b => f20 193 b (nr_X11_refreshSides_1__193 b)) (fun b => f20 195 b (nr_X11_refreshSides_1__195 b)) (fun b => f20 197 b (nr_X11_refreshSides_1__197 b)) (fun b => f20 199 b (nr_X11_refreshSides_1__199 b)) (fun b => f20 201 b (nr_X11_refreshSides_1__201 b)) (fun b => f20 203 b (nr_X11_refreshSides_1__203 b)) (fun b => f20 205 b (nr_X11_refreshSides_1__205 b)) (fun b => f20 207 b (nr_X11_refreshSides_1__207 b)) (fun b => f20 209 b (nr_X11_refreshSides_1__209 b)) (fun b => f20 211 b (nr_X11_refreshSides_1__211 b)) (fun b => f20 213 b (nr_X11_refreshSides_1__213 b)) (fun b => f20 215 b (nr_X11_refreshSides_1__215 b)) (fun b => f20 217 b (nr_X11_refreshSides_1__217 b)) (fun b => f20 219 b (nr_X11_refreshSides_1__219 b)) (f20 240 6 (by decide)) (fun b => f20 248 b (nr_X11_refreshSides_1__248 b))
  have r31 := y_YC.fr o9 (f20 191 16 (by decide)) (f20 6 6 (by decide)) (f20 191 17 (by decide)) (f20 191 18 (by decide)) (fun b => f20 3 b (nr_X11_refreshSides_1__3 b)) (fun b => f20 8 b (nr_X11_refreshSides_1__8 b)) (fun b => f20 12 b (nr_X11_refreshSides_1__12 b)) (fun b => f20 14 b (nr_X11_refreshSides_1__14 b)) (fun b => f20 16 b (nr_X11_refreshSides_1__16 b)) (fun b => f20 18 b (nr_X11_refreshSides_1__18 b)) (fun b => f20 193 b (nr_X11_refreshSides_1__193 b)) (fun b => f20 195 b (nr_X11_refreshSides_1__195 b)) (fun b => f20 197 b (nr_X11_refreshSides_1__197 b)) (fun b => f20 199 b (nr_X11_refreshSides_1__199 b)) (fun b => f20 201 b (nr_X11_refreshSides_1__201 b)) (fun b => f20 203 b (nr_X11_refreshSides_1__203 b)) (fun b => f20 205 b (nr_X11_refreshSides_1__205 b)) (fun b => f20 207 b (nr_X11_refreshSides_1__207 b)) (fun b => f20 209 b (nr_X11_refreshSides_1__209 b)) (fun b => f20 211 b (nr_X11_refreshSides_1__211 b)) (fun b => f20 213 b (nr_X11_refreshSides_1__213 b)) (fun b => f20 215 b (nr_X11_refreshSides_1__215 b)) (fun b => f20 217 b (nr_X11_refreshSides_1__217 b)) (fun b => f20 219 b (nr_X11_refreshSides_1__219 b)) (f20 240 6 (by decide)) (fun b => f20 248 b (nr_X11_refreshSides_1__248 b)) (fun b => f20 260 b (nr_X11_refreshSides_1__260 b)) (fun b => f20 262 b (nr_X11_refreshSides_1__262 b)) (fun b => f20 264 b (nr_X11_refreshSides_1__264 b)) (fun b => f20 266 b (nr_X11_refreshSides_1__266 b)) (fun b => f20 268 b (nr_X11_refreshSides_1__268 b)) (fun b => f20 270 b (nr_X11_refreshSides_1__270 b)) (fun b => f20 272 b (nr_X11_refreshSides_1__272 b)) (fun b => f20 274 b (nr_X11_refreshSides_1__274 b)) (fun b => f20 276 b (nr_X11_refreshSides_1__276 b)) (fun b => f20 278 b (nr_X11_refreshSides_1__278 b)) (f20 279 9 (by decide)) (fun b => f20 281 b (nr_X11_refreshSides_1__281 b)) (fun b => f20 283 b (nr_X11_refreshSides_1__283 b)) (fun b => f20 285 b (nr_X11_refreshSides_1__285 b)) (fun b => f20 287 b (nr_X11_refreshSides_1__287 b)) (fun b => f20 289 b (nr_X11_refreshSides_1__289 b)) (fun b => f20 291 b (nr_X11_refreshSides_1__291 b)) (fun b => f20 293 b (nr_X11_refreshSides_1__293 b)) (fun b => f20 295 b (nr_X11_refreshSides_1__295 b))
  have r32 := y_B0.fr o7.1.1 (f20 211 0 (by decide)) (f20 213 0 (by decide))
  refine T_if1 (by decide +kernel) ?_
  refine T_let 296 (by decide +kernel) ?_
  refine T_if1 (by decide +kernel) ?_
  refine T_let 299 (by decide +kernel) ?_
  refine T_if1 (by decide +kernel) ?_
  refine T_get (by decide +kernel) (c := 300) (by decide +kernel) bdr_300 (by decide) c19 (fun x33 e34 b35 w36 => ?_)
  have l37 : z_ln 299 = 200 := by decide +kernel
  exact T_ret ⟨c19, f21, o24, o25, Or.inl (⟨x33, rfl, by omega, by omega⟩)⟩
