/-! UNITS of the class, all rows: its functions once more (by program, wip/tool/mksimd.py) -/
abbrev P_X11_page_1D (r0 : z_M) : z_V → z_M → Prop := fun v s' => z_CI s' ∧ z_Fr R_X11_page_1 r0 s' ∧ (y_V2 s') ∧ ((∃ x, v = vI x ∧ -2147483648 ≤ x ∧ x ≤ 2147483647) ∨ v = vX 1)
theorem nr_X8_pageEnd_296__3 (b : Int) : ¬ R_X8_pageEnd_296 3 b := not_false
theorem nr_X8_pageEnd_296__16 (b : Int) : ¬ R_X8_pageEnd_296 16 b := not_false
theorem nr_X8_pageEnd_296__18 (b : Int) : ¬ R_X8_pageEnd_296 18 b := not_false
theorem nr_X8_pageEnd_296__199 (b : Int) : ¬ R_X8_pageEnd_296 199 b := not_false
theorem nr_X8_pageEnd_296__201 (b : Int) : ¬ R_X8_pageEnd_296 201 b := not_false
theorem nr_X8_pageEnd_296__203 (b : Int) : ¬ R_X8_pageEnd_296 203 b := not_false
theorem nr_X8_pageEnd_296__205 (b : Int) : ¬ R_X8_pageEnd_296 205 b := not_false
theorem nr_X8_pageEnd_296__207 (b : Int) : ¬ R_X8_pageEnd_296 207 b := not_false
theorem nr_X8_pageEnd_296__209 (b : Int) : ¬ R_X8_pageEnd_296 209 b := not_false
theorem nr_X8_pageEnd_296__211 (b : Int) : ¬ R_X8_pageEnd_296 211 b := not_false
theorem nr_X8_pageEnd_296__213 (b : Int) : ¬ R_X8_pageEnd_296 213 b := not_false
theorem nr_X8_pageEnd_296__217 (b : Int) : ¬ R_X8_pageEnd_296 217 b := not_false
theorem nr_X8_pageEnd_296__219 (b : Int) : ¬ R_X8_pageEnd_296 219 b := not_false
theorem sl_X11_page_1D_L45 {fu : Nat} (hfu : 8589934592 ≤ fu) (r0 : z_M) (a1 : Int) (a2 : Int) (a3 : Int) (b1 : -2147483648 ≤ a1 ∧ a1 ≤ 2147483647) (b2 : -2147483648 ≤ a2 ∧ a2 ≤ 2147483647) (b3 : -2147483648 ≤ a3 ∧ a3 ≤ 2147483647) {k : z_M → Int → z_O} (hk : ∀ (s' : z_M) (v4 : Int), z_CI s' → z_Fr R_X11_page_1 r0 s' → (0 ≤ v4 ∧ v4 ≤ 201) → (y_V2 s') → z_T (k s' v4) (P_X11_page_1D r0)) : ∀ (F : Nat) (s : z_M) (a4 : Int) (a5 : Int), z_CI s → z_Fr R_X11_page_1 r0 s → (0 ≤ a4 ∧ a4 ≤ 201) → (-2147483648 ≤ a5 ∧ a5 ≤ 2147483647) → (y_V2 s) → (2147483647 - a5 < (F : Int)) → z_T (fX11_page_L45 fu 1 a1 a2 a3 F s a4 a5 k) (P_X11_page_1D r0) := by
  intro F
  induction F with
  | zero =>
    intro s a4 a5 c f b4 b5 i0 hm
    have u24 := CI_b c (k := 240) (j := 6) bd_240_6
    exfalso; omega
  | succ F ih =>
    intro s a4 a5 c f b4 b5 i0 hm
    refine T_of (fX11_page_L45.eq_2 ..) ?_
    have u1 := CI_b c (k := 240) (j := 6) bd_240_6
    refine T_ite (fun h2 => ?_) (fun h2 => ?_)
    · exact hk s a4 c f (by omega) i0
    · refine T_if1 (by decide +kernel) ?_
      refine T_let 240 (by decide +kernel) ?_
      refine T_if1 (by decide +kernel) ?_
      refine T_leq (fun x3 e4 => ?_)
      have u5 := CI_b c (k := 240) (j := 6) bd_240_6
      refine T_ite (fun h6 => ?_) (fun h6 => ?_)
      · exact hk s a4 c f (by omega) i0
      · refine T_if1 (by decide +kernel) ?_
        refine T_let 296 (by decide +kernel) ?_
        refine T_if1 (by decide +kernel) ?_
        refine T_useI (sf_X8_pageEnd_296 hfu s c a4 a1 (by omega) (by omega)) (fun v12 s7 hq => ?_)
        obtain ⟨c8, f9, ⟨x11, rfl, b13, b14⟩⟩ := hq
        refine T_vI ?_
        have f10 := z_Fr.tr (R := R_X11_page_1) f f9 (fun a b h => absurd h not_false)
        have t15 : s7 240 6 = s 240 6 := f9 240 6 (by decide)
        have r16 := y_V2.fr i0 (f9 1 16 (by decide)) (f9 191 16 (by decide)) (f9 6 6 (by decide)) (f9 191 17 (by decide)) (f9 191 18 (by decide)) (fun b => f9 3 b (nr_X8_pageEnd_296__3 b)) (fun b => f9 8 b (nr_X8_pageEnd_296__8 b)) (fun b => f9 12 b (nr_X8_pageEnd_296__12 b)) (fun b => f9 14 b (nr_X8_pageEnd_296__14 b)) (fun b => f9 16 b (nr_X8_pageEnd_296__16 b)) (fun b => f9 18 b (nr_X8_pageEnd_296__18 b)) (fun b => f9 193 b (nr_X8_pageEnd_296__193 b)) (fun b => f9 195 b (nr_X8_pageEnd_296__195 b)) (fun b => f9 197 b (nr_X8_pageEnd_296__197 b)) (fun b => f9 199 b (nr_X8_pageEnd_296__199 b)) (fun b => f9 201 b (nr_X8_pageEnd_296__201 b)) (fun b => f9 203 b (nr_X8_pageEnd_296__203 b)) (fun b => f9 205 b (nr_X8_pageEnd_296__205 b)) (fun b => f9 207 b (nr_X8_pageEnd_296__207 b)) (fun b => f9 209 b (nr_X8_pageEnd_296__209 b)) (fun b => f9 211 b (nr_X8_pageEnd_296__211 b)) (fun b => f9 213 b (nr_X8_pageEnd_296__213 b)) (fun b => f9 215 b (nr_X8_pageEnd_296__215 b)) (fun b => f9 217 b (nr_X8_pageEnd_296__217 b)) (fun b => f9 219 b (nr_X8_pageEnd_296__219 b))
        have r17 := y_B0.fr i0.1 (f9 211 0 (by decide)) (f9 213 0 (by decide))
        refine T_leq (fun x18 e19 => ?_)
        have w20 := z_wb e19
        refine T_leq (fun x21 e22 => ?_)
        have w23 := z_wb e22
        exact ih s7 x18 x21 c8 f10 (by omega) (by omega) r16 (by omega)
theorem sj_X11_page_1D_J144 {fu : Nat} (hfu : 8589934592 ≤ fu) (r0 s : z_M) (c : z_CI s) (f : z_Fr R_X11_page_1 r0 s) (t0 : Int) (d0 : -2147483648 ≤ t0 ∧ t0 ≤ 2147483647) (p0 : y_V2 s) : z_T (fX11_page_J144 fu s t0) (P_X11_page_1D r0) := by
  refine T_of (fX11_page_J144.eq_1 ..) ?_
  have u1 := CI_b c (k := 240) (j := 6) bd_240_6
  exact T_ret ⟨c, f, p0, Or.inl (⟨t0, rfl, by omega, by omega⟩)⟩
theorem sj_X11_page_1D_J83 {fu : Nat} (hfu : 8589934592 ≤ fu) (r0 s : z_M) (c : z_CI s) (f : z_Fr R_X11_page_1 r0 s) (a1 : Int) (a3 : Int) (a4 : Int) (b1 : -2147483648 ≤ a1 ∧ a1 ≤ 2147483647) (b3 : -2147483648 ≤ a3 ∧ a3 ≤ 2147483647) (b4 : 0 ≤ a4 ∧ a4 ≤ 201) (p0 : y_V2 s) : z_T (fX11_page_J83 fu s 1 a1 a3 a4) (P_X11_page_1D r0) := by
  refine T_of (fX11_page_J83.eq_1 ..) ?_
  have u1 := CI_b c (k := 240) (j := 6) bd_240_6
  refine T_if1 (by decide +kernel) ?_
  refine T_let 240 (by decide +kernel) ?_
  refine T_if1 (by decide +kernel) ?_
  refine T_leq (fun x2 e3 => ?_)
  have u4 := CI_b c (k := 240) (j := 6) bd_240_6
  refine T_ite (fun h5 => ?_) (fun h5 => ?_)
  · refine T_if1 (by decide +kernel) ?_
    refine T_let 296 (by decide +kernel) ?_
    refine T_if1 (by decide +kernel) ?_
    refine T_useI (sf_X8_pageEnd_296 hfu s c a4 a1 (by omega) (by omega)) (fun v11 s6 hq => ?_)
    obtain ⟨c7, f8, ⟨x10, rfl, b12, b13⟩⟩ := hq
    refine T_vI ?_
    have f9 := z_Fr.tr (R := R_X11_page_1) f f8 (fun a b h => absurd h not_false)
    have t14 : s6 240 6 = s 240 6 := f8 240 6 (by decide)
    have r15 := y_V2.fr p0 (f8 1 16 (by decide)) (f8 191 16 (by decide)) (f8 6 6 (by decide)) (f8 191 17 (by decide)) (f8 191 18 (by decide)) (fun b => f8 3 b (nr_X8_pageEnd_296__3 b)) (fun b => f8 8 b (nr_X8_pageEnd_296__8 b)) (fun b => f8 12 b (nr_X8_pageEnd_296__12 b)) (fun b => f8 14 b (nr_X8_pageEnd_296__14 b)) (fun b => f8 16 b (nr_X8_pageEnd_296__16 b)) (fun b => f8 18 b (nr_X8_pageEnd_296__18 b)) (fun b => f8 193 b (nr_X8_pageEnd_296__193 b)) (fun b => f8 195 b (nr_X8_pageEnd_296__195 b)) (fun b => f8 197 b (nr_X8_pageEnd_296__197 b)) (fun b => f8 199 b (nr_X8_pageEnd_296__199 b)) (fun b => f8 201 b (nr_X8_pageEnd_296__201 b)) (fun b => f8 203 b (nr_X8_pageEnd_296__203 b)) (fun b => f8 205 b (nr_X8_pageEnd_296__205 b)) (fun b => f8 207 b (nr_X8_pageEnd_296__207 b)) (fun b => f8 209 b (nr_X8_pageEnd_296__209 b)) (fun b => f8 211 b (nr_X8_pageEnd_296__211 b)) (fun b => f8 213 b (nr_X8_pageEnd_296__213 b)) (fun b => f8 215 b (nr_X8_pageEnd_296__215 b)) (fun b => f8 217 b (nr_X8_pageEnd_296__217 b)) (fun b => f8 219 b (nr_X8_pageEnd_296__219 b))
    have r16 := y_B0.fr p0.1 (f8 211 0 (by decide)) (f8 213 0 (by decide))
    refine T_ite (fun h17 => ?_) (fun h17 => ?_)
    · refine T_ite (fun h18 => ?_) (fun h18 => ?_)
      · refine T_if1 (by decide +kernel) ?_
        refine T_let 296 (by decide +kernel) ?_
        refine T_if1 (by decide +kernel) ?_
        refine T_useI (sf_X8_thickOf_296 hfu s6 c7 a4 x10 (by omega) (by omega)) (fun v24 s19 hq => ?_)
        obtain ⟨c20, f21, ⟨x23, rfl, b25, b26⟩⟩ := hq
        refine T_vI ?_
        have f22 := z_Fr.tr (R := R_X11_page_1) f9 f21 (fun a b h => absurd h not_false)
        have t27 : s19 240 6 = s6 240 6 := f21 240 6 (by decide)
        have r28 := y_V2.fr r15 (f21 1 16 (by decide)) (f21 191 16 (by decide)) (f21 6 6 (by decide)) (f21 191 17 (by decide)) (f21 191 18 (by decide)) (fun b => f21 3 b (nr_X8_thickOf_296__3 b)) (fun b => f21 8 b (nr_X8_thickOf_296__8 b)) (fun b => f21 12 b (nr_X8_thickOf_296__12 b)) (fun b => f21 14 b (nr_X8_thickOf_296__14 b)) (fun b => f21 16 b (nr_X8_thickOf_296__16 b)) (fun b => f21 18 b (nr_X8_thickOf_296__18 b)) (fun b => f21 193 b (nr_X8_thickOf_296__193 b)) (fun b => f21 195 b (nr_X8_thickOf_296__195 b)) (fun b => f21 197 b (nr_X8_thickOf_296__197 b)) (fun b => f21 199 b (nr_X8_thickOf_296__199 b)) (fun b => f21 201 b (nr_X8_thickOf_296__201 b)) (fun b => f21 203 b (nr_X8_thickOf_296__203 b)) (fun b => f21 205 b (nr_X8_thickOf_296__205 b)) (fun b => f21 207 b (nr_X8_thickOf_296__207 b)) (fun b => f21 209 b (nr_X8_thickOf_296__209 b)) (fun b => f21 211 b (nr_X8_thickOf_296__211 b)) (fun b => f21 213 b (nr_X8_thickOf_296__213 b)) (fun b => f21 215 b (nr_X8_thickOf_296__215 b)) (fun b => f21 217 b (nr_X8_thickOf_296__217 b)) (fun b => f21 219 b (nr_X8_thickOf_296__219 b))
        have r29 := y_B0.fr r16 (f21 211 0 (by decide)) (f21 213 0 (by decide))
        exact sj_X11_page_1D_J144 hfu r0 s19 c20 f22 x23 (by omega) r28
      · refine T_leq (fun x30 e31 => ?_)
        have w32 := z_wb e31
        refine T_leq (fun x33 e34 => ?_)
        have w35 := z_wb e34
        exact sj_X11_page_1D_J144 hfu r0 s6 c7 f9 x33 (by omega) r15
    · exact sj_X11_page_1D_J144 hfu r0 s6 c7 f9 a4 (by omega) r15
  · exact T_ret ⟨c, f, p0, Or.inl (⟨(-1), rfl, by omega, by omega⟩)⟩
theorem sj_X11_page_1D_J40 {fu : Nat} (hfu : 8589934592 ≤ fu) (r0 s : z_M) (c : z_CI s) (f : z_Fr R_X11_page_1 r0 s) (a1 : Int) (a2 : Int) (a3 : Int) (t0 : Int) (b1 : -2147483648 ≤ a1 ∧ a1 ≤ 2147483647) (b2 : -2147483648 ≤ a2 ∧ a2 ≤ 2147483647) (b3 : -2147483648 ≤ a3 ∧ a3 ≤ 2147483647) (d0 : 0 ≤ t0 ∧ t0 ≤ 200) (p0 : y_V2 s) : z_T (fX11_page_J40 fu s 1 a1 a2 a3 t0) (P_X11_page_1D r0) := by
  refine T_of (fX11_page_J40.eq_1 ..) ?_
  have u1 := CI_b c (k := 240) (j := 6) bd_240_6
  refine sl_X11_page_1D_L45 hfu r0 a1 a2 a3 (by omega) (by omega) (by omega) (fun s2 y5 c3 f4 b6 g7 => ?_) fu s t0 0 c f (by omega) (by omega) p0 (by omega)
  have u8 := CI_b c3 (k := 240) (j := 6) bd_240_6
  exact sj_X11_page_1D_J83 hfu r0 s2 c3 f4 a1 a3 y5 (by omega) (by omega) (by omega) g7
theorem sf_X11_page_1D {fu : Nat} (hfu : 8589934592 ≤ fu) (r0 : z_M) (c0 : z_CI r0) (a1 : Int) (a2 : Int) (a3 : Int) (b1 : -2147483648 ≤ a1 ∧ a1 ≤ 2147483647) (b2 : -2147483648 ≤ a2 ∧ a2 ≤ 2147483647) (b3 : -2147483648 ≤ a3 ∧ a3 ≤ 2147483647) (p0 : y_V2 r0) : z_T (fX11_page fu r0 1 a1 a2 a3) (P_X11_page_1D r0) := by
  refine T_of (fX11_page.eq_1 ..) ?_
  refine T_if1 (by decide +kernel) ?_
  refine T_nw ?_ (fun h1 h2 => ?_)
  · exact T_ret ⟨CI_up c0 bd_1_15 (z_wb rfl).1, z_Fr.upf (R := R_X11_page_1) z_Fr.rf (fun a b h => z_up_k h) (fun b h => z_up_j h) (Or.inr (Or.inr (Or.inr (Or.inr (Or.inr (Or.inr (Or.inr (Or.inr (Or.inl (⟨rfl, by decide⟩)))))))))), y_V2.fr p0 (z_up_j (by decide)) (z_up_k (by decide)) (z_up_k (by decide)) (z_up_k (by decide)) (z_up_k (by decide)) (fun _ => z_up_k (by decide)) (fun _ => z_up_k (by decide)) (fun _ => z_up_k (by decide)) (fun _ => z_up_k (by decide)) (fun _ => z_up_k (by decide)) (fun _ => z_up_k (by decide)) (fun _ => z_up_k (by decide)) (fun _ => z_up_k (by decide)) (fun _ => z_up_k (by decide)) (fun _ => z_up_k (by decide)) (fun _ => z_up_k (by decide)) (fun _ => z_up_k (by decide)) (fun _ => z_up_k (by decide)) (fun _ => z_up_k (by decide)) (fun _ => z_up_k (by decide)) (fun _ => z_up_k (by decide)) (fun _ => z_up_k (by decide)) (fun _ => z_up_k (by decide)) (fun _ => z_up_k (by decide)) (fun _ => z_up_k (by decide)), Or.inr rfl⟩
  refine T_if1 (by decide +kernel) ?_
  refine T_nw ?_ (fun h3 h4 => ?_)
  · exact T_ret ⟨CI_up c0 bd_1_15 (z_wb rfl).1, z_Fr.upf (R := R_X11_page_1) z_Fr.rf (fun a b h => z_up_k h) (fun b h => z_up_j h) (Or.inr (Or.inr (Or.inr (Or.inr (Or.inr (Or.inr (Or.inr (Or.inr (Or.inl (⟨rfl, by decide⟩)))))))))), y_V2.fr p0 (z_up_j (by decide)) (z_up_k (by decide)) (z_up_k (by decide)) (z_up_k (by decide)) (z_up_k (by decide)) (fun _ => z_up_k (by decide)) (fun _ => z_up_k (by decide)) (fun _ => z_up_k (by decide)) (fun _ => z_up_k (by decide)) (fun _ => z_up_k (by decide)) (fun _ => z_up_k (by decide)) (fun _ => z_up_k (by decide)) (fun _ => z_up_k (by decide)) (fun _ => z_up_k (by decide)) (fun _ => z_up_k (by decide)) (fun _ => z_up_k (by decide)) (fun _ => z_up_k (by decide)) (fun _ => z_up_k (by decide)) (fun _ => z_up_k (by decide)) (fun _ => z_up_k (by decide)) (fun _ => z_up_k (by decide)) (fun _ => z_up_k (by decide)) (fun _ => z_up_k (by decide)) (fun _ => z_up_k (by decide)) (fun _ => z_up_k (by decide)), Or.inr rfl⟩
  refine T_if1 (by decide +kernel) ?_
  refine T_useN (sf_X11_refresh_1D hfu r0 c0 p0) (fun v10 s5 hq => ?_)
  obtain ⟨c6, f7, o11, rfl⟩ := hq
  refine T_vN ?_
  have f8 := z_Fr.tr (R := R_X11_page_1) z_Fr.rf f7 rs_X11_refresh_1__X11_page_1
  have u14 := CI_b c6 (k := 240) (j := 6) bd_240_6
  refine T_if1 (by decide +kernel) ?_
  refine T_useN (sf_X11_refreshSides_1D hfu s5 c6 (y_V2.u o11)) (fun v20 s15 hq => ?_)
  obtain ⟨c16, f17, o21, rfl⟩ := hq
  refine T_vN ?_
  have f18 := z_Fr.tr (R := R_X11_page_1) f8 f17 rs_X11_refreshSides_1__X11_page_1
  have t24 : s15 240 6 = s5 240 6 := f17 240 6 (by decide)
  have r25 := y_U2.fr o11 (f17 191 16 (by decide)) (f17 6 6 (by decide)) (f17 191 17 (by decide)) (f17 191 18 (by decide)) (fun b => f17 3 b (nr_X11_refreshSides_1__3 b)) (fun b => f17 8 b (nr_X11_refreshSides_1__8 b)) (fun b => f17 12 b (nr_X11_refreshSides_1__12 b)) (fun b => f17 14 b (nr_X11_refreshSides_1__14 b)) (fun b => f17 16 b (nr_X11_refreshSides_1__16 b)) (fun b => f17 18 b (nr_X11_refreshSides_1__18 b)) (fun b => f17 193 b (nr_X11_refreshSides_1__193 b)) (fun b => f17 195 b (nr_X11_refreshSides_1__195 b)) (fun b => f17 197 b (nr_X11_refreshSides_1__197 b)) (fun b => f17 199 b (nr_X11_refreshSides_1__199 b)) (fun b => f17 201 b (nr_X11_refreshSides_1__201 b)) (fun b => f17 203 b (nr_X11_refreshSides_1__203 b)) (fun b => f17 205 b (nr_X11_refreshSides_1__205 b)) (fun b => f17 207 b (nr_X11_refreshSides_1__207 b)) (fun b => f17 209 b (nr_X11_refreshSides_1__209 b)) (fun b => f17 211 b (nr_X11_refreshSides_1__211 b)) (fun b => f17 213 b (nr_X11_refreshSides_1__213 b)) (fun b => f17 215 b (nr_X11_refreshSides_1__215 b)) (fun b => f17 217 b (nr_X11_refreshSides_1__217 b)) (fun b => f17 219 b (nr_X11_refreshSides_1__219 b))
  have r26 := y_B0.fr o11.1 (f17 211 0 (by decide)) (f17 213 0 (by decide))
  refine T_ite (fun h27 => ?_) (fun h27 => ?_)
  · exact sj_X11_page_1D_J40 hfu r0 s15 c16 f18 a1 a2 a3 0 (by omega) (by omega) (by omega) (by omega) o21
  · refine T_if1 (by decide +kernel) ?_
    refine T_let 240 (by decide +kernel) ?_
    refine T_if1 (by decide +kernel) ?_
    refine T_leq (fun x28 e29 => ?_)
    have u30 := CI_b c16 (k := 240) (j := 6) bd_240_6
    exact sj_X11_page_1D_J40 hfu r0 s15 c16 f18 a1 a2 a3 x28 (by omega) (by omega) (by omega) (by omega) o21
abbrev P_X11_narrow_1D (r0 : z_M) : z_V → z_M → Prop := fun v s' => z_CI s' ∧ z_Fr R_X11_narrow_1 r0 s' ∧ (y_V2 s') ∧ ((∃ x, v = vI x ∧ -2147483648 ≤ x ∧ x ≤ 2147483647) ∨ v = vX 1)
theorem sj_X11_narrow_1D_J60 {fu : Nat} (hfu : 8589934592 ≤ fu) (r0 s : z_M) (c : z_CI s) (f : z_Fr R_X11_narrow_1 r0 s) (a1 : Int) (a2 : Int) (a3 : Int) (b1 : -2147483648 ≤ a1 ∧ a1 ≤ 2147483647) (b2 : 12 ≤ a2 ∧ a2 ≤ 10000) (b3 : 12 ≤ a3 ∧ a3 ≤ 10000) (p0 : a2 ≤ a3) (p1 : y_V2 s) (M : Int) (pm : a3 - a2 < M) {r : z_M → Int → Int → z_O} {k : z_M → Int → z_O} (hr : ∀ (s' : z_M) (v2 : Int) (v3 : Int), z_CI s' → z_Fr R_X11_narrow_1 r0 s' → (12 ≤ v2 ∧ v2 ≤ 10000) → (12 ≤ v3 ∧ v3 ≤ 10000) → (v2 ≤ v3) → (y_V2 s') → (v3 - v2 < M) → z_T (r s' v2 v3) (P_X11_narrow_1D r0)) (hk : ∀ (s' : z_M) (v2 : Int), z_CI s' → z_Fr R_X11_narrow_1 r0 s' → (12 ≤ v2 ∧ v2 ≤ 10000) → (y_V2 s') → z_T (k s' v2) (P_X11_narrow_1D r0)) : z_T (fX11_narrow_J60 fu s 1 a1 a2 a3 r k) (P_X11_narrow_1D r0) := by
  refine T_of (fX11_narrow_J60.eq_1 ..) ?_
  exact hr s a2 a3 c f (by omega) (by omega) (by omega) p1 (by omega)
theorem sl_X11_narrow_1D_L24 {fu : Nat} (hfu : 8589934592 ≤ fu) (r0 : z_M) (a1 : Int) (b1 : -2147483648 ≤ a1 ∧ a1 ≤ 2147483647) {k : z_M → Int → z_O} (hk : ∀ (s' : z_M) (v2 : Int), z_CI s' → z_Fr R_X11_narrow_1 r0 s' → (12 ≤ v2 ∧ v2 ≤ 10000) → (y_V2 s') → z_T (k s' v2) (P_X11_narrow_1D r0)) : ∀ (F : Nat) (s : z_M) (a2 : Int) (a3 : Int), z_CI s → z_Fr R_X11_narrow_1 r0 s → (12 ≤ a2 ∧ a2 ≤ 10000) → (12 ≤ a3 ∧ a3 ≤ 10000) → (a2 ≤ a3) → (y_V2 s) → (a3 - a2 < (F : Int)) → z_T (fX11_narrow_L24 fu 1 a1 F s a2 a3 k) (P_X11_narrow_1D r0) := by
  intro F
  induction F with
  | zero =>
    intro s a2 a3 c f b2 b3 i0 i1 hm
    exfalso; omega
  | succ F ih =>
    intro s a2 a3 c f b2 b3 i0 i1 hm
    refine T_of (fX11_narrow_L24.eq_2 ..) ?_
    refine T_ite (fun h1 => ?_) (fun h1 => ?_)
    · exact hk s a2 c f (by omega) i1
    · refine T_leq (fun x2 e3 => ?_)
      have w4 := z_wb e3
      refine T_if1 (by omega) ?_
      refine T_leq (fun x5 e6 => ?_)
      have w7 := z_wb e6
      have w8 := z_td2 (e := x2)
      refine T_if1 (by decide +kernel) ?_
      refine T_let 296 (by decide +kernel) ?_
      refine T_if1 (by decide +kernel) ?_
      refine T_useI (sf_X8_pageCount_296 hfu s c x5 (by omega)) (fun v14 s9 hq => ?_)
      obtain ⟨c10, f11, ⟨x13, rfl, b15, b16⟩⟩ := hq
      refine T_vI ?_
      have f12 := z_Fr.tr (R := R_X11_narrow_1) f f11 (fun a b h => absurd h not_false)
      have r17 := y_V2.fr i1 (f11 1 16 (by decide)) (f11 191 16 (by decide)) (f11 6 6 (by decide)) (f11 191 17 (by decide)) (f11 191 18 (by decide)) (fun b => f11 3 b (nr_X8_pageCount_296__3 b)) (fun b => f11 8 b (nr_X8_pageCount_296__8 b)) (fun b => f11 12 b (nr_X8_pageCount_296__12 b)) (fun b => f11 14 b (nr_X8_pageCount_296__14 b)) (fun b => f11 16 b (nr_X8_pageCount_296__16 b)) (fun b => f11 18 b (nr_X8_pageCount_296__18 b)) (fun b => f11 193 b (nr_X8_pageCount_296__193 b)) (fun b => f11 195 b (nr_X8_pageCount_296__195 b)) (fun b => f11 197 b (nr_X8_pageCount_296__197 b)) (fun b => f11 199 b (nr_X8_pageCount_296__199 b)) (fun b => f11 201 b (nr_X8_pageCount_296__201 b)) (fun b => f11 203 b (nr_X8_pageCount_296__203 b)) (fun b => f11 205 b (nr_X8_pageCount_296__205 b)) (fun b => f11 207 b (nr_X8_pageCount_296__207 b)) (fun b => f11 209 b (nr_X8_pageCount_296__209 b)) (fun b => f11 211 b (nr_X8_pageCount_296__211 b)) (fun b => f11 213 b (nr_X8_pageCount_296__213 b)) (fun b => f11 215 b (nr_X8_pageCount_296__215 b)) (fun b => f11 217 b (nr_X8_pageCount_296__217 b)) (fun b => f11 219 b (nr_X8_pageCount_296__219 b))
      have r18 := y_B0.fr i1.1 (f11 211 0 (by decide)) (f11 213 0 (by decide))
      refine T_ite (fun h19 => ?_) (fun h19 => ?_)
      · refine T_leq (fun x20 e21 => ?_)
        have w22 := z_wb e21
        exact sj_X11_narrow_1D_J60 hfu r0 s9 c10 f12 a1 x20 a3 (by omega) (by omega) (by omega) (by omega) r17 (a3 - a2) (by omega) (fun s' v2 v3 c' f' w2 w3 z0 z1 pg => ih s' v2 v3 c' f' w2 w3 z0 z1 (by omega)) hk
      · exact sj_X11_narrow_1D_J60 hfu r0 s9 c10 f12 a1 a2 x5 (by omega) (by omega) (by omega) (by omega) r17 (a3 - a2) (by omega) (fun s' v2 v3 c' f' w2 w3 z0 z1 pg => ih s' v2 v3 c' f' w2 w3 z0 z1 (by omega)) hk
theorem sj_X11_narrow_1D_J75 {fu : Nat} (hfu : 8589934592 ≤ fu) (r0 s : z_M) (c : z_CI s) (f : z_Fr R_X11_narrow_1 r0 s) (t0 : Int) (d0 : -2147483648 ≤ t0 ∧ t0 ≤ 2147483647) (p0 : y_V2 s) : z_T (fX11_narrow_J75 fu s t0) (P_X11_narrow_1D r0) := by
  refine T_of (fX11_narrow_J75.eq_1 ..) ?_
  exact T_ret ⟨c, f, p0, Or.inl (⟨t0, rfl, by omega, by omega⟩)⟩
theorem sf_X11_narrow_1D {fu : Nat} (hfu : 8589934592 ≤ fu) (r0 : z_M) (c0 : z_CI r0) (a1 : Int) (b1 : -2147483648 ≤ a1 ∧ a1 ≤ 2147483647) (p0 : y_V2 r0) : z_T (fX11_narrow fu r0 1 a1) (P_X11_narrow_1D r0) := by
  refine T_of (fX11_narrow.eq_1 ..) ?_
  refine T_if1 (by decide +kernel) ?_
  refine T_nw ?_ (fun h1 h2 => ?_)
  · exact T_ret ⟨CI_up c0 bd_1_15 (z_wb rfl).1, z_Fr.upf (R := R_X11_narrow_1) z_Fr.rf (fun a b h => z_up_k h) (fun b h => z_up_j h) (Or.inr (Or.inr (Or.inr (Or.inr (Or.inr (Or.inr (Or.inr (Or.inr (Or.inl (⟨rfl, by decide⟩)))))))))), y_V2.fr p0 (z_up_j (by decide)) (z_up_k (by decide)) (z_up_k (by decide)) (z_up_k (by decide)) (z_up_k (by decide)) (fun _ => z_up_k (by decide)) (fun _ => z_up_k (by decide)) (fun _ => z_up_k (by decide)) (fun _ => z_up_k (by decide)) (fun _ => z_up_k (by decide)) (fun _ => z_up_k (by decide)) (fun _ => z_up_k (by decide)) (fun _ => z_up_k (by decide)) (fun _ => z_up_k (by decide)) (fun _ => z_up_k (by decide)) (fun _ => z_up_k (by decide)) (fun _ => z_up_k (by decide)) (fun _ => z_up_k (by decide)) (fun _ => z_up_k (by decide)) (fun _ => z_up_k (by decide)) (fun _ => z_up_k (by decide)) (fun _ => z_up_k (by decide)) (fun _ => z_up_k (by decide)) (fun _ => z_up_k (by decide)) (fun _ => z_up_k (by decide)), Or.inr rfl⟩
  refine T_if1 (by decide +kernel) ?_
  refine T_useN (sf_X11_refresh_1D hfu r0 c0 p0) (fun v8 s3 hq => ?_)
  obtain ⟨c4, f5, o9, rfl⟩ := hq
  refine T_vN ?_
  have f6 := z_Fr.tr (R := R_X11_narrow_1) z_Fr.rf f5 rs_X11_refresh_1__X11_narrow_1
  refine T_if1 (by decide +kernel) ?_
  refine T_useN (sf_X11_refreshSides_1D hfu s3 c4 (y_V2.u o9)) (fun v17 s12 hq => ?_)
  obtain ⟨c13, f14, o18, rfl⟩ := hq
  refine T_vN ?_
  have f15 := z_Fr.tr (R := R_X11_narrow_1) f6 f14 rs_X11_refreshSides_1__X11_narrow_1
  have r21 := y_U2.fr o9 (f14 191 16 (by decide)) (f14 6 6 (by decide)) (f14 191 17 (by decide)) (f14 191 18 (by decide)) (fun b => f14 3 b (nr_X11_refreshSides_1__3 b)) (fun b => f14 8 b (nr_X11_refreshSides_1__8 b)) (fun b => f14 12 b (nr_X11_refreshSides_1__12 b)) (fun b => f14 14 b (nr_X11_refreshSides_1__14 b)) (fun b => f14 16 b (nr_X11_refreshSides_1__16 b)) (fun b => f14 18 b (nr_X11_refreshSides_1__18 b)) (fun b => f14 193 b (nr_X11_refreshSides_1__193 b)) (fun b => f14 195 b (nr_X11_refreshSides_1__195 b)) (fun b => f14 197 b (nr_X11_refreshSides_1__197 b)) (fun b => f14 199 b (nr_X11_refreshSides_1__199 b)) (fun b => f14 201 b (nr_X11_refreshSides_1__201 b)) (fun b => f14 203 b (nr_X11_refreshSides_1__203 b)) (fun b => f14 205 b (nr_X11_refreshSides_1__205 b)) (fun b => f14 207 b (nr_X11_refreshSides_1__207 b)) (fun b => f14 209 b (nr_X11_refreshSides_1__209 b)) (fun b => f14 211 b (nr_X11_refreshSides_1__211 b)) (fun b => f14 213 b (nr_X11_refreshSides_1__213 b)) (fun b => f14 215 b (nr_X11_refreshSides_1__215 b)) (fun b => f14 217 b (nr_X11_refreshSides_1__217 b)) (fun b => f14 219 b (nr_X11_refreshSides_1__219 b))
  have r22 := y_B0.fr o9.1 (f14 211 0 (by decide)) (f14 213 0 (by decide))
  refine sl_X11_narrow_1D_L24 hfu r0 a1 (by omega) (fun s23 y26 c24 f25 b27 g28 => ?_) fu s12 12 10000 c13 f15 (by omega) (by omega) (by omega) o18 (by omega)
  refine T_ite (fun h29 => ?_) (fun h29 => ?_)
  · exact sj_X11_narrow_1D_J75 hfu r0 s23 c24 f25 y26 (by omega) g28
  · exact sj_X11_narrow_1D_J75 hfu r0 s23 c24 f25 (-1) (by omega) g28
abbrev P_X11_status_1D (r0 : z_M) : z_V → z_M → Prop := fun v s' => z_CI s' ∧ z_Fr R_X11_status_1 r0 s' ∧ (y_V2 s') ∧ (∃ x, v = vI x ∧ -2147483648 ≤ x ∧ x ≤ 2147483647)
theorem sj_X11_status_1D_J24 {fu : Nat} (hfu : 8589934592 ≤ fu) (r0 s : z_M) (c : z_CI s) (f : z_Fr R_X11_status_1 r0 s) (t0 : Int) (d0 : -2147483648 ≤ t0 ∧ t0 ≤ 2147483647) (p0 : y_V2 s) : z_T (fX11_status_J24 fu s t0) (P_X11_status_1D r0) := by
  refine T_of (fX11_status_J24.eq_1 ..) ?_
  have u1 := CI_b c (k := 1) (j := 14) bd_1_14
  have u2 := CI_b c (k := 1) (j := 15) bd_1_15
  exact T_ret ⟨c, f, p0, ⟨t0, rfl, by omega, by omega⟩⟩
theorem sf_X11_status_1D {fu : Nat} (hfu : 8589934592 ≤ fu) (r0 : z_M) (c0 : z_CI r0) (a1 : Int) (b1 : -2147483648 ≤ a1 ∧ a1 ≤ 2147483647) (p0 : y_V2 r0) : z_T (fX11_status fu r0 1 a1) (P_X11_status_1D r0) := by
  refine T_of (fX11_status.eq_1 ..) ?_
  refine T_ite (fun h1 => ?_) (fun h1 => ?_)
  · refine T_ite (fun h2 => ?_) (fun h2 => ?_)
    · exact sj_X11_status_1D_J24 hfu r0 r0 c0 z_Fr.rf (-1) (by omega) p0
    · refine T_if1 (by decide +kernel) ?_
      refine T_leq (fun x3 e4 => ?_)
      have u5 := CI_b c0 (k := 1) (j := 15) bd_1_15
      exact sj_X11_status_1D_J24 hfu r0 r0 c0 z_Fr.rf x3 (by omega) p0
  · refine T_if1 (by decide +kernel) ?_
    refine T_leq (fun x6 e7 => ?_)
    have u8 := CI_b c0 (k := 1) (j := 14) bd_1_14
    exact sj_X11_status_1D_J24 hfu r0 r0 c0 z_Fr.rf x6 (by omega) p0
abbrev P_X11_cut_1D (r0 : z_M) : z_V → z_M → Prop := fun v s' => z_CI s' ∧ z_Fr R_X11_cut_1 r0 s' ∧ (y_V2 s') ∧ ((∃ x, v = vI x ∧ -2147483648 ≤ x ∧ x ≤ 2147483647) ∨ v = vX 0 ∨ v = vX 1)
theorem nr_X9_drop_6__3 (b : Int) : ¬ R_X9_drop_6 3 b := by
  unfold R_X9_drop_6; omega
theorem nr_X9_drop_6__199 (b : Int) : ¬ R_X9_drop_6 199 b := by
  unfold R_X9_drop_6; omega
theorem nr_X9_drop_6__201 (b : Int) : ¬ R_X9_drop_6 201 b := by
  unfold R_X9_drop_6; omega
theorem nr_X9_drop_6__203 (b : Int) : ¬ R_X9_drop_6 203 b := by
  unfold R_X9_drop_6; omega
theorem nr_X9_drop_6__205 (b : Int) : ¬ R_X9_drop_6 205 b := by
  unfold R_X9_drop_6; omega
theorem nr_X9_drop_6__207 (b : Int) : ¬ R_X9_drop_6 207 b := by
  unfold R_X9_drop_6; omega
theorem nr_X9_drop_6__209 (b : Int) : ¬ R_X9_drop_6 209 b := by
  unfold R_X9_drop_6; omega
theorem nr_X9_drop_6__211 (b : Int) : ¬ R_X9_drop_6 211 b := by
  unfold R_X9_drop_6; omega
theorem nr_X9_drop_6__213 (b : Int) : ¬ R_X9_drop_6 213 b := by
  unfold R_X9_drop_6; omega
theorem nr_X9_drop_6__217 (b : Int) : ¬ R_X9_drop_6 217 b := by
  unfold R_X9_drop_6; omega
theorem nr_X9_drop_6__219 (b : Int) : ¬ R_X9_drop_6 219 b := by
  unfold R_X9_drop_6; omega
set_option maxHeartbeats 4000000 in
theorem sf_X11_cut_1D {fu : Nat} (hfu : 8589934592 ≤ fu) (r0 : z_M) (c0 : z_CI r0) (a1 : Int) (a2 : Int) (b1 : -2147483648 ≤ a1 ∧ a1 ≤ 2147483647) (b2 : -2147483648 ≤ a2 ∧ a2 ≤ 2147483647) (p0 : y_V2 r0) : z_T (fX11_cut fu r0 1 a1 a2) (P_X11_cut_1D r0) := by
  refine T_of (fX11_cut.eq_1 ..) ?_
  refine T_if1 (by decide +kernel) ?_
  refine T_useN (sf_X11_refresh_1D hfu r0 c0 p0) (fun v6 s1 hq => ?_)
  obtain ⟨c2, f3, o7, rfl⟩ := hq
  refine T_vN ?_
  have f4 := z_Fr.tr (R := R_X11_cut_1) z_Fr.rf f3 rs_X11_refresh_1__X11_cut_1
  have u10 := CI_b c2 (k := 191) (j := 16) bd_191_16
  refine T_if1 (by decide +kernel) ?_
  refine T_let 191 (by decide +kernel) ?_
  refine T_if1 (by decide +kernel) ?_
  refine T_leq (fun x11 e12 => ?_)
  have u13 := CI_b c2 (k := 191) (j := 16) bd_191_16
  refine T_if1 (by decide +kernel) ?_
  refine T_ne ?_ (fun h14 h15 => ?_)
  · exact T_ret ⟨CI_up c2 bd_1_14 (z_wb rfl).1, z_Fr.upf (R := R_X11_cut_1) f4 (fun a b h => z_up_k h) (fun b h => z_up_j h) (Or.inr (Or.inr (Or.inr (Or.inr (Or.inr (Or.inr (Or.inr (Or.inr (Or.inr (Or.inl (⟨rfl, by decide⟩))))))))))), y_V2.u (y_U2.fr o7 (z_up_k (by decide)) (z_up_k (by decide)) (z_up_k (by decide)) (z_up_k (by decide)) (fun _ => z_up_k (by decide)) (fun _ => z_up_k (by decide)) (fun _ => z_up_k (by decide)) (fun _ => z_up_k (by decide)) (fun _ => z_up_k (by decide)) (fun _ => z_up_k (by decide)) (fun _ => z_up_k (by decide)) (fun _ => z_up_k (by decide)) (fun _ => z_up_k (by decide)) (fun _ => z_up_k (by decide)) (fun _ => z_up_k (by decide)) (fun _ => z_up_k (by decide)) (fun _ => z_up_k (by decide)) (fun _ => z_up_k (by decide)) (fun _ => z_up_k (by decide)) (fun _ => z_up_k (by decide)) (fun _ => z_up_k (by decide)) (fun _ => z_up_k (by decide)) (fun _ => z_up_k (by decide)) (fun _ => z_up_k (by decide))), Or.inr (Or.inl rfl)⟩
  refine T_if1 (by decide +kernel) ?_
  refine T_let 191 (by decide +kernel) ?_
  refine T_if1 (by decide +kernel) ?_
  refine T_leq (fun x16 e17 => ?_)
  have u18 := CI_b c2 (k := 191) (j := 16) bd_191_16
  refine T_if1 (by decide +kernel) ?_
  refine T_ne ?_ (fun h19 h20 => ?_)
  · exact T_ret ⟨CI_up c2 bd_1_14 (z_wb rfl).1, z_Fr.upf (R := R_X11_cut_1) f4 (fun a b h => z_up_k h) (fun b h => z_up_j h) (Or.inr (Or.inr (Or.inr (Or.inr (Or.inr (Or.inr (Or.inr (Or.inr (Or.inr (Or.inl (⟨rfl, by decide⟩))))))))))), y_V2.u (y_U2.fr o7 (z_up_k (by decide)) (z_up_k (by decide)) (z_up_k (by decide)) (z_up_k (by decide)) (fun _ => z_up_k (by decide)) (fun _ => z_up_k (by decide)) (fun _ => z_up_k (by decide)) (fun _ => z_up_k (by decide)) (fun _ => z_up_k (by decide)) (fun _ => z_up_k (by decide)) (fun _ => z_up_k (by decide)) (fun _ => z_up_k (by decide)) (fun _ => z_up_k (by decide)) (fun _ => z_up_k (by decide)) (fun _ => z_up_k (by decide)) (fun _ => z_up_k (by decide)) (fun _ => z_up_k (by decide)) (fun _ => z_up_k (by decide)) (fun _ => z_up_k (by decide)) (fun _ => z_up_k (by decide)) (fun _ => z_up_k (by decide)) (fun _ => z_up_k (by decide)) (fun _ => z_up_k (by decide)) (fun _ => z_up_k (by decide))), Or.inr (Or.inl rfl)⟩
  refine T_if1 (by decide +kernel) ?_
  refine T_let 191 (by decide +kernel) ?_
  refine T_if1 (by decide +kernel) ?_
  refine T_leq (fun x21 e22 => ?_)
  have u23 := CI_b c2 (k := 191) (j := 16) bd_191_16
  refine T_if1 (by decide +kernel) ?_
  refine T_nw ?_ (fun h24 h25 => ?_)
  · exact T_ret ⟨CI_up c2 bd_1_15 (z_wb rfl).1, z_Fr.upf (R := R_X11_cut_1) f4 (fun a b h => z_up_k h) (fun b h => z_up_j h) (Or.inr (Or.inr (Or.inr (Or.inr (Or.inr (Or.inr (Or.inr (Or.inr (Or.inr (Or.inl (⟨rfl, by decide⟩))))))))))), y_V2.u (y_U2.fr o7 (z_up_k (by decide)) (z_up_k (by decide)) (z_up_k (by decide)) (z_up_k (by decide)) (fun _ => z_up_k (by decide)) (fun _ => z_up_k (by decide)) (fun _ => z_up_k (by decide)) (fun _ => z_up_k (by decide)) (fun _ => z_up_k (by decide)) (fun _ => z_up_k (by decide)) (fun _ => z_up_k (by decide)) (fun _ => z_up_k (by decide)) (fun _ => z_up_k (by decide)) (fun _ => z_up_k (by decide)) (fun _ => z_up_k (by decide)) (fun _ => z_up_k (by decide)) (fun _ => z_up_k (by decide)) (fun _ => z_up_k (by decide)) (fun _ => z_up_k (by decide)) (fun _ => z_up_k (by decide)) (fun _ => z_up_k (by decide)) (fun _ => z_up_k (by decide)) (fun _ => z_up_k (by decide)) (fun _ => z_up_k (by decide))), Or.inr (Or.inr rfl)⟩
  refine T_if1 (by decide +kernel) ?_
  refine T_let 33 (by decide +kernel) ?_
  refine T_if1 (by decide +kernel) ?_
  refine T_let 6 (by decide +kernel) ?_
  refine T_if1 (by decide +kernel) ?_
  refine T_useN (sf_X2_keep_33_6 hfu s1 c2) (fun v31 s26 hq => ?_)
  obtain ⟨c27, f28, rfl⟩ := hq
  refine T_vN ?_
  have f29 := z_Fr.tr (R := R_X11_cut_1) f4 f28 rs_X2_keep_33_6__X11_cut_1
  have t34 : s26 191 16 = s1 191 16 := f28 191 16 (by decide)
  have r35 := y_U2.fr o7 (f28 191 16 (by decide)) (f28 6 6 (by decide)) (f28 191 17 (by decide)) (f28 191 18 (by decide)) (fun b => f28 3 b (nr_X2_keep_33_6__3 b)) (fun b => f28 8 b (nr_X2_keep_33_6__8 b)) (fun b => f28 12 b (nr_X2_keep_33_6__12 b)) (fun b => f28 14 b (nr_X2_keep_33_6__14 b)) (fun b => f28 16 b (nr_X2_keep_33_6__16 b)) (fun b => f28 18 b (nr_X2_keep_33_6__18 b)) (fun b => f28 193 b (nr_X2_keep_33_6__193 b)) (fun b => f28 195 b (nr_X2_keep_33_6__195 b)) (fun b => f28 197 b (nr_X2_keep_33_6__197 b)) (fun b => f28 199 b (nr_X2_keep_33_6__199 b)) (fun b => f28 201 b (nr_X2_keep_33_6__201 b)) (fun b => f28 203 b (nr_X2_keep_33_6__203 b)) (fun b => f28 205 b (nr_X2_keep_33_6__205 b)) (fun b => f28 207 b (nr_X2_keep_33_6__207 b)) (fun b => f28 209 b (nr_X2_keep_33_6__209 b)) (fun b => f28 211 b (nr_X2_keep_33_6__211 b)) (fun b => f28 213 b (nr_X2_keep_33_6__213 b)) (fun b => f28 215 b (nr_X2_keep_33_6__215 b)) (fun b => f28 217 b (nr_X2_keep_33_6__217 b)) (fun b => f28 219 b (nr_X2_keep_33_6__219 b))
  have r36 := y_B0.fr o7.1 (f28 211 0 (by decide)) (f28 213 0 (by decide))
  refine T_if1 (by decide +kernel) ?_
  refine T_let 6 (by decide +kernel) ?_
  refine T_if1 (by decide +kernel) ?_
  refine T_let 191 (by decide +kernel) ?_
  refine T_if1 (by decide +kernel) ?_
  refine T_let 194 (by decide +kernel) ?_
  refine T_if1 (by decide +kernel) ?_
  refine T_get (by decide +kernel) (c := 195) (by decide +kernel) bdr_195 (by decide) c27 (fun x37 e38 b39 w40 => ?_)
  have l41 : z_ln 194 = 200 := by decide +kernel
  refine T_if1 (by decide +kernel) ?_
  refine T_let 191 (by decide +kernel) ?_
  refine T_if1 (by decide +kernel) ?_
  refine T_let 194 (by decide +kernel) ?_
  refine T_if1 (by decide +kernel) ?_
  refine T_get (by decide +kernel) (c := 195) (by decide +kernel) bdr_195 (by decide) c27 (fun x42 e43 b44 w45 => ?_)
  have l46 : z_ln 194 = 200 := by decide +kernel
  refine T_if1 (by decide +kernel) ?_
  refine T_let 191 (by decide +kernel) ?_
  refine T_if1 (by decide +kernel) ?_
  refine T_let 196 (by decide +kernel) ?_
  refine T_if1 (by decide +kernel) ?_
  refine T_get (by decide +kernel) (c := 197) (by decide +kernel) bdr_197 (by decide) c27 (fun x47 e48 b49 w50 => ?_)
  have l51 : z_ln 196 = 200 := by decide +kernel
  refine T_leq (fun x52 e53 => ?_)
  have w54 := z_wb e53
  refine T_if1 (by decide +kernel) ?_
  have gd := CI_b c27 (k := 6) (j := 6) bd_6_6
  have ga := r35.2.1.1.1 a1 (by omega) (by omega)
  have gb := r35.2.1.1.1 a2 (by omega) (by omega)
  have gc := r35.2.1.1.2 a1 a2 (by omega) (by omega) (by omega)
  have qa : x37 = s26 195 a1 := by rw [← e38, z_rg_in ⟨by omega, by rw [l41]; omega⟩, show z_gr 194 0 = 195 by decide +kernel]
  have qb : x42 = s26 195 a2 := by rw [← e43, z_rg_in ⟨by omega, by rw [l46]; omega⟩, show z_gr 194 0 = 195 by decide +kernel]
  have qc : x47 = s26 197 a2 := by rw [← e48, z_rg_in ⟨by omega, by rw [l51]; omega⟩, show z_gr 196 0 = 197 by decide +kernel]
  refine T_useN (sf_X9_drop_6 hfu s26 c27 x37 x52 (by omega) (by omega) (by omega) (by omega) (by omega)) (fun v60 s55 hq => ?_)
  obtain ⟨c56, f57, rfl⟩ := hq
  refine T_vN ?_
  have f58 := z_Fr.tr (R := R_X11_cut_1) f29 f57 rs_X9_drop_6__X11_cut_1
  have t63 : s55 191 16 = s26 191 16 := f57 191 16 (by decide)
  have r64 := y_B0.fr r36 (f57 211 0 (by decide)) (f57 213 0 (by decide))
  refine T_if1 ⟨(by decide +kernel), by unfold z_bl; omega⟩ ?_
  refine T_upg c56 bd_1_16 (by omega) (fun s65 c66 g68 g69 e70 => ?_)
  have f67 := z_Fr.upf (R := R_X11_cut_1) f58 g68 g69 (Or.inr (Or.inr (Or.inr (Or.inr (Or.inr (Or.inr (Or.inr (Or.inr (Or.inr (Or.inl (⟨rfl, by decide⟩)))))))))))
  have t71 : s65 191 16 = s55 191 16 := g68 191 16 (by decide)
  have r72 := y_B0.fr r64 (g68 211 0 (by decide)) (g68 213 0 (by decide))
  refine T_if1 (by decide +kernel) ?_
  refine T_useN (sf_X11_refresh_1D hfu s65 c66 ⟨r72, Or.inl (by omega)⟩) (fun v78 s73 hq => ?_)
  obtain ⟨c74, f75, o79, rfl⟩ := hq
  refine T_vN ?_
  have f76 := z_Fr.tr (R := R_X11_cut_1) f67 f75 rs_X11_refresh_1__X11_cut_1
  have u82 := CI_b c74 (k := 191) (j := 16) bd_191_16
  refine T_if1 (by decide +kernel) ?_
  refine T_let 191 (by decide +kernel) ?_
  refine T_if1 (by decide +kernel) ?_
  refine T_leq (fun x83 e84 => ?_)
  have u85 := CI_b c74 (k := 191) (j := 16) bd_191_16
  exact T_ret ⟨c74, f76, (y_V2.u o79), Or.inl (⟨x83, rfl, by omega, by omega⟩)⟩
