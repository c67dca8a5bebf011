/-! SAFETY, further (by program) -/
abbrev R_X11_least_1 (a : Int) : Prop := (1 ≤ a ∧ a ≤ 1) ∨ (191 ≤ a ∧ a ≤ 244) ∨ (248 ≤ a ∧ a ≤ 257) ∨ (260 ≤ a ∧ a ≤ 295)
abbrev P_X11_least_1 (r0 : z_M) : z_V → z_M → Prop := fun v s' => z_CI s' ∧ z_Fr R_X11_least_1 r0 s' ∧ ((∃ x, v = vI x ∧ -2147483648 ≤ x ∧ x ≤ 2147483647) ∨ v = vX 0 ∨ v = vX 1)
theorem sj_X11_least_1_J80 {fu : Nat} (hfu : 8589934592 ≤ fu) (r0 s : z_M) (c : z_CI s) (f : z_Fr R_X11_least_1 r0 s) (a1 : Int) (a2 : Int) (a3 : Int) (a4 : Int) (b1 : -2147483648 ≤ a1 ∧ a1 ≤ 2147483647) (b2 : -2147483648 ≤ a2 ∧ a2 ≤ 2147483647) (b3 : 999 ≤ a3 ∧ a3 ≤ 999) (b4 : -2147483648 ≤ a4 ∧ a4 ≤ 2147483646) (M : Int) (pm : 2147483647 - a4 ≤ M) {r : z_M → Int → z_O} {k : z_M → z_O} (hr : ∀ (s' : z_M) (v4 : Int), z_CI s' → z_Fr R_X11_least_1 r0 s' → (-2147483648 ≤ v4 ∧ v4 ≤ 2147483647) → (2147483647 - v4 < M) → z_T (r s' v4) (P_X11_least_1 r0)) (hk : ∀ (s' : z_M), z_CI s' → z_Fr R_X11_least_1 r0 s' → z_T (k s') (P_X11_least_1 r0)) : z_T (fX11_least_J80 fu s 1 a1 a2 a3 a4 r k) (P_X11_least_1 r0) := by
  refine T_of (fX11_least_J80.eq_1 ..) ?_
  have u1 := CI_b c (k := 249) (j := 6) bd_249_6
  refine T_leq (fun x2 e3 => ?_)
  have w4 := z_wb e3
  exact hr s x2 c f (by omega) (by omega)
theorem sl_X11_least_1_L38 {fu : Nat} (hfu : 8589934592 ≤ fu) (r0 : z_M) (a1 : Int) (a2 : Int) (a3 : Int) (b1 : -2147483648 ≤ a1 ∧ a1 ≤ 2147483647) (b2 : -2147483648 ≤ a2 ∧ a2 ≤ 2147483647) (b3 : 999 ≤ a3 ∧ a3 ≤ 999) {k : z_M → z_O} (hk : ∀ (s' : z_M), z_CI s' → z_Fr R_X11_least_1 r0 s' → z_T (k s') (P_X11_least_1 r0)) : ∀ (F : Nat) (s : z_M) (a4 : Int), z_CI s → z_Fr R_X11_least_1 r0 s → (-2147483648 ≤ a4 ∧ a4 ≤ 2147483647) → (2147483647 - a4 < (F : Int)) → z_T (fX11_least_L38 fu 1 a1 a2 a3 F s a4 k) (P_X11_least_1 r0) := by
  intro F
  induction F with
  | zero =>
    intro s a4 c f b4 hm
    have u26 := CI_b c (k := 249) (j := 6) bd_249_6
    exfalso; omega
  | succ F ih =>
    intro s a4 c f b4 hm
    refine T_of (fX11_least_L38.eq_2 ..) ?_
    have u1 := CI_b c (k := 249) (j := 6) bd_249_6
    refine T_ite (fun h2 => ?_) (fun h2 => ?_)
    · exact hk s c f
    · refine T_if1 (by decide +kernel) ?_
      refine T_let 249 (by decide +kernel) ?_
      refine T_if1 (by decide +kernel) ?_
      refine T_useN (sf_X1_go_249 hfu s c a4 a2 (by omega) (by omega)) (fun v8 s3 hq => ?_)
      obtain ⟨c4, f5, rfl⟩ := hq
      refine T_vN ?_
      have f6 := z_Fr.tr (R := R_X11_least_1) f f5 (fun a h => by unfold R_X1_go_249 at h; unfold R_X11_least_1; omega)
      have u11 := CI_b c4 (k := 249) (j := 6) bd_249_6
      refine T_if1 (by decide +kernel) ?_
      refine T_let 249 (by decide +kernel) ?_
      refine T_if1 (by decide +kernel) ?_
      refine T_leq (fun x12 e13 => ?_)
      have u14 := CI_b c4 (k := 249) (j := 6) bd_249_6
      refine T_ite (fun h15 => ?_) (fun h15 => ?_)
      · exact sj_X11_least_1_J80 hfu r0 s3 c4 f6 a1 a2 a3 a4 (by omega) (by omega) (by omega) (by omega) (2147483647 - a4) (by omega) (fun s' v4 c' f' w4 pg => ih s' v4 c' f' w4 (by omega)) hk
      · refine T_if1 (by decide +kernel) ?_
        refine T_let 249 (by decide +kernel) ?_
        refine T_if1 (by decide +kernel) ?_
        refine T_useI (sf_X1_tooLong_249 hfu s3 c4 a4 (by omega)) (fun v21 s16 hq => ?_)
        obtain ⟨c17, f18, ⟨x20, rfl, b22, b23⟩⟩ := hq
        refine T_vI ?_
        have f19 := z_Fr.tr (R := R_X11_least_1) f6 f18 (fun a h => by unfold R_X1_tooLong_249 at h; unfold R_X11_least_1; omega)
        have t24 : s16 249 6 = s3 249 6 := f18 249 6 (by decide)
        refine T_ite (fun h25 => ?_) (fun h25 => ?_)
        · exact sj_X11_least_1_J80 hfu r0 s16 c17 f19 a1 a2 a3 a4 (by omega) (by omega) (by omega) (by omega) (2147483647 - a4) (by omega) (fun s' v4 c' f' w4 pg => ih s' v4 c' f' w4 (by omega)) hk
        · exact T_ret ⟨c17, f19, Or.inl (⟨a4, rfl, by omega, by omega⟩)⟩
theorem sf_X11_least_1 {fu : Nat} (hfu : 8589934592 ≤ fu) (r0 : z_M) (c0 : z_CI r0) (a1 : Int) (b1 : -2147483648 ≤ a1 ∧ a1 ≤ 2147483647) : z_T (fX11_least fu r0 1 a1) (P_X11_least_1 r0) := by
  refine T_of (fX11_least.eq_1 ..) ?_
  refine T_if1 (by decide +kernel) ?_
  refine T_nw ?_ (fun h1 h2 => ?_)
  · exact T_ret ⟨CI_up c0 bd_1_15 (z_wb rfl).1, z_Fr.up (R := R_X11_least_1) z_Fr.rf (fun a b h => z_up_k h) (by decide), Or.inr (Or.inr rfl)⟩
  refine T_if1 (by decide +kernel) ?_
  refine T_useN (sf_X11_refresh_1 hfu r0 c0) (fun v8 s3 hq => ?_)
  obtain ⟨c4, f5, rfl⟩ := hq
  refine T_vN ?_
  have f6 := z_Fr.tr (R := R_X11_least_1) z_Fr.rf f5 (fun a h => by unfold R_X11_refresh_1 at h; unfold R_X11_least_1; omega)
  have t11 : s3 249 6 = r0 249 6 := f5 249 6 (by decide)
  refine T_if1 (by decide +kernel) ?_
  refine T_let 2 (by decide +kernel) ?_
  refine T_if1 (by decide +kernel) ?_
  refine T_get (by decide +kernel) (c := 3) (by decide +kernel) bdr_3 (by decide) c4 (fun x12 e13 b14 w15 => ?_)
  have l16 : z_ln 2 = 9 := by decide +kernel
  refine T_pick (by decide) (fun x17 e18 b19 => ?_)
  have b20 : x17 = (999 : Int) := by rw [← e18]; decide +kernel
  refine T_if1 (by decide +kernel) ?_
  refine T_useI (sf_X11_shortestFor_1 hfu s3 c4 a1 x12 (by omega) (by omega)) (fun v26 s21 hq => ?_)
  obtain ⟨c22, f23, ⟨x25, rfl, b27, b28⟩⟩ := hq
  refine T_vI ?_
  have f24 := z_Fr.tr (R := R_X11_least_1) f6 f23 (fun a h => by unfold R_X11_shortestFor_1 at h; unfold R_X11_least_1; omega)
  have t29 : s21 249 6 = s3 249 6 := f23 249 6 (by decide)
  refine sl_X11_least_1_L38 hfu r0 a1 x12 x17 (by omega) (by omega) (by omega) (fun s30 c31 f32 => ?_) fu s21 x25 c22 f24 (by omega) (by omega)
  have u33 := CI_b c31 (k := 249) (j := 6) bd_249_6
  exact T_ret ⟨c31, f32, Or.inl (⟨(-1), rfl, by omega, by omega⟩)⟩
abbrev R_X1_costs_249 (a : Int) : Prop := (220 ≤ a ∧ a ≤ 239)
abbrev P_X1_costs_249 (r0 : z_M) : z_V → z_M → Prop := fun v s' => z_CI s' ∧ z_Fr R_X1_costs_249 r0 s' ∧ (∃ x, v = vL x ∧ -9223372036854775808 ≤ x ∧ x ≤ 9223372036854775807)
theorem sj_X1_costs_249_J38 {fu : Nat} (hfu : 8589934592 ≤ fu) (r0 s : z_M) (c : z_CI s) (f : z_Fr R_X1_costs_249 r0 s) (a1 : Int) (a4 : Int) (t0 : Int) (t1 : Int) (t2 : Int) (t3 : Int) (b1 : -2147483648 ≤ a1 ∧ a1 ≤ 2147483647) (b4 : -2147483648 ≤ a4 ∧ a4 ≤ 2147483646) (d0 : -9223372036854775808 ≤ t0 ∧ t0 ≤ 9223372036854775807) (d1 : -2147483648 ≤ t1 ∧ t1 ≤ 2147483647) (d2 : -2147483648 ≤ t2 ∧ t2 ≤ 2147483647) (d3 : 0 ≤ t3 ∧ t3 ≤ 1) (M : Int) (pm : 2147483647 - a4 ≤ M) {r : z_M → Int → Int → z_O} {k : z_M → Int → z_O} (hr : ∀ (s' : z_M) (v2 : Int) (v4 : Int), z_CI s' → z_Fr R_X1_costs_249 r0 s' → (-9223372036854775808 ≤ v2 ∧ v2 ≤ 9223372036854775807) → (-2147483648 ≤ v4 ∧ v4 ≤ 2147483647) → (2147483647 - v4 < M) → z_T (r s' v2 v4) (P_X1_costs_249 r0)) (hk : ∀ (s' : z_M) (v2 : Int), z_CI s' → z_Fr R_X1_costs_249 r0 s' → (-9223372036854775808 ≤ v2 ∧ v2 ≤ 9223372036854775807) → z_T (k s' v2) (P_X1_costs_249 r0)) : z_T (fX1_costs_J38 fu s 249 a1 a4 t0 t1 t2 t3 r k) (P_X1_costs_249 r0) := by
  refine T_of (fX1_costs_J38.eq_1 ..) ?_
  have u1 := CI_b c (k := 249) (j := 6) bd_249_6
  refine T_useL (sf_X1_costFor hfu s c t1 t2 t3 (by omega) (by omega) (by omega)) (fun v7 s2 hq => ?_)
  obtain ⟨c3, f4, ⟨x6, rfl, b8, b9⟩⟩ := hq
  refine T_vL ?_
  have f5 := z_Fr.tr (R := R_X1_costs_249) f f4 (fun a h => absurd h not_false)
  have t10 : s2 249 6 = s 249 6 := f4 249 6 (by decide)
  refine T_leq (fun x11 e12 => ?_)
  have w13 := z_wlr e12
  refine T_leq (fun x14 e15 => ?_)
  have w16 := z_wb e15
  exact hr s2 x11 x14 c3 f5 (by omega) (by omega) (by omega)
theorem sl_X1_costs_249_L5 {fu : Nat} (hfu : 8589934592 ≤ fu) (r0 : z_M) (a1 : Int) (b1 : -2147483648 ≤ a1 ∧ a1 ≤ 2147483647) {k : z_M → Int → z_O} (hk : ∀ (s' : z_M) (v2 : Int), z_CI s' → z_Fr R_X1_costs_249 r0 s' → (-9223372036854775808 ≤ v2 ∧ v2 ≤ 9223372036854775807) → z_T (k s' v2) (P_X1_costs_249 r0)) : ∀ (F : Nat) (s : z_M) (a2 : Int) (a4 : Int), z_CI s → z_Fr R_X1_costs_249 r0 s → (-9223372036854775808 ≤ a2 ∧ a2 ≤ 9223372036854775807) → (-2147483648 ≤ a4 ∧ a4 ≤ 2147483647) → (2147483647 - a4 < (F : Int)) → z_T (fX1_costs_L5 fu 249 a1 F s a2 a4 k) (P_X1_costs_249 r0) := by
  intro F
  induction F with
  | zero =>
    intro s a2 a4 c f b2 b4 hm
    have u22 := CI_b c (k := 249) (j := 6) bd_249_6
    exfalso; omega
  | succ F ih =>
    intro s a2 a4 c f b2 b4 hm
    refine T_of (fX1_costs_L5.eq_2 ..) ?_
    have u1 := CI_b c (k := 249) (j := 6) bd_249_6
    refine T_if1 (by decide +kernel) ?_
    refine T_leq (fun x2 e3 => ?_)
    have u4 := CI_b c (k := 249) (j := 6) bd_249_6
    refine T_ite (fun h5 => ?_) (fun h5 => ?_)
    · exact hk s a2 c f (by omega)
    · refine T_if1 (by decide +kernel) ?_
      refine T_useI (sf_X1_longOfLine_249 hfu s c a4 (by omega)) (fun v11 s6 hq => ?_)
      obtain ⟨c7, f8, ⟨x10, rfl, b12, b13⟩⟩ := hq
      refine T_vI ?_
      have f9 := z_Fr.tr (R := R_X1_costs_249) f f8 (fun a h => by unfold R_X1_longOfLine_249 at h; unfold R_X1_costs_249; omega)
      have t14 : s6 249 6 = s 249 6 := f8 249 6 (by decide)
      refine T_if1 (by decide +kernel) ?_
      refine T_leq (fun x15 e16 => ?_)
      have u17 := CI_b c7 (k := 249) (j := 6) bd_249_6
      refine T_leq (fun x18 e19 => ?_)
      have w20 := z_wb e19
      refine T_ite (fun h21 => ?_) (fun h21 => ?_)
      · exact sj_X1_costs_249_J38 hfu r0 s6 c7 f9 a1 a4 a2 x10 a1 0 (by omega) (by omega) (by omega) (by omega) (by omega) (by omega) (2147483647 - a4) (by omega) (fun s' v2 v4 c' f' w2 w4 pg => ih s' v2 v4 c' f' w2 w4 (by omega)) hk
      · exact sj_X1_costs_249_J38 hfu r0 s6 c7 f9 a1 a4 a2 x10 a1 1 (by omega) (by omega) (by omega) (by omega) (by omega) (by omega) (2147483647 - a4) (by omega) (fun s' v2 v4 c' f' w2 w4 pg => ih s' v2 v4 c' f' w2 w4 (by omega)) hk
theorem sf_X1_costs_249 {fu : Nat} (hfu : 8589934592 ≤ fu) (r0 : z_M) (c0 : z_CI r0) (a1 : Int) (b1 : -2147483648 ≤ a1 ∧ a1 ≤ 2147483647) : z_T (fX1_costs fu r0 249 a1) (P_X1_costs_249 r0) := by
  refine T_of (fX1_costs.eq_1 ..) ?_
  refine sl_X1_costs_249_L5 hfu r0 a1 (by omega) (fun s1 y4 c2 f3 b5 => ?_) fu r0 0 0 c0 z_Fr.rf (by omega) (by omega) (by omega)
  have u6 := CI_b c2 (k := 249) (j := 6) bd_249_6
  exact T_ret ⟨c2, f3, ⟨y4, rfl, by omega, by omega⟩⟩
abbrev R_X11_better_1 (a : Int) : Prop := (1 ≤ a ∧ a ≤ 1) ∨ (191 ≤ a ∧ a ≤ 244) ∨ (248 ≤ a ∧ a ≤ 253) ∨ (257 ≤ a ∧ a ≤ 257) ∨ (260 ≤ a ∧ a ≤ 295)
abbrev P_X11_better_1 (r0 : z_M) : z_V → z_M → Prop := fun v s' => z_CI s' ∧ z_Fr R_X11_better_1 r0 s' ∧ (∃ x, v = vL x ∧ -9223372036854775808 ≤ x ∧ x ≤ 9223372036854775807)
theorem sf_X11_better_1 {fu : Nat} (hfu : 8589934592 ≤ fu) (r0 : z_M) (c0 : z_CI r0) : z_T (fX11_better fu r0 1) (P_X11_better_1 r0) := by
  refine T_of (fX11_better.eq_1 ..) ?_
  refine T_if1 (by decide +kernel) ?_
  refine T_useN (sf_X11_refresh_1 hfu r0 c0) (fun v6 s1 hq => ?_)
  obtain ⟨c2, f3, rfl⟩ := hq
  refine T_vN ?_
  have f4 := z_Fr.tr (R := R_X11_better_1) z_Fr.rf f3 (fun a h => by unfold R_X11_refresh_1 at h; unfold R_X11_better_1; omega)
  refine T_if1 (by decide +kernel) ?_
  refine T_let 2 (by decide +kernel) ?_
  refine T_if1 (by decide +kernel) ?_
  refine T_get (by decide +kernel) (c := 3) (by decide +kernel) bdr_3 (by decide) c2 (fun x9 e10 b11 w12 => ?_)
  have l13 : z_ln 2 = 9 := by decide +kernel
  refine T_if1 (by decide +kernel) ?_
  refine T_let 249 (by decide +kernel) ?_
  refine T_if1 (by decide +kernel) ?_
  refine T_useN (sf_X1_go_249 hfu s1 c2 x9 0 (by omega) (by omega)) (fun v19 s14 hq => ?_)
  obtain ⟨c15, f16, rfl⟩ := hq
  refine T_vN ?_
  have f17 := z_Fr.tr (R := R_X11_better_1) f4 f16 (fun a h => by unfold R_X1_go_249 at h; unfold R_X11_better_1; omega)
  refine T_if1 (by decide +kernel) ?_
  refine T_let 249 (by decide +kernel) ?_
  refine T_if1 (by decide +kernel) ?_
  refine T_useL (sf_X1_costs_249 hfu s14 c15 x9 (by omega)) (fun v27 s22 hq => ?_)
  obtain ⟨c23, f24, ⟨x26, rfl, b28, b29⟩⟩ := hq
  refine T_vL ?_
  have f25 := z_Fr.tr (R := R_X11_better_1) f17 f24 (fun a h => by unfold R_X1_costs_249 at h; unfold R_X11_better_1; omega)
  refine T_if1 (by decide +kernel) ?_
  refine T_let 249 (by decide +kernel) ?_
  refine T_if1 (by decide +kernel) ?_
  refine T_useN (sf_X1_go_249 hfu s22 c23 x9 1 (by omega) (by omega)) (fun v35 s30 hq => ?_)
  obtain ⟨c31, f32, rfl⟩ := hq
  refine T_vN ?_
  have f33 := z_Fr.tr (R := R_X11_better_1) f25 f32 (fun a h => by unfold R_X1_go_249 at h; unfold R_X11_better_1; omega)
  refine T_if1 (by decide +kernel) ?_
  refine T_let 249 (by decide +kernel) ?_
  refine T_if1 (by decide +kernel) ?_
  refine T_useL (sf_X1_costs_249 hfu s30 c31 x9 (by omega)) (fun v43 s38 hq => ?_)
  obtain ⟨c39, f40, ⟨x42, rfl, b44, b45⟩⟩ := hq
  refine T_vL ?_
  have f41 := z_Fr.tr (R := R_X11_better_1) f33 f40 (fun a h => by unfold R_X1_costs_249 at h; unfold R_X11_better_1; omega)
  refine T_leq (fun x46 e47 => ?_)
  have w48 := z_wlr e47
  exact T_ret ⟨c39, f41, ⟨x46, rfl, by omega, by omega⟩⟩
abbrev R_X11_marks_1 (a : Int) : Prop := (1 ≤ a ∧ a ≤ 1) ∨ (191 ≤ a ∧ a ≤ 244) ∨ (248 ≤ a ∧ a ≤ 248) ∨ (260 ≤ a ∧ a ≤ 295)
abbrev P_X11_marks_1 (r0 : z_M) : z_V → z_M → Prop := fun v s' => z_CI s' ∧ z_Fr R_X11_marks_1 r0 s' ∧ ((∃ x, v = vI x ∧ -2147483648 ≤ x ∧ x ≤ 2147483647) ∨ v = vX 0 ∨ v = vX 1)
theorem sf_X11_marks_1 {fu : Nat} (hfu : 8589934592 ≤ fu) (r0 : z_M) (c0 : z_CI r0) (a1 : Int) (b1 : -2147483648 ≤ a1 ∧ a1 ≤ 2147483647) : z_T (fX11_marks fu r0 1 a1) (P_X11_marks_1 r0) := by
  refine T_of (fX11_marks.eq_1 ..) ?_
  refine T_if1 (by decide +kernel) ?_
  refine T_nw ?_ (fun h1 h2 => ?_)
  · exact T_ret ⟨CI_up c0 bd_1_15 (z_wb rfl).1, z_Fr.up (R := R_X11_marks_1) z_Fr.rf (fun a b h => z_up_k h) (by decide), Or.inr (Or.inr rfl)⟩
  refine T_if1 (by decide +kernel) ?_
  refine T_useN (sf_X11_refresh_1 hfu r0 c0) (fun v8 s3 hq => ?_)
  obtain ⟨c4, f5, rfl⟩ := hq
  refine T_vN ?_
  have f6 := z_Fr.tr (R := R_X11_marks_1) z_Fr.rf f5 (fun a h => by unfold R_X11_refresh_1 at h; unfold R_X11_marks_1; omega)
  have t11 : s3 6 6 = r0 6 6 := f5 6 6 (by decide)
  refine T_if1 (by decide +kernel) ?_
  refine T_let 191 (by decide +kernel) ?_
  refine T_if1 (by decide +kernel) ?_
  refine T_let 6 (by decide +kernel) ?_
  refine T_if1 (by decide +kernel) ?_
  refine T_leq (fun x12 e13 => ?_)
  have u14 := CI_b c4 (k := 6) (j := 6) bd_6_6
  refine T_leq (fun x15 e16 => ?_)
  have w17 := z_wb e16
  refine T_if1 (by decide +kernel) ?_
  refine T_useI (sf_X10_marksOf_191 hfu s3 c4 0 x15 a1 (by omega) (by omega) (by omega)) (fun v23 s18 hq => ?_)
  obtain ⟨c19, f20, ⟨x22, rfl, b24, b25⟩⟩ := hq
  refine T_vI ?_
  have f21 := z_Fr.tr (R := R_X11_marks_1) f6 f20 (fun a h => absurd h not_false)
  have t26 : s18 6 6 = s3 6 6 := f20 6 6 (by decide)
  exact T_ret ⟨c19, f21, Or.inl (⟨x22, rfl, by omega, by omega⟩)⟩
abbrev R_X1_movedFrom_249_259 (a : Int) : Prop := False
abbrev P_X1_movedFrom_249_259 (r0 : z_M) : z_V → z_M → Prop := fun v s' => z_CI s' ∧ z_Fr R_X1_movedFrom_249_259 r0 s' ∧ (∃ x, v = vI x ∧ -2147483648 ≤ x ∧ x ≤ 2147483647)
theorem sj_X1_movedFrom_249_259_J64 {fu : Nat} (hfu : 8589934592 ≤ fu) (r0 s : z_M) (c : z_CI s) (f : z_Fr R_X1_movedFrom_249_259 r0 s) (a3 : Int) (a4 : Int) (t0 : Int) (t1 : Int) (b3 : -2147483648 ≤ a3 ∧ a3 ≤ 2147483647) (b4 : -2147483648 ≤ a4 ∧ a4 ≤ 2147483646) (d0 : -2147483648 ≤ t0 ∧ t0 ≤ 2147483647) (d1 : -2147483648 ≤ t1 ∧ t1 ≤ 2147483647) (M : Int) (pm : 2147483647 - a4 ≤ M) {r : z_M → Int → Int → z_O} {k : z_M → Int → z_O} (hr : ∀ (s' : z_M) (v2 : Int) (v4 : Int), z_CI s' → z_Fr R_X1_movedFrom_249_259 r0 s' → (-2147483648 ≤ v2 ∧ v2 ≤ 2147483647) → (-2147483648 ≤ v4 ∧ v4 ≤ 2147483647) → (2147483647 - v4 < M) → z_T (r s' v2 v4) (P_X1_movedFrom_249_259 r0)) (hk : ∀ (s' : z_M) (v2 : Int), z_CI s' → z_Fr R_X1_movedFrom_249_259 r0 s' → (-2147483648 ≤ v2 ∧ v2 ≤ 2147483647) → z_T (k s' v2) (P_X1_movedFrom_249_259 r0)) : z_T (fX1_movedFrom_J64 fu s 249 259 a3 a4 t0 t1 r k) (P_X1_movedFrom_249_259 r0) := by
  refine T_of (fX1_movedFrom_J64.eq_1 ..) ?_
  have u1 := CI_b c (k := 249) (j := 6) bd_249_6
  refine T_leq (fun x2 e3 => ?_)
  have w4 := z_wr e3
  refine T_leq (fun x5 e6 => ?_)
  have w7 := z_wb e6
  exact hr s x2 x5 c f (by omega) (by omega) (by omega)
theorem sl_X1_movedFrom_249_259_L22 {fu : Nat} (hfu : 8589934592 ≤ fu) (r0 : z_M) (a3 : Int) (b3 : -2147483648 ≤ a3 ∧ a3 ≤ 2147483647) {k : z_M → Int → z_O} (hk : ∀ (s' : z_M) (v2 : Int), z_CI s' → z_Fr R_X1_movedFrom_249_259 r0 s' → (-2147483648 ≤ v2 ∧ v2 ≤ 2147483647) → z_T (k s' v2) (P_X1_movedFrom_249_259 r0)) : ∀ (F : Nat) (s : z_M) (a2 : Int) (a4 : Int), z_CI s → z_Fr R_X1_movedFrom_249_259 r0 s → (-2147483648 ≤ a2 ∧ a2 ≤ 2147483647) → (-2147483648 ≤ a4 ∧ a4 ≤ 2147483647) → (2147483647 - a4 < (F : Int)) → z_T (fX1_movedFrom_L22 fu 249 259 a3 F s a2 a4 k) (P_X1_movedFrom_249_259 r0) := by
  intro F
  induction F with
  | zero =>
    intro s a2 a4 c f b2 b4 hm
    have u22 := CI_b c (k := 249) (j := 6) bd_249_6
    exfalso; omega
  | succ F ih =>
    intro s a2 a4 c f b2 b4 hm
    refine T_of (fX1_movedFrom_L22.eq_2 ..) ?_
    have u1 := CI_b c (k := 249) (j := 6) bd_249_6
    refine T_if1 (by decide +kernel) ?_
    refine T_let 256 (by decide +kernel) ?_
    refine T_leq (fun x2 e3 => ?_)
    have w4 := z_wr e3
    refine T_if1 (by decide +kernel) ?_
    refine T_get (by decide +kernel) (c := 257) (by decide +kernel) bdr_257 (by decide) c (fun x5 e6 b7 w8 => ?_)
    have l9 : z_ln 256 = 201 := by decide +kernel
    refine T_ite (fun h10 => ?_) (fun h10 => ?_)
    · exact hk s a2 c f (by omega)
    · refine T_if1 (by decide +kernel) ?_
      refine T_get (by decide +kernel) (c := 260) (by decide +kernel) bdr_260 (by decide) c (fun x11 e12 b13 w14 => ?_)
      have l15 : z_ln 259 = 200 := by decide +kernel
      refine T_ite (fun h16 => ?_) (fun h16 => ?_)
      · refine T_if1 (by decide +kernel) ?_
        refine T_let 191 (by decide +kernel) ?_
        refine T_if1 (by decide +kernel) ?_
        refine T_let 196 (by decide +kernel) ?_
        refine T_if1 (by decide +kernel) ?_
        refine T_get (by decide +kernel) (c := 197) (by decide +kernel) bdr_197 (by decide) c (fun x17 e18 b19 w20 => ?_)
        have l21 : z_ln 196 = 200 := by decide +kernel
        exact sj_X1_movedFrom_249_259_J64 hfu r0 s c f a3 a4 a2 x17 (by omega) (by omega) (by omega) (by omega) (2147483647 - a4) (by omega) (fun s' v2 v4 c' f' w2 w4 pg => ih s' v2 v4 c' f' w2 w4 (by omega)) hk
      · exact sj_X1_movedFrom_249_259_J64 hfu r0 s c f a3 a4 a2 0 (by omega) (by omega) (by omega) (by omega) (2147483647 - a4) (by omega) (fun s' v2 v4 c' f' w2 w4 pg => ih s' v2 v4 c' f' w2 w4 (by omega)) hk
theorem sl_X1_movedFrom_249_259_L4 {fu : Nat} (hfu : 8589934592 ≤ fu) (r0 : z_M) {k : z_M → Int → z_O} (hk : ∀ (s' : z_M) (v2 : Int), z_CI s' → z_Fr R_X1_movedFrom_249_259 r0 s' → (-2147483648 ≤ v2 ∧ v2 ≤ 2147483647) → z_T (k s' v2) (P_X1_movedFrom_249_259 r0)) : ∀ (F : Nat) (s : z_M) (a2 : Int) (a3 : Int), z_CI s → z_Fr R_X1_movedFrom_249_259 r0 s → (-2147483648 ≤ a2 ∧ a2 ≤ 2147483647) → (-2147483648 ≤ a3 ∧ a3 ≤ 2147483647) → (2147483647 - a3 < (F : Int)) → z_T (fX1_movedFrom_L4 fu 249 259 F s a2 a3 k) (P_X1_movedFrom_249_259 r0) := by
  intro F
  induction F with
  | zero =>
    intro s a2 a3 c f b2 b3 hm
    have u20 := CI_b c (k := 249) (j := 6) bd_249_6
    exfalso; omega
  | succ F ih =>
    intro s a2 a3 c f b2 b3 hm
    refine T_of (fX1_movedFrom_L4.eq_2 ..) ?_
    have u1 := CI_b c (k := 249) (j := 6) bd_249_6
    refine T_if1 (by decide +kernel) ?_
    refine T_leq (fun x2 e3 => ?_)
    have u4 := CI_b c (k := 249) (j := 6) bd_249_6
    refine T_ite (fun h5 => ?_) (fun h5 => ?_)
    · exact hk s a2 c f (by omega)
    · refine T_if1 (by decide +kernel) ?_
      refine T_let 256 (by decide +kernel) ?_
      refine T_if1 (by decide +kernel) ?_
      refine T_get (by decide +kernel) (c := 257) (by decide +kernel) bdr_257 (by decide) c (fun x6 e7 b8 w9 => ?_)
      have l10 : z_ln 256 = 201 := by decide +kernel
      refine sl_X1_movedFrom_249_259_L22 hfu r0 a3 (by omega) (fun s11 y14 c12 f13 b15 => ?_) fu s a2 x6 c f (by omega) (by omega) (by omega)
      have u16 := CI_b c12 (k := 249) (j := 6) bd_249_6
      refine T_leq (fun x17 e18 => ?_)
      have w19 := z_wb e18
      exact ih s11 y14 x17 c12 f13 (by omega) (by omega) (by omega)
theorem sf_X1_movedFrom_249_259 {fu : Nat} (hfu : 8589934592 ≤ fu) (r0 : z_M) (c0 : z_CI r0) : z_T (fX1_movedFrom fu r0 249 259) (P_X1_movedFrom_249_259 r0) := by
  refine T_of (fX1_movedFrom.eq_1 ..) ?_
  refine sl_X1_movedFrom_249_259_L4 hfu r0 (fun s1 y4 c2 f3 b5 => ?_) fu r0 0 0 c0 z_Fr.rf (by omega) (by omega) (by omega)
  have u6 := CI_b c2 (k := 249) (j := 6) bd_249_6
  exact T_ret ⟨c2, f3, ⟨y4, rfl, by omega, by omega⟩⟩
abbrev R_X11_moves_1 (a : Int) : Prop := (1 ≤ a ∧ a ≤ 3) ∨ (191 ≤ a ∧ a ≤ 244) ∨ (248 ≤ a ∧ a ≤ 253) ∨ (257 ≤ a ∧ a ≤ 257) ∨ (260 ≤ a ∧ a ≤ 295)
abbrev P_X11_moves_1 (r0 : z_M) : z_V → z_M → Prop := fun v s' => z_CI s' ∧ z_Fr R_X11_moves_1 r0 s' ∧ (∃ x, v = vI x ∧ -2147483648 ≤ x ∧ x ≤ 2147483647)
theorem sf_X11_moves_1 {fu : Nat} (hfu : 8589934592 ≤ fu) (r0 : z_M) (c0 : z_CI r0) : z_T (fX11_moves fu r0 1) (P_X11_moves_1 r0) := by
  refine T_of (fX11_moves.eq_1 ..) ?_
  refine T_if1 (by decide +kernel) ?_
  refine T_useN (sf_X11_refresh_1 hfu r0 c0) (fun v6 s1 hq => ?_)
  obtain ⟨c2, f3, rfl⟩ := hq
  refine T_vN ?_
  have f4 := z_Fr.tr (R := R_X11_moves_1) z_Fr.rf f3 (fun a h => by unfold R_X11_refresh_1 at h; unfold R_X11_moves_1; omega)
  refine T_if1 (by decide +kernel) ?_
  refine T_let 2 (by decide +kernel) ?_
  refine T_if1 (by decide +kernel) ?_
  refine T_let 2 (by decide +kernel) ?_
  refine T_if1 (by decide +kernel) ?_
  refine T_get (by decide +kernel) (c := 3) (by decide +kernel) bdr_3 (by decide) c2 (fun x9 e10 b11 w12 => ?_)
  have l13 : z_ln 2 = 9 := by decide +kernel
  refine T_leq (fun x14 e15 => ?_)
  have w16 := z_wb e15
  refine T_if1 (by decide +kernel) ?_
  refine T_put (by decide +kernel) (c := 3) (by decide +kernel) bdr_3 (by omega) c2 (fun s17 e20 c18 g21 => ?_)
  have f19 := z_Fr.up (R := R_X11_moves_1) f4 g21 (by decide)
  refine T_if1 (by decide +kernel) ?_
  refine T_let 191 (by decide +kernel) ?_
  refine T_if1 (by decide +kernel) ?_
  refine T_useN (sf_X10_build_191 hfu s17 c18) (fun v27 s22 hq => ?_)
  obtain ⟨c23, f24, rfl⟩ := hq
  refine T_vN ?_
  have f25 := z_Fr.tr (R := R_X11_moves_1) f19 f24 (fun a h => by unfold R_X10_build_191 at h; unfold R_X11_moves_1; omega)
  refine T_if1 (by decide +kernel) ?_
  refine T_let 220 (by decide +kernel) ?_
  refine T_if1 (by decide +kernel) ?_
  refine T_useN (sf_X5_forget_220 hfu s22 c23) (fun v35 s30 hq => ?_)
  obtain ⟨c31, f32, rfl⟩ := hq
  refine T_vN ?_
  have f33 := z_Fr.tr (R := R_X11_moves_1) f25 f32 (fun a h => by unfold R_X5_forget_220 at h; unfold R_X11_moves_1; omega)
  refine T_if1 (by decide +kernel) ?_
  refine T_let 249 (by decide +kernel) ?_
  refine T_if1 (by decide +kernel) ?_
  refine T_let 2 (by decide +kernel) ?_
  refine T_if1 (by decide +kernel) ?_
  refine T_get (by decide +kernel) (c := 3) (by decide +kernel) bdr_3 (by decide) c31 (fun x38 e39 b40 w41 => ?_)
  have l42 : z_ln 2 = 9 := by decide +kernel
  refine T_if1 (by decide +kernel) ?_
  refine T_let 2 (by decide +kernel) ?_
  refine T_if1 (by decide +kernel) ?_
  refine T_get (by decide +kernel) (c := 3) (by decide +kernel) bdr_3 (by decide) c31 (fun x43 e44 b45 w46 => ?_)
  have l47 : z_ln 2 = 9 := by decide +kernel
  refine T_if1 (by decide +kernel) ?_
  refine T_useN (sf_X1_go_249 hfu s30 c31 x38 x43 (by omega) (by omega)) (fun v53 s48 hq => ?_)
  obtain ⟨c49, f50, rfl⟩ := hq
  refine T_vN ?_
  have f51 := z_Fr.tr (R := R_X11_moves_1) f33 f50 (fun a h => by unfold R_X1_go_249 at h; unfold R_X11_moves_1; omega)
  refine T_if1 (by decide +kernel) ?_
  refine T_let 249 (by decide +kernel) ?_
  refine T_if1 (by decide +kernel) ?_
  refine T_let 258 (by decide +kernel) ?_
  refine T_if1 (by decide +kernel) ?_
  refine T_let 259 (by decide +kernel) ?_
  refine T_if1 (by decide +kernel) ?_
  refine T_useI (sf_X1_movedFrom_249_259 hfu s48 c49) (fun v61 s56 hq => ?_)
  obtain ⟨c57, f58, ⟨x60, rfl, b62, b63⟩⟩ := hq
  refine T_vI ?_
  have f59 := z_Fr.tr (R := R_X11_moves_1) f51 f58 (fun a h => absurd h not_false)
  refine T_if1 (by decide +kernel) ?_
  refine T_let 2 (by decide +kernel) ?_
  refine T_if1 (by decide +kernel) ?_
  refine T_let 2 (by decide +kernel) ?_
  refine T_if1 (by decide +kernel) ?_
  refine T_get (by decide +kernel) (c := 3) (by decide +kernel) bdr_3 (by decide) c57 (fun x64 e65 b66 w67 => ?_)
  have l68 : z_ln 2 = 9 := by decide +kernel
  refine T_leq (fun x69 e70 => ?_)
  have w71 := z_wb e70
  refine T_if1 (by decide +kernel) ?_
  refine T_put (by decide +kernel) (c := 3) (by decide +kernel) bdr_3 (by omega) c57 (fun s72 e75 c73 g76 => ?_)
  have f74 := z_Fr.up (R := R_X11_moves_1) f59 g76 (by decide)
  refine T_if1 ⟨(by decide +kernel), by unfold z_bl; omega⟩ ?_
  refine T_upg c73 bd_1_16 (by omega) (fun s77 c78 g80 g81 e82 => ?_)
  have f79 := z_Fr.up (R := R_X11_moves_1) f74 g80 (by decide)
  exact T_ret ⟨c78, f79, ⟨x60, rfl, by omega, by omega⟩⟩
abbrev R_X11_lend_1 (a : Int) : Prop := (1 ≤ a ∧ a ≤ 1) ∨ (191 ≤ a ∧ a ≤ 244) ∨ (248 ≤ a ∧ a ≤ 248) ∨ (260 ≤ a ∧ a ≤ 295)
abbrev P_X11_lend_1 (r0 : z_M) : z_V → z_M → Prop := fun v s' => z_CI s' ∧ z_Fr R_X11_lend_1 r0 s' ∧ ((∃ x, v = vI x ∧ -2147483648 ≤ x ∧ x ≤ 2147483647) ∨ v = vX 0 ∨ v = vX 1)
theorem sj_X11_lend_1_J88 {fu : Nat} (hfu : 8589934592 ≤ fu) (r0 s : z_M) (c : z_CI s) (f : z_Fr R_X11_lend_1 r0 s) (a1 : Int) (a2 : Int) (a3 : Int) (a4 : Int) (b1 : -2147483648 ≤ a1 ∧ a1 ≤ 2147483647) (b2 : -2147483648 ≤ a2 ∧ a2 ≤ 2147483647) (b3 : -2147483648 ≤ a3 ∧ a3 ≤ 2147483647) (b4 : -2147483648 ≤ a4 ∧ a4 ≤ 2147483646) (M : Int) (pm : 2147483647 - a4 ≤ M) {r : z_M → Int → Int → Int → z_O} {k : z_M → Int → Int → z_O} (hr : ∀ (s' : z_M) (v2 : Int) (v3 : Int) (v4 : Int), z_CI s' → z_Fr R_X11_lend_1 r0 s' → (-2147483648 ≤ v2 ∧ v2 ≤ 2147483647) → (-2147483648 ≤ v3 ∧ v3 ≤ 2147483647) → (-2147483648 ≤ v4 ∧ v4 ≤ 2147483647) → (2147483647 - v4 < M) → z_T (r s' v2 v3 v4) (P_X11_lend_1 r0)) (hk : ∀ (s' : z_M) (v2 : Int) (v3 : Int), z_CI s' → z_Fr R_X11_lend_1 r0 s' → (-2147483648 ≤ v2 ∧ v2 ≤ 2147483647) → (-2147483648 ≤ v3 ∧ v3 ≤ 2147483647) → z_T (k s' v2 v3) (P_X11_lend_1 r0)) : z_T (fX11_lend_J88 fu s 1 a1 a2 a3 a4 r k) (P_X11_lend_1 r0) := by
  refine T_of (fX11_lend_J88.eq_1 ..) ?_
  have u1 := CI_b c (k := 191) (j := 16) bd_191_16
  refine T_leq (fun x2 e3 => ?_)
  have w4 := z_wb e3
  exact hr s a2 a3 x2 c f (by omega) (by omega) (by omega) (by omega)
theorem sl_X11_lend_1_L43 {fu : Nat} (hfu : 8589934592 ≤ fu) (r0 : z_M) (a1 : Int) (b1 : -2147483648 ≤ a1 ∧ a1 ≤ 2147483647) {k : z_M → Int → Int → z_O} (hk : ∀ (s' : z_M) (v2 : Int) (v3 : Int), z_CI s' → z_Fr R_X11_lend_1 r0 s' → (-2147483648 ≤ v2 ∧ v2 ≤ 2147483647) → (-2147483648 ≤ v3 ∧ v3 ≤ 2147483647) → z_T (k s' v2 v3) (P_X11_lend_1 r0)) : ∀ (F : Nat) (s : z_M) (a2 : Int) (a3 : Int) (a4 : Int), z_CI s → z_Fr R_X11_lend_1 r0 s → (-2147483648 ≤ a2 ∧ a2 ≤ 2147483647) → (-2147483648 ≤ a3 ∧ a3 ≤ 2147483647) → (-2147483648 ≤ a4 ∧ a4 ≤ 2147483647) → (2147483647 - a4 < (F : Int)) → z_T (fX11_lend_L43 fu 1 a1 F s a2 a3 a4 k) (P_X11_lend_1 r0) := by
  intro F
  induction F with
  | zero =>
    intro s a2 a3 a4 c f b2 b3 b4 hm
    have u23 := CI_b c (k := 191) (j := 16) bd_191_16
    exfalso; omega
  | succ F ih =>
    intro s a2 a3 a4 c f b2 b3 b4 hm
    refine T_of (fX11_lend_L43.eq_2 ..) ?_
    have u1 := CI_b c (k := 191) (j := 16) bd_191_16
    refine T_pick (by decide) (fun x2 e3 b4 => ?_)
    have b5 : x2 = (6 : Int) := by rw [← e3]; decide +kernel
    refine T_ite (fun h6 => ?_) (fun h6 => ?_)
    · exact hk s a2 a3 c f (by omega) (by omega)
    · refine T_if1 (by decide +kernel) ?_
      refine T_let 220 (by decide +kernel) ?_
      refine T_if1 (by decide +kernel) ?_
      refine T_let 191 (by decide +kernel) ?_
      refine T_if1 (by decide +kernel) ?_
      refine T_leq (fun x7 e8 => ?_)
      have u9 := CI_b c (k := 191) (j := 16) bd_191_16
      refine T_leq (fun x10 e11 => ?_)
      have w12 := z_wb e11
      refine T_if1 (by decide +kernel) ?_
      refine T_useI (sf_X5_longWith_220 hfu s c 0 x10 a4 (by omega) (by omega) (by omega)) (fun v18 s13 hq => ?_)
      obtain ⟨c14, f15, ⟨x17, rfl, b19, b20⟩⟩ := hq
      refine T_vI ?_
      have f16 := z_Fr.tr (R := R_X11_lend_1) f f15 (fun a h => by unfold R_X5_longWith_220 at h; unfold R_X11_lend_1; omega)
      have t21 : s13 191 16 = s 191 16 := f15 191 16 (by decide)
      refine T_ite (fun h22 => ?_) (fun h22 => ?_)
      · exact sj_X11_lend_1_J88 hfu r0 s13 c14 f16 a1 a2 a3 a4 (by omega) (by omega) (by omega) (by omega) (2147483647 - a4) (by omega) (fun s' v2 v3 v4 c' f' w2 w3 w4 pg => ih s' v2 v3 v4 c' f' w2 w3 w4 (by omega)) hk
      · exact sj_X11_lend_1_J88 hfu r0 s13 c14 f16 a1 a4 x17 a4 (by omega) (by omega) (by omega) (by omega) (2147483647 - a4) (by omega) (fun s' v2 v3 v4 c' f' w2 w3 w4 pg => ih s' v2 v3 v4 c' f' w2 w3 w4 (by omega)) hk
theorem sj_X11_lend_1_J103 {fu : Nat} (hfu : 8589934592 ≤ fu) (r0 s : z_M) (c : z_CI s) (f : z_Fr R_X11_lend_1 r0 s) (t0 : Int) (d0 : -2147483648 ≤ t0 ∧ t0 ≤ 2147483647) : z_T (fX11_lend_J103 fu s t0) (P_X11_lend_1 r0) := by
  refine T_of (fX11_lend_J103.eq_1 ..) ?_
  have u1 := CI_b c (k := 191) (j := 16) bd_191_16
  exact T_ret ⟨c, f, Or.inl (⟨t0, rfl, by omega, by omega⟩)⟩
theorem sf_X11_lend_1 {fu : Nat} (hfu : 8589934592 ≤ fu) (r0 : z_M) (c0 : z_CI r0) (a1 : Int) (b1 : -2147483648 ≤ a1 ∧ a1 ≤ 2147483647) : z_T (fX11_lend fu r0 1 a1) (P_X11_lend_1 r0) := by
  refine T_of (fX11_lend.eq_1 ..) ?_
  refine T_if1 (by decide +kernel) ?_
  refine T_nw ?_ (fun h1 h2 => ?_)
  · exact T_ret ⟨CI_up c0 bd_1_15 (z_wb rfl).1, z_Fr.up (R := R_X11_lend_1) z_Fr.rf (fun a b h => z_up_k h) (by decide), Or.inr (Or.inr rfl)⟩
  refine T_if1 (by decide +kernel) ?_
  refine T_useN (sf_X11_refresh_1 hfu r0 c0) (fun v8 s3 hq => ?_)
  obtain ⟨c4, f5, rfl⟩ := hq
  refine T_vN ?_
  have f6 := z_Fr.tr (R := R_X11_lend_1) z_Fr.rf f5 (fun a h => by unfold R_X11_refresh_1 at h; unfold R_X11_lend_1; omega)
  have u11 := CI_b c4 (k := 191) (j := 16) bd_191_16
  refine T_pick (by decide) (fun x12 e13 b14 => ?_)
  have b15 : x12 = (0 : Int) := by rw [← e13]; decide +kernel
  refine T_if1 (by decide +kernel) ?_
  refine T_let 220 (by decide +kernel) ?_
  refine T_if1 (by decide +kernel) ?_
  refine T_let 191 (by decide +kernel) ?_
  refine T_if1 (by decide +kernel) ?_
  refine T_leq (fun x16 e17 => ?_)
  have u18 := CI_b c4 (k := 191) (j := 16) bd_191_16
  refine T_leq (fun x19 e20 => ?_)
  have w21 := z_wb e20
  refine T_if1 (by decide +kernel) ?_
  refine T_useI (sf_X5_longWith_220 hfu s3 c4 0 x19 x12 (by omega) (by omega) (by omega)) (fun v27 s22 hq => ?_)
  obtain ⟨c23, f24, ⟨x26, rfl, b28, b29⟩⟩ := hq
  refine T_vI ?_
  have f25 := z_Fr.tr (R := R_X11_lend_1) f6 f24 (fun a h => by unfold R_X5_longWith_220 at h; unfold R_X11_lend_1; omega)
  have t30 : s22 191 16 = s3 191 16 := f24 191 16 (by decide)
  refine T_leq (fun x31 e32 => ?_)
  have w33 := z_wb e32
  refine sl_X11_lend_1_L43 hfu r0 a1 (by omega) (fun s34 y37 y38 c35 f36 b39 b40 => ?_) fu s22 x12 x26 x31 c23 f25 (by omega) (by omega) (by omega) (by omega)
  have u41 := CI_b c35 (k := 191) (j := 16) bd_191_16
  refine T_ite (fun h42 => ?_) (fun h42 => ?_)
  · exact sj_X11_lend_1_J103 hfu r0 s34 c35 f36 y38 (by omega)
  · exact sj_X11_lend_1_J103 hfu r0 s34 c35 f36 y37 (by omega)
abbrev R_X3_nearestOn_258 (a : Int) : Prop := False
abbrev P_X3_nearestOn_258 (r0 : z_M) : z_V → z_M → Prop := fun v s' => z_CI s' ∧ z_Fr R_X3_nearestOn_258 r0 s' ∧ (∃ x, v = vI x ∧ -2147483648 ≤ x ∧ x ≤ 2147483647)
theorem sj_X3_nearestOn_258_J88 {fu : Nat} (hfu : 8589934592 ≤ fu) (r0 s : z_M) (c : z_CI s) (f : z_Fr R_X3_nearestOn_258 r0 s) (a1 : Int) (a2 : Int) (a3 : Int) (a4 : Int) (a5 : Int) (b1 : -2147483648 ≤ a1 ∧ a1 ≤ 2147483647) (b2 : -2147483648 ≤ a2 ∧ a2 ≤ 2147483647) (b3 : -2147483648 ≤ a3 ∧ a3 ≤ 2147483647) (b4 : -2147483648 ≤ a4 ∧ a4 ≤ 2147483647) (b5 : -2147483648 ≤ a5 ∧ a5 ≤ 2147483646) (M : Int) (pm : 2147483647 - a5 ≤ M) {r : z_M → Int → Int → Int → z_O} {k : z_M → Int → z_O} (hr : ∀ (s' : z_M) (v3 : Int) (v4 : Int) (v5 : Int), z_CI s' → z_Fr R_X3_nearestOn_258 r0 s' → (-2147483648 ≤ v3 ∧ v3 ≤ 2147483647) → (-2147483648 ≤ v4 ∧ v4 ≤ 2147483647) → (-2147483648 ≤ v5 ∧ v5 ≤ 2147483647) → (2147483647 - v5 < M) → z_T (r s' v3 v4 v5) (P_X3_nearestOn_258 r0)) (hk : ∀ (s' : z_M) (v3 : Int), z_CI s' → z_Fr R_X3_nearestOn_258 r0 s' → (-2147483648 ≤ v3 ∧ v3 ≤ 2147483647) → z_T (k s' v3) (P_X3_nearestOn_258 r0)) : z_T (fX3_nearestOn_J88 fu s 258 a1 a2 a3 a4 a5 r k) (P_X3_nearestOn_258 r0) := by
  refine T_of (fX3_nearestOn_J88.eq_1 ..) ?_
  refine T_leq (fun x1 e2 => ?_)
  have w3 := z_wb e2
  exact hr s a3 a4 x1 c f (by omega) (by omega) (by omega) (by omega)
theorem sj_X3_nearestOn_258_J72 {fu : Nat} (hfu : 8589934592 ≤ fu) (r0 s : z_M) (c : z_CI s) (f : z_Fr R_X3_nearestOn_258 r0 s) (a1 : Int) (a2 : Int) (a3 : Int) (a5 : Int) (a6 : Int) (b1 : -2147483648 ≤ a1 ∧ a1 ≤ 2147483647) (b2 : -2147483648 ≤ a2 ∧ a2 ≤ 2147483647) (b3 : -2147483648 ≤ a3 ∧ a3 ≤ 2147483647) (b5 : -2147483648 ≤ a5 ∧ a5 ≤ 2147483646) (b6 : -2147483648 ≤ a6 ∧ a6 ≤ 2147483647) (M : Int) (pm : 2147483647 - a5 ≤ M) {r : z_M → Int → Int → Int → z_O} {k : z_M → Int → z_O} (hr : ∀ (s' : z_M) (v3 : Int) (v4 : Int) (v5 : Int), z_CI s' → z_Fr R_X3_nearestOn_258 r0 s' → (-2147483648 ≤ v3 ∧ v3 ≤ 2147483647) → (-2147483648 ≤ v4 ∧ v4 ≤ 2147483647) → (-2147483648 ≤ v5 ∧ v5 ≤ 2147483647) → (2147483647 - v5 < M) → z_T (r s' v3 v4 v5) (P_X3_nearestOn_258 r0)) (hk : ∀ (s' : z_M) (v3 : Int), z_CI s' → z_Fr R_X3_nearestOn_258 r0 s' → (-2147483648 ≤ v3 ∧ v3 ≤ 2147483647) → z_T (k s' v3) (P_X3_nearestOn_258 r0)) : z_T (fX3_nearestOn_J72 fu s 258 a1 a2 a3 a5 a6 r k) (P_X3_nearestOn_258 r0) := by
  refine T_of (fX3_nearestOn_J72.eq_1 ..) ?_
  refine T_leq (fun x1 e2 => ?_)
  have w3 := z_wr e2
  refine T_if1 (by decide +kernel) ?_
  refine T_useI (sf_X3_letterPlace_258 hfu s c a5 a2 x1 (by omega) (by omega) (by omega)) (fun v9 s4 hq => ?_)
  obtain ⟨c5, f6, ⟨x8, rfl, b10, b11⟩⟩ := hq
  refine T_vI ?_
  have f7 := z_Fr.tr (R := R_X3_nearestOn_258) f f6 (fun a h => absurd h not_false)
  refine T_leq (fun x12 e13 => ?_)
  have w14 := z_wr e13
  exact sj_X3_nearestOn_258_J88 hfu r0 s4 c5 f7 a1 a2 a3 x12 a5 (by omega) (by omega) (by omega) (by omega) (by omega) M (by omega) (fun s' v3 v4 v5 c' f' w3 w4 w5 pg => hr s' v3 v4 v5 c' f' w3 w4 w5 (by omega)) hk
theorem sl_X3_nearestOn_258_L17 {fu : Nat} (hfu : 8589934592 ≤ fu) (r0 : z_M) (a1 : Int) (a2 : Int) (b1 : -2147483648 ≤ a1 ∧ a1 ≤ 2147483647) (b2 : -2147483648 ≤ a2 ∧ a2 ≤ 2147483647) {k : z_M → Int → z_O} (hk : ∀ (s' : z_M) (v3 : Int), z_CI s' → z_Fr R_X3_nearestOn_258 r0 s' → (-2147483648 ≤ v3 ∧ v3 ≤ 2147483647) → z_T (k s' v3) (P_X3_nearestOn_258 r0)) : ∀ (F : Nat) (s : z_M) (a3 : Int) (a4 : Int) (a5 : Int), z_CI s → z_Fr R_X3_nearestOn_258 r0 s → (-2147483648 ≤ a3 ∧ a3 ≤ 2147483647) → (-2147483648 ≤ a4 ∧ a4 ≤ 2147483647) → (-2147483648 ≤ a5 ∧ a5 ≤ 2147483647) → (2147483647 - a5 < (F : Int)) → z_T (fX3_nearestOn_L17 fu 258 a1 a2 F s a3 a4 a5 k) (P_X3_nearestOn_258 r0) := by
  intro F
  induction F with
  | zero =>
    intro s a3 a4 a5 c f b3 b4 b5 hm
    exfalso; omega
  | succ F ih =>
    intro s a3 a4 a5 c f b3 b4 b5 hm
    refine T_of (fX3_nearestOn_L17.eq_2 ..) ?_
    refine T_if1 (by decide +kernel) ?_
    refine T_let 277 (by decide +kernel) ?_
    refine T_leq (fun x1 e2 => ?_)
    have w3 := z_wr e2
    refine T_if1 (by decide +kernel) ?_
    refine T_get (by decide +kernel) (c := 278) (by decide +kernel) bdr_278 (by decide) c (fun x4 e5 b6 w7 => ?_)
    have l8 : z_ln 277 = 201 := by decide +kernel
    refine T_ite (fun h9 => ?_) (fun h9 => ?_)
    · exact hk s a3 c f (by omega)
    · refine T_if1 (by decide +kernel) ?_
      refine T_let 279 (by decide +kernel) ?_
      refine T_if1 (by decide +kernel) ?_
      refine T_useI (sf_X0_letters_279 hfu s c a5 a2 (by omega) (by omega)) (fun v15 s10 hq => ?_)
      obtain ⟨c11, f12, ⟨x14, rfl, b16, b17⟩⟩ := hq
      refine T_vI ?_
      have f13 := z_Fr.tr (R := R_X3_nearestOn_258) f f12 (fun a h => absurd h not_false)
      refine T_ite (fun h18 => ?_) (fun h18 => ?_)
      · exact sj_X3_nearestOn_258_J88 hfu r0 s10 c11 f13 a1 a2 a3 a4 a5 (by omega) (by omega) (by omega) (by omega) (by omega) (2147483647 - a5) (by omega) (fun s' v3 v4 v5 c' f' w3 w4 w5 pg => ih s' v3 v4 v5 c' f' w3 w4 w5 (by omega)) hk
      · refine T_ite (fun h19 => ?_) (fun h19 => ?_)
        · exact sj_X3_nearestOn_258_J72 hfu r0 s10 c11 f13 a1 a2 a3 a5 x14 (by omega) (by omega) (by omega) (by omega) (by omega) (2147483647 - a5) (by omega) (fun s' v3 v4 v5 c' f' w3 w4 w5 pg => ih s' v3 v4 v5 c' f' w3 w4 w5 (by omega)) hk
        · refine T_if1 (by decide +kernel) ?_
          refine T_useI (sf_X3_letterPlace_258 hfu s10 c11 a5 a2 0 (by omega) (by omega) (by omega)) (fun v25 s20 hq => ?_)
          obtain ⟨c21, f22, ⟨x24, rfl, b26, b27⟩⟩ := hq
          refine T_vI ?_
          have f23 := z_Fr.tr (R := R_X3_nearestOn_258) f13 f22 (fun a h => absurd h not_false)
          refine T_leq (fun x28 e29 => ?_)
          have w30 := z_wr e29
          refine T_leq (fun x31 e32 => ?_)
          have w33 := z_minb a3 x28
          rw [e32] at w33
          exact sj_X3_nearestOn_258_J72 hfu r0 s20 c21 f23 a1 a2 x31 a5 x14 (by omega) (by omega) (by omega) (by omega) (by omega) (2147483647 - a5) (by omega) (fun s' v3 v4 v5 c' f' w3 w4 w5 pg => ih s' v3 v4 v5 c' f' w3 w4 w5 (by omega)) hk
theorem sf_X3_nearestOn_258 {fu : Nat} (hfu : 8589934592 ≤ fu) (r0 : z_M) (c0 : z_CI r0) (a1 : Int) (a2 : Int) (b1 : -2147483648 ≤ a1 ∧ a1 ≤ 2147483647) (b2 : -2147483648 ≤ a2 ∧ a2 ≤ 2147483647) : z_T (fX3_nearestOn fu r0 258 a1 a2) (P_X3_nearestOn_258 r0) := by
  refine T_of (fX3_nearestOn.eq_1 ..) ?_
  refine T_if1 (by decide +kernel) ?_
  refine T_let 277 (by decide +kernel) ?_
  refine T_if1 (by decide +kernel) ?_
  refine T_get (by decide +kernel) (c := 278) (by decide +kernel) bdr_278 (by decide) c0 (fun x1 e2 b3 w4 => ?_)
  have l5 : z_ln 277 = 201 := by decide +kernel
  refine sl_X3_nearestOn_258_L17 hfu r0 a1 a2 (by omega) (by omega) (fun s6 y9 c7 f8 b10 => ?_) fu r0 2147483647 2147483647 x1 c0 z_Fr.rf (by omega) (by omega) (by omega) (by omega)
  exact T_ret ⟨c7, f8, ⟨y9, rfl, by omega, by omega⟩⟩
abbrev R_X11_nearest_1 (a : Int) : Prop := (1 ≤ a ∧ a ≤ 1) ∨ (191 ≤ a ∧ a ≤ 244) ∨ (248 ≤ a ∧ a ≤ 248) ∨ (260 ≤ a ∧ a ≤ 295)
abbrev P_X11_nearest_1 (r0 : z_M) : z_V → z_M → Prop := fun v s' => z_CI s' ∧ z_Fr R_X11_nearest_1 r0 s' ∧ ((∃ x, v = vI x ∧ -2147483648 ≤ x ∧ x ≤ 2147483647) ∨ v = vX 0 ∨ v = vX 1)
theorem sj_X11_nearest_1_J69 {fu : Nat} (hfu : 8589934592 ≤ fu) (r0 s : z_M) (c : z_CI s) (f : z_Fr R_X11_nearest_1 r0 s) (a1 : Int) (a2 : Int) (a3 : Int) (a4 : Int) (b1 : -2147483648 ≤ a1 ∧ a1 ≤ 2147483647) (b2 : -2147483648 ≤ a2 ∧ a2 ≤ 2147483647) (b3 : -2147483648 ≤ a3 ∧ a3 ≤ 2147483647) (b4 : -2147483648 ≤ a4 ∧ a4 ≤ 2147483646) (M : Int) (pm : 2147483647 - a4 ≤ M) {r : z_M → Int → Int → Int → z_O} {k : z_M → Int → Int → z_O} (hr : ∀ (s' : z_M) (v2 : Int) (v3 : Int) (v4 : Int), z_CI s' → z_Fr R_X11_nearest_1 r0 s' → (-2147483648 ≤ v2 ∧ v2 ≤ 2147483647) → (-2147483648 ≤ v3 ∧ v3 ≤ 2147483647) → (-2147483648 ≤ v4 ∧ v4 ≤ 2147483647) → (2147483647 - v4 < M) → z_T (r s' v2 v3 v4) (P_X11_nearest_1 r0)) (hk : ∀ (s' : z_M) (v2 : Int) (v3 : Int), z_CI s' → z_Fr R_X11_nearest_1 r0 s' → (-2147483648 ≤ v2 ∧ v2 ≤ 2147483647) → (-2147483648 ≤ v3 ∧ v3 ≤ 2147483647) → z_T (k s' v2 v3) (P_X11_nearest_1 r0)) : z_T (fX11_nearest_J69 fu s 1 a1 a2 a3 a4 r k) (P_X11_nearest_1 r0) := by
  refine T_of (fX11_nearest_J69.eq_1 ..) ?_
  have u1 := CI_b c (k := 240) (j := 6) bd_240_6
  refine T_leq (fun x2 e3 => ?_)
  have w4 := z_wb e3
  exact hr s a2 a3 x2 c f (by omega) (by omega) (by omega) (by omega)
theorem sl_X11_nearest_1_L20 {fu : Nat} (hfu : 8589934592 ≤ fu) (r0 : z_M) (a1 : Int) (b1 : -2147483648 ≤ a1 ∧ a1 ≤ 2147483647) {k : z_M → Int → Int → z_O} (hk : ∀ (s' : z_M) (v2 : Int) (v3 : Int), z_CI s' → z_Fr R_X11_nearest_1 r0 s' → (-2147483648 ≤ v2 ∧ v2 ≤ 2147483647) → (-2147483648 ≤ v3 ∧ v3 ≤ 2147483647) → z_T (k s' v2 v3) (P_X11_nearest_1 r0)) : ∀ (F : Nat) (s : z_M) (a2 : Int) (a3 : Int) (a4 : Int), z_CI s → z_Fr R_X11_nearest_1 r0 s → (-2147483648 ≤ a2 ∧ a2 ≤ 2147483647) → (-2147483648 ≤ a3 ∧ a3 ≤ 2147483647) → (-2147483648 ≤ a4 ∧ a4 ≤ 2147483647) → (2147483647 - a4 < (F : Int)) → z_T (fX11_nearest_L20 fu 1 a1 F s a2 a3 a4 k) (P_X11_nearest_1 r0) := by
  intro F
  induction F with
  | zero =>
    intro s a2 a3 a4 c f b2 b3 b4 hm
    have u28 := CI_b c (k := 240) (j := 6) bd_240_6
    exfalso; omega
  | succ F ih =>
    intro s a2 a3 a4 c f b2 b3 b4 hm
    refine T_of (fX11_nearest_L20.eq_2 ..) ?_
    have u1 := CI_b c (k := 240) (j := 6) bd_240_6
    refine T_if1 (by decide +kernel) ?_
    refine T_let 240 (by decide +kernel) ?_
    refine T_if1 (by decide +kernel) ?_
    refine T_leq (fun x2 e3 => ?_)
    have u4 := CI_b c (k := 240) (j := 6) bd_240_6
    refine T_ite (fun h5 => ?_) (fun h5 => ?_)
    · exact hk s a2 a3 c f (by omega) (by omega)
    · refine T_if1 (by decide +kernel) ?_
      refine T_let 258 (by decide +kernel) ?_
      refine T_if1 (by decide +kernel) ?_
      refine T_useI (sf_X3_nearestOn_258 hfu s c a4 0 (by omega) (by omega)) (fun v11 s6 hq => ?_)
      obtain ⟨c7, f8, ⟨x10, rfl, b12, b13⟩⟩ := hq
      refine T_vI ?_
      have f9 := z_Fr.tr (R := R_X11_nearest_1) f f8 (fun a h => absurd h not_false)
      have t14 : s6 240 6 = s 240 6 := f8 240 6 (by decide)
      refine T_if1 (by decide +kernel) ?_
      refine T_let 258 (by decide +kernel) ?_
      refine T_if1 (by decide +kernel) ?_
      refine T_useI (sf_X3_nearestOn_258 hfu s6 c7 a4 1 (by omega) (by omega)) (fun v20 s15 hq => ?_)
      obtain ⟨c16, f17, ⟨x19, rfl, b21, b22⟩⟩ := hq
      refine T_vI ?_
      have f18 := z_Fr.tr (R := R_X11_nearest_1) f9 f17 (fun a h => absurd h not_false)
      have t23 : s15 240 6 = s6 240 6 := f17 240 6 (by decide)
      refine T_leq (fun x24 e25 => ?_)
      have w26 := z_minb x10 x19
      rw [e25] at w26
      refine T_ite (fun h27 => ?_) (fun h27 => ?_)
      · exact sj_X11_nearest_1_J69 hfu r0 s15 c16 f18 a1 a2 a3 a4 (by omega) (by omega) (by omega) (by omega) (2147483647 - a4) (by omega) (fun s' v2 v3 v4 c' f' w2 w3 w4 pg => ih s' v2 v3 v4 c' f' w2 w3 w4 (by omega)) hk
      · exact sj_X11_nearest_1_J69 hfu r0 s15 c16 f18 a1 x24 a4 a4 (by omega) (by omega) (by omega) (by omega) (2147483647 - a4) (by omega) (fun s' v2 v3 v4 c' f' w2 w3 w4 pg => ih s' v2 v3 v4 c' f' w2 w3 w4 (by omega)) hk
theorem sj_X11_nearest_1_J94 {fu : Nat} (hfu : 8589934592 ≤ fu) (r0 s : z_M) (c : z_CI s) (f : z_Fr R_X11_nearest_1 r0 s) (t0 : Int) (d0 : -2147483648 ≤ t0 ∧ t0 ≤ 2147483647) : z_T (fX11_nearest_J94 fu s t0) (P_X11_nearest_1 r0) := by
  refine T_of (fX11_nearest_J94.eq_1 ..) ?_
  have u1 := CI_b c (k := 240) (j := 6) bd_240_6
  exact T_ret ⟨c, f, Or.inl (⟨t0, rfl, by omega, by omega⟩)⟩
theorem sf_X11_nearest_1 {fu : Nat} (hfu : 8589934592 ≤ fu) (r0 : z_M) (c0 : z_CI r0) (a1 : Int) (b1 : -2147483648 ≤ a1 ∧ a1 ≤ 2147483647) : z_T (fX11_nearest fu r0 1 a1) (P_X11_nearest_1 r0) := by
  refine T_of (fX11_nearest.eq_1 ..) ?_
  refine T_if1 (by decide +kernel) ?_
  refine T_nw ?_ (fun h1 h2 => ?_)
  · exact T_ret ⟨CI_up c0 bd_1_15 (z_wb rfl).1, z_Fr.up (R := R_X11_nearest_1) z_Fr.rf (fun a b h => z_up_k h) (by decide), Or.inr (Or.inr rfl)⟩
  refine T_if1 (by decide +kernel) ?_
  refine T_useN (sf_X11_refresh_1 hfu r0 c0) (fun v8 s3 hq => ?_)
  obtain ⟨c4, f5, rfl⟩ := hq
  refine T_vN ?_
  have f6 := z_Fr.tr (R := R_X11_nearest_1) z_Fr.rf f5 (fun a h => by unfold R_X11_refresh_1 at h; unfold R_X11_nearest_1; omega)
  have u11 := CI_b c4 (k := 240) (j := 6) bd_240_6
  refine sl_X11_nearest_1_L20 hfu r0 a1 (by omega) (fun s12 y15 y16 c13 f14 b17 b18 => ?_) fu s3 2147483647 (-1) 0 c4 f6 (by omega) (by omega) (by omega) (by omega)
  have u19 := CI_b c13 (k := 240) (j := 6) bd_240_6
  refine T_ite (fun h20 => ?_) (fun h20 => ?_)
  · refine T_ite (fun h21 => ?_) (fun h21 => ?_)
    · exact sj_X11_nearest_1_J94 hfu r0 s12 c13 f14 y15 (by omega)
    · exact sj_X11_nearest_1_J94 hfu r0 s12 c13 f14 999 (by omega)
  · exact T_ret ⟨c13, f14, Or.inl (⟨y16, rfl, by omega, by omega⟩)⟩
abbrev R_X11_partner_1 (a : Int) : Prop := (1 ≤ a ∧ a ≤ 1) ∨ (191 ≤ a ∧ a ≤ 244) ∨ (248 ≤ a ∧ a ≤ 248) ∨ (260 ≤ a ∧ a ≤ 295)
abbrev P_X11_partner_1 (r0 : z_M) : z_V → z_M → Prop := fun v s' => z_CI s' ∧ z_Fr R_X11_partner_1 r0 s' ∧ ((∃ x, v = vI x ∧ -2147483648 ≤ x ∧ x ≤ 2147483647) ∨ v = vX 0 ∨ v = vX 1)
theorem sf_X11_partner_1 {fu : Nat} (hfu : 8589934592 ≤ fu) (r0 : z_M) (c0 : z_CI r0) (a1 : Int) (b1 : -2147483648 ≤ a1 ∧ a1 ≤ 2147483647) : z_T (fX11_partner fu r0 1 a1) (P_X11_partner_1 r0) := by
  refine T_of (fX11_partner.eq_1 ..) ?_
  refine T_if1 (by decide +kernel) ?_
  refine T_useN (sf_X11_refresh_1 hfu r0 c0) (fun v6 s1 hq => ?_)
  obtain ⟨c2, f3, rfl⟩ := hq
  refine T_vN ?_
  have f4 := z_Fr.tr (R := R_X11_partner_1) z_Fr.rf f3 (fun a h => by unfold R_X11_refresh_1 at h; unfold R_X11_partner_1; omega)
  have u9 := CI_b c2 (k := 191) (j := 16) bd_191_16
  refine T_if1 (by decide +kernel) ?_
  refine T_let 191 (by decide +kernel) ?_
  refine T_if1 (by decide +kernel) ?_
  refine T_leq (fun x10 e11 => ?_)
  have u12 := CI_b c2 (k := 191) (j := 16) bd_191_16
  refine T_if1 (by decide +kernel) ?_
  refine T_ne ?_ (fun h13 h14 => ?_)
  · exact T_ret ⟨CI_up c2 bd_1_14 (z_wb rfl).1, z_Fr.up (R := R_X11_partner_1) f4 (fun a b h => z_up_k h) (by decide), Or.inr (Or.inl rfl)⟩
  refine T_if1 (by decide +kernel) ?_
  refine T_let 191 (by decide +kernel) ?_
  refine T_if1 (by decide +kernel) ?_
  refine T_let 206 (by decide +kernel) ?_
  refine T_if1 (by decide +kernel) ?_
  refine T_get (by decide +kernel) (c := 207) (by decide +kernel) bdr_207 (by decide) c2 (fun x15 e16 b17 w18 => ?_)
  have l19 : z_ln 206 = 200 := by decide +kernel
  exact T_ret ⟨c2, f4, Or.inl (⟨x15, rfl, by omega, by omega⟩)⟩
abbrev R_X11_side_1 (a : Int) : Prop := (1 ≤ a ∧ a ≤ 1) ∨ (191 ≤ a ∧ a ≤ 244) ∨ (248 ≤ a ∧ a ≤ 248) ∨ (260 ≤ a ∧ a ≤ 295)
abbrev P_X11_side_1 (r0 : z_M) : z_V → z_M → Prop := fun v s' => z_CI s' ∧ z_Fr R_X11_side_1 r0 s' ∧ ((∃ x, v = vI x ∧ -2147483648 ≤ x ∧ x ≤ 2147483647) ∨ v = vX 0 ∨ v = vX 1)
theorem sj_X11_side_1_J55 {fu : Nat} (hfu : 8589934592 ≤ fu) (r0 s : z_M) (c : z_CI s) (f : z_Fr R_X11_side_1 r0 s) (t0 : Int) (d0 : -2147483648 ≤ t0 ∧ t0 ≤ 2147483647) : z_T (fX11_side_J55 fu s t0) (P_X11_side_1 r0) := by
  refine T_of (fX11_side_J55.eq_1 ..) ?_
  have u1 := CI_b c (k := 240) (j := 6) bd_240_6
  exact T_ret ⟨c, f, Or.inl (⟨t0, rfl, by omega, by omega⟩)⟩
theorem sf_X11_side_1 {fu : Nat} (hfu : 8589934592 ≤ fu) (r0 : z_M) (c0 : z_CI r0) (a1 : Int) (a2 : Int) (a3 : Int) (b1 : -2147483648 ≤ a1 ∧ a1 ≤ 2147483647) (b2 : -2147483648 ≤ a2 ∧ a2 ≤ 2147483647) (b3 : -2147483648 ≤ a3 ∧ a3 ≤ 2147483647) : z_T (fX11_side fu r0 1 a1 a2 a3) (P_X11_side_1 r0) := by
  refine T_of (fX11_side.eq_1 ..) ?_
  refine T_if1 (by decide +kernel) ?_
  refine T_useN (sf_X11_refresh_1 hfu r0 c0) (fun v6 s1 hq => ?_)
  obtain ⟨c2, f3, rfl⟩ := hq
  refine T_vN ?_
  have f4 := z_Fr.tr (R := R_X11_side_1) z_Fr.rf f3 (fun a h => by unfold R_X11_refresh_1 at h; unfold R_X11_side_1; omega)
  have u9 := CI_b c2 (k := 240) (j := 6) bd_240_6
  refine T_if1 (by decide +kernel) ?_
  refine T_let 240 (by decide +kernel) ?_
  refine T_if1 (by decide +kernel) ?_
  refine T_leq (fun x10 e11 => ?_)
  have u12 := CI_b c2 (k := 240) (j := 6) bd_240_6
  refine T_if1 (by decide +kernel) ?_
  refine T_ne ?_ (fun h13 h14 => ?_)
  · exact T_ret ⟨CI_up c2 bd_1_14 (z_wb rfl).1, z_Fr.up (R := R_X11_side_1) f4 (fun a b h => z_up_k h) (by decide), Or.inr (Or.inl rfl)⟩
  refine T_if1 (by decide +kernel) ?_
  refine T_nw ?_ (fun h15 h16 => ?_)
  · exact T_ret ⟨CI_up c2 bd_1_15 (z_wb rfl).1, z_Fr.up (R := R_X11_side_1) f4 (fun a b h => z_up_k h) (by decide), Or.inr (Or.inr rfl)⟩
  refine T_if1 (by decide +kernel) ?_
  refine T_nw ?_ (fun h17 h18 => ?_)
  · exact T_ret ⟨CI_up c2 bd_1_15 (z_wb rfl).1, z_Fr.up (R := R_X11_side_1) f4 (fun a b h => z_up_k h) (by decide), Or.inr (Or.inr rfl)⟩
  refine T_ite (fun h19 => ?_) (fun h19 => ?_)
  · refine T_if1 (by decide +kernel) ?_
    refine T_let 258 (by decide +kernel) ?_
    refine T_if1 (by decide +kernel) ?_
    refine T_useI (sf_X3_marksBeside_258 hfu s1 c2 a1 a2 (by omega) (by omega)) (fun v25 s20 hq => ?_)
    obtain ⟨c21, f22, ⟨x24, rfl, b26, b27⟩⟩ := hq
    refine T_vI ?_
    have f23 := z_Fr.tr (R := R_X11_side_1) f4 f22 (fun a h => absurd h not_false)
    have t28 : s20 240 6 = s1 240 6 := f22 240 6 (by decide)
    exact sj_X11_side_1_J55 hfu r0 s20 c21 f23 x24 (by omega)
  · refine T_if1 (by decide +kernel) ?_
    refine T_let 258 (by decide +kernel) ?_
    refine T_if1 (by decide +kernel) ?_
    refine T_useI (sf_X3_lettersBeside_258 hfu s1 c2 a1 a2 (by omega) (by omega)) (fun v34 s29 hq => ?_)
    obtain ⟨c30, f31, ⟨x33, rfl, b35, b36⟩⟩ := hq
    refine T_vI ?_
    have f32 := z_Fr.tr (R := R_X11_side_1) f4 f31 (fun a h => absurd h not_false)
    have t37 : s29 240 6 = s1 240 6 := f31 240 6 (by decide)
    exact sj_X11_side_1_J55 hfu r0 s29 c30 f32 x33 (by omega)
abbrev R_X11_refreshSides_1 (a : Int) : Prop := (1 ≤ a ∧ a ≤ 1) ∨ (296 ≤ a ∧ a ≤ 308)
abbrev P_X11_refreshSides_1 (r0 : z_M) : z_V → z_M → Prop := fun v s' => z_CI s' ∧ z_Fr R_X11_refreshSides_1 r0 s' ∧ (v = vN)
theorem sj_X11_refreshSides_1_J19 {fu : Nat} (hfu : 8589934592 ≤ fu) (r0 s : z_M) (c : z_CI s) (f : z_Fr R_X11_refreshSides_1 r0 s) : z_T (fX11_refreshSides_J19 fu s) (P_X11_refreshSides_1 r0) := by
  refine T_of (fX11_refreshSides_J19.eq_1 ..) ?_
  have u1 := CI_b c (k := 1) (j := 18) bd_1_18
  exact T_ret ⟨c, f, rfl⟩
theorem sf_X11_refreshSides_1 {fu : Nat} (hfu : 8589934592 ≤ fu) (r0 : z_M) (c0 : z_CI r0) : z_T (fX11_refreshSides fu r0 1) (P_X11_refreshSides_1 r0) := by
  refine T_of (fX11_refreshSides.eq_1 ..) ?_
  refine T_if1 (by decide +kernel) ?_
  refine T_leq (fun x1 e2 => ?_)
  have u3 := CI_b c0 (k := 1) (j := 18) bd_1_18
  refine T_ite (fun h4 => ?_) (fun h4 => ?_)
  · exact sj_X11_refreshSides_1_J19 hfu r0 r0 c0 z_Fr.rf
  · refine T_if1 (by decide +kernel) ?_
    refine T_let 296 (by decide +kernel) ?_
    refine T_if1 (by decide +kernel) ?_
    refine T_useN (sf_X8_build_296 hfu r0 c0) (fun v10 s5 hq => ?_)
    obtain ⟨c6, f7, rfl⟩ := hq
    refine T_vN ?_
    have f8 := z_Fr.tr (R := R_X11_refreshSides_1) z_Fr.rf f7 (fun a h => by unfold R_X8_build_296 at h; unfold R_X11_refreshSides_1; omega)
    have t13 : s5 1 18 = r0 1 18 := f7 1 18 (by decide)
    refine T_if1 ⟨(by decide +kernel), by unfold z_bl; omega⟩ ?_
    refine T_upg c6 bd_1_18 (by omega) (fun s14 c15 g17 g18 e19 => ?_)
    have f16 := z_Fr.up (R := R_X11_refreshSides_1) f8 g17 (by decide)
    exact sj_X11_refreshSides_1_J19 hfu r0 s14 c15 f16
abbrev R_X11_gutter_1 (a : Int) : Prop := (1 ≤ a ∧ a ≤ 1) ∨ (191 ≤ a ∧ a ≤ 244) ∨ (248 ≤ a ∧ a ≤ 248) ∨ (260 ≤ a ∧ a ≤ 308)
abbrev P_X11_gutter_1 (r0 : z_M) : z_V → z_M → Prop := fun v s' => z_CI s' ∧ z_Fr R_X11_gutter_1 r0 s' ∧ ((∃ x, v = vI x ∧ -2147483648 ≤ x ∧ x ≤ 2147483647) ∨ v = vX 0 ∨ v = vX 1)
theorem sj_X11_gutter_1_J48 {fu : Nat} (hfu : 8589934592 ≤ fu) (r0 s : z_M) (c : z_CI s) (f : z_Fr R_X11_gutter_1 r0 s) (t0 : Int) (d0 : -2147483648 ≤ t0 ∧ t0 ≤ 2147483647) : z_T (fX11_gutter_J48 fu s t0) (P_X11_gutter_1 r0) := by
  refine T_of (fX11_gutter_J48.eq_1 ..) ?_
  have u1 := CI_b c (k := 240) (j := 6) bd_240_6
  exact T_ret ⟨c, f, Or.inl (⟨t0, rfl, by omega, by omega⟩)⟩
theorem sf_X11_gutter_1 {fu : Nat} (hfu : 8589934592 ≤ fu) (r0 : z_M) (c0 : z_CI r0) (a1 : Int) (b1 : -2147483648 ≤ a1 ∧ a1 ≤ 2147483647) : z_T (fX11_gutter fu r0 1 a1) (P_X11_gutter_1 r0) := by
  refine T_of (fX11_gutter.eq_1 ..) ?_
  refine T_if1 (by decide +kernel) ?_
  refine T_useN (sf_X11_refresh_1 hfu r0 c0) (fun v6 s1 hq => ?_)
  obtain ⟨c2, f3, rfl⟩ := hq
  refine T_vN ?_
  have f4 := z_Fr.tr (R := R_X11_gutter_1) z_Fr.rf f3 (fun a h => by unfold R_X11_refresh_1 at h; unfold R_X11_gutter_1; omega)
  have u9 := CI_b c2 (k := 240) (j := 6) bd_240_6
  refine T_if1 (by decide +kernel) ?_
  refine T_let 240 (by decide +kernel) ?_
  refine T_if1 (by decide +kernel) ?_
  refine T_leq (fun x10 e11 => ?_)
  have u12 := CI_b c2 (k := 240) (j := 6) bd_240_6
  refine T_if1 (by decide +kernel) ?_
  refine T_ne ?_ (fun h13 h14 => ?_)
  · exact T_ret ⟨CI_up c2 bd_1_14 (z_wb rfl).1, z_Fr.up (R := R_X11_gutter_1) f4 (fun a b h => z_up_k h) (by decide), Or.inr (Or.inl rfl)⟩
  refine T_if1 (by decide +kernel) ?_
  refine T_useN (sf_X11_refreshSides_1 hfu s1 c2) (fun v20 s15 hq => ?_)
  obtain ⟨c16, f17, rfl⟩ := hq
  refine T_vN ?_
  have f18 := z_Fr.tr (R := R_X11_gutter_1) f4 f17 (fun a h => by unfold R_X11_refreshSides_1 at h; unfold R_X11_gutter_1; omega)
  have t23 : s15 240 6 = s1 240 6 := f17 240 6 (by decide)
  refine T_if1 (by decide +kernel) ?_
  refine T_let 240 (by decide +kernel) ?_
  refine T_if1 (by decide +kernel) ?_
  refine T_leq (fun x24 e25 => ?_)
  have u26 := CI_b c16 (k := 240) (j := 6) bd_240_6
  refine T_leq (fun x27 e28 => ?_)
  have w29 := z_wr e28
  refine T_ite (fun h30 => ?_) (fun h30 => ?_)
  · refine T_if1 (by decide +kernel) ?_
    refine T_let 296 (by decide +kernel) ?_
    refine T_if1 (by decide +kernel) ?_
    refine T_let 301 (by decide +kernel) ?_
    refine T_if1 (by decide +kernel) ?_
    refine T_get (by decide +kernel) (c := 302) (by decide +kernel) bdr_302 (by decide) c16 (fun x31 e32 b33 w34 => ?_)
    have l35 : z_ln 301 = 200 := by decide +kernel
    exact sj_X11_gutter_1_J48 hfu r0 s15 c16 f18 x31 (by omega)
  · exact sj_X11_gutter_1_J48 hfu r0 s15 c16 f18 (-1) (by omega)
abbrev R_X11_clash_1 (a : Int) : Prop := (1 ≤ a ∧ a ≤ 1) ∨ (191 ≤ a ∧ a ≤ 244) ∨ (248 ≤ a ∧ a ≤ 248) ∨ (260 ≤ a ∧ a ≤ 308)
abbrev P_X11_clash_1 (r0 : z_M) : z_V → z_M → Prop := fun v s' => z_CI s' ∧ z_Fr R_X11_clash_1 r0 s' ∧ ((∃ x, v = vI x ∧ -2147483648 ≤ x ∧ x ≤ 2147483647) ∨ v = vX 0 ∨ v = vX 1)
theorem sf_X11_clash_1 {fu : Nat} (hfu : 8589934592 ≤ fu) (r0 : z_M) (c0 : z_CI r0) (a1 : Int) (b1 : -2147483648 ≤ a1 ∧ a1 ≤ 2147483647) : z_T (fX11_clash fu r0 1 a1) (P_X11_clash_1 r0) := by
  refine T_of (fX11_clash.eq_1 ..) ?_
  refine T_if1 (by decide +kernel) ?_
  refine T_useN (sf_X11_refresh_1 hfu r0 c0) (fun v6 s1 hq => ?_)
  obtain ⟨c2, f3, rfl⟩ := hq
  refine T_vN ?_
  have f4 := z_Fr.tr (R := R_X11_clash_1) z_Fr.rf f3 (fun a h => by unfold R_X11_refresh_1 at h; unfold R_X11_clash_1; omega)
  have u9 := CI_b c2 (k := 240) (j := 6) bd_240_6
  refine T_if1 (by decide +kernel) ?_
  refine T_let 240 (by decide +kernel) ?_
  refine T_if1 (by decide +kernel) ?_
  refine T_leq (fun x10 e11 => ?_)
  have u12 := CI_b c2 (k := 240) (j := 6) bd_240_6
  refine T_if1 (by decide +kernel) ?_
  refine T_ne ?_ (fun h13 h14 => ?_)
  · exact T_ret ⟨CI_up c2 bd_1_14 (z_wb rfl).1, z_Fr.up (R := R_X11_clash_1) f4 (fun a b h => z_up_k h) (by decide), Or.inr (Or.inl rfl)⟩
  refine T_if1 (by decide +kernel) ?_
  refine T_useN (sf_X11_refreshSides_1 hfu s1 c2) (fun v20 s15 hq => ?_)
  obtain ⟨c16, f17, rfl⟩ := hq
  refine T_vN ?_
  have f18 := z_Fr.tr (R := R_X11_clash_1) f4 f17 (fun a h => by unfold R_X11_refreshSides_1 at h; unfold R_X11_clash_1; omega)
  have t23 : s15 240 6 = s1 240 6 := f17 240 6 (by decide)
  refine T_if1 (by decide +kernel) ?_
  refine T_let 296 (by decide +kernel) ?_
  refine T_if1 (by decide +kernel) ?_
  refine T_let 299 (by decide +kernel) ?_
  refine T_if1 (by decide +kernel) ?_
  refine T_get (by decide +kernel) (c := 300) (by decide +kernel) bdr_300 (by decide) c16 (fun x24 e25 b26 w27 => ?_)
  have l28 : z_ln 299 = 200 := by decide +kernel
  exact T_ret ⟨c16, f18, Or.inl (⟨x24, rfl, by omega, by omega⟩)⟩
abbrev R_X8_thickOf_296 (a : Int) : Prop := False
abbrev P_X8_thickOf_296 (r0 : z_M) : z_V → z_M → Prop := fun v s' => z_CI s' ∧ z_Fr R_X8_thickOf_296 r0 s' ∧ (∃ x, v = vI x ∧ -2147483648 ≤ x ∧ x ≤ 2147483647)
theorem sf_X8_thickOf_296 {fu : Nat} (hfu : 8589934592 ≤ fu) (r0 : z_M) (c0 : z_CI r0) (a1 : Int) (a2 : Int) (b1 : -2147483648 ≤ a1 ∧ a1 ≤ 2147483647) (b2 : -2147483648 ≤ a2 ∧ a2 ≤ 2147483647) : z_T (fX8_thickOf fu r0 296 a1 a2) (P_X8_thickOf_296 r0) := by
  refine T_of (fX8_thickOf.eq_1 ..) ?_
  refine T_if1 (by decide +kernel) ?_
  refine T_let 303 (by decide +kernel) ?_
  refine T_if1 (by decide +kernel) ?_
  refine T_get (by decide +kernel) (c := 304) (by decide +kernel) bdr_304 (by decide) c0 (fun x1 e2 b3 w4 => ?_)
  have l5 : z_ln 303 = 201 := by decide +kernel
  refine T_if1 (by decide +kernel) ?_
  refine T_let 303 (by decide +kernel) ?_
  refine T_if1 (by decide +kernel) ?_
  refine T_get (by decide +kernel) (c := 304) (by decide +kernel) bdr_304 (by decide) c0 (fun x6 e7 b8 w9 => ?_)
  have l10 : z_ln 303 = 201 := by decide +kernel
  refine T_leq (fun x11 e12 => ?_)
  have w13 := z_wr e12
  refine T_leq (fun x14 e15 => ?_)
  have w16 := z_wr e15
  refine T_leq (fun x17 e18 => ?_)
  have w19 := z_wr e18
  refine T_leq (fun x20 e21 => ?_)
  have w22 := z_wr e21
  refine T_leq (fun x23 e24 => ?_)
  have w25 := z_wr e24
  refine T_if1 (by decide +kernel) ?_
  refine T_let 305 (by decide +kernel) ?_
  refine T_if1 (by decide +kernel) ?_
  refine T_get (by decide +kernel) (c := 306) (by decide +kernel) bdr_306 (by decide) c0 (fun x26 e27 b28 w29 => ?_)
  have l30 : z_ln 305 = 200 := by decide +kernel
  refine T_leq (fun x31 e32 => ?_)
  have w33 := z_wr e32
  refine T_if1 (by decide +kernel) ?_
  refine T_let 307 (by decide +kernel) ?_
  refine T_if1 (by decide +kernel) ?_
  refine T_get (by decide +kernel) (c := 308) (by decide +kernel) bdr_308 (by decide) c0 (fun x34 e35 b36 w37 => ?_)
  have l38 : z_ln 307 = 200 := by decide +kernel
  refine T_leq (fun x39 e40 => ?_)
  have w41 := z_wr e40
  exact T_ret ⟨c0, z_Fr.rf, ⟨x39, rfl, by omega, by omega⟩⟩
abbrev R_X11_thick_1 (a : Int) : Prop := (1 ≤ a ∧ a ≤ 1) ∨ (191 ≤ a ∧ a ≤ 244) ∨ (248 ≤ a ∧ a ≤ 248) ∨ (260 ≤ a ∧ a ≤ 308)
abbrev P_X11_thick_1 (r0 : z_M) : z_V → z_M → Prop := fun v s' => z_CI s' ∧ z_Fr R_X11_thick_1 r0 s' ∧ ((∃ x, v = vI x ∧ -2147483648 ≤ x ∧ x ≤ 2147483647) ∨ v = vX 0 ∨ v = vX 1)
theorem sf_X11_thick_1 {fu : Nat} (hfu : 8589934592 ≤ fu) (r0 : z_M) (c0 : z_CI r0) (a1 : Int) (a2 : Int) (b1 : -2147483648 ≤ a1 ∧ a1 ≤ 2147483647) (b2 : -2147483648 ≤ a2 ∧ a2 ≤ 2147483647) : z_T (fX11_thick fu r0 1 a1 a2) (P_X11_thick_1 r0) := by
  refine T_of (fX11_thick.eq_1 ..) ?_
  refine T_if1 (by decide +kernel) ?_
  refine T_useN (sf_X11_refresh_1 hfu r0 c0) (fun v6 s1 hq => ?_)
  obtain ⟨c2, f3, rfl⟩ := hq
  refine T_vN ?_
  have f4 := z_Fr.tr (R := R_X11_thick_1) z_Fr.rf f3 (fun a h => by unfold R_X11_refresh_1 at h; unfold R_X11_thick_1; omega)
  have u9 := CI_b c2 (k := 240) (j := 6) bd_240_6
  refine T_if1 (by decide +kernel) ?_
  refine T_let 240 (by decide +kernel) ?_
  refine T_if1 (by decide +kernel) ?_
  refine T_leq (fun x10 e11 => ?_)
  have u12 := CI_b c2 (k := 240) (j := 6) bd_240_6
  refine T_if1 (by decide +kernel) ?_
  refine T_ne ?_ (fun h13 h14 => ?_)
  · exact T_ret ⟨CI_up c2 bd_1_14 (z_wb rfl).1, z_Fr.up (R := R_X11_thick_1) f4 (fun a b h => z_up_k h) (by decide), Or.inr (Or.inl rfl)⟩
  refine T_if1 (by decide +kernel) ?_
  refine T_let 240 (by decide +kernel) ?_
  refine T_if1 (by decide +kernel) ?_
  refine T_leq (fun x15 e16 => ?_)
  have u17 := CI_b c2 (k := 240) (j := 6) bd_240_6
  refine T_if1 (by decide +kernel) ?_
  refine T_ne ?_ (fun h18 h19 => ?_)
  · exact T_ret ⟨CI_up c2 bd_1_14 (z_wb rfl).1, z_Fr.up (R := R_X11_thick_1) f4 (fun a b h => z_up_k h) (by decide), Or.inr (Or.inl rfl)⟩
  refine T_if1 (by decide +kernel) ?_
  refine T_let 240 (by decide +kernel) ?_
  refine T_if1 (by decide +kernel) ?_
  refine T_leq (fun x20 e21 => ?_)
  have u22 := CI_b c2 (k := 240) (j := 6) bd_240_6
  refine T_if1 (by decide +kernel) ?_
  refine T_nw ?_ (fun h23 h24 => ?_)
  · exact T_ret ⟨CI_up c2 bd_1_15 (z_wb rfl).1, z_Fr.up (R := R_X11_thick_1) f4 (fun a b h => z_up_k h) (by decide), Or.inr (Or.inr rfl)⟩
  refine T_if1 (by decide +kernel) ?_
  refine T_useN (sf_X11_refreshSides_1 hfu s1 c2) (fun v30 s25 hq => ?_)
  obtain ⟨c26, f27, rfl⟩ := hq
  refine T_vN ?_
  have f28 := z_Fr.tr (R := R_X11_thick_1) f4 f27 (fun a h => by unfold R_X11_refreshSides_1 at h; unfold R_X11_thick_1; omega)
  have t33 : s25 240 6 = s1 240 6 := f27 240 6 (by decide)
  refine T_if1 (by decide +kernel) ?_
  refine T_let 296 (by decide +kernel) ?_
  refine T_if1 (by decide +kernel) ?_
  refine T_useI (sf_X8_thickOf_296 hfu s25 c26 a1 a2 (by omega) (by omega)) (fun v39 s34 hq => ?_)
  obtain ⟨c35, f36, ⟨x38, rfl, b40, b41⟩⟩ := hq
  refine T_vI ?_
  have f37 := z_Fr.tr (R := R_X11_thick_1) f28 f36 (fun a h => absurd h not_false)
  have t42 : s34 240 6 = s25 240 6 := f36 240 6 (by decide)
  exact T_ret ⟨c35, f37, Or.inl (⟨x38, rfl, by omega, by omega⟩)⟩
abbrev R_X8_pageEnd_296 (a : Int) : Prop := False
abbrev P_X8_pageEnd_296 (r0 : z_M) : z_V → z_M → Prop := fun v s' => z_CI s' ∧ z_Fr R_X8_pageEnd_296 r0 s' ∧ (∃ x, v = vI x ∧ 0 ≤ x ∧ x ≤ 200)
theorem sl_X8_pageEnd_296_L2 {fu : Nat} (hfu : 8589934592 ≤ fu) (r0 : z_M) (a1 : Int) (a2 : Int) (b1 : -2147483648 ≤ a1 ∧ a1 ≤ 2147483647) (b2 : -2147483648 ≤ a2 ∧ a2 ≤ 2147483647) {k : z_M → Int → z_O} (hk : ∀ (s' : z_M) (v3 : Int), z_CI s' → z_Fr R_X8_pageEnd_296 r0 s' → (0 ≤ v3 ∧ v3 ≤ 200) → z_T (k s' v3) (P_X8_pageEnd_296 r0)) : ∀ (F : Nat) (s : z_M) (a3 : Int), z_CI s → z_Fr R_X8_pageEnd_296 r0 s → (0 ≤ a3 ∧ a3 ≤ 200) → (2147483647 - a3 < (F : Int)) → z_T (fX8_pageEnd_L2 fu 296 a1 a2 F s a3 k) (P_X8_pageEnd_296 r0) := by
  intro F
  induction F with
  | zero =>
    intro s a3 c f b3 hm
    exfalso; omega
  | succ F ih =>
    intro s a3 c f b3 hm
    refine T_of (fX8_pageEnd_L2.eq_2 ..) ?_
    refine T_leq (fun x1 e2 => ?_)
    have w3 := z_wb e2
    refine T_if1 (by decide +kernel) ?_
    refine T_let 258 (by decide +kernel) ?_
    refine T_if1 (by decide +kernel) ?_
    refine T_useI (sf_X3_lineCount_258 hfu s c) (fun v9 s4 hq => ?_)
    obtain ⟨c5, f6, ⟨x8, rfl, b10, b11⟩⟩ := hq
    refine T_vI ?_
    have f7 := z_Fr.tr (R := R_X8_pageEnd_296) f f6 (fun a h => absurd h not_false)
    refine T_ite (fun h12 => ?_) (fun h12 => ?_)
    · exact hk s4 a3 c5 f7 (by omega)
    · refine T_leq (fun x13 e14 => ?_)
      have w15 := z_wb e14
      refine T_if1 (by decide +kernel) ?_
      refine T_useI (sf_X8_thickOf_296 hfu s4 c5 a1 x13 (by omega) (by omega)) (fun v21 s16 hq => ?_)
      obtain ⟨c17, f18, ⟨x20, rfl, b22, b23⟩⟩ := hq
      refine T_vI ?_
      have f19 := z_Fr.tr (R := R_X8_pageEnd_296) f7 f18 (fun a h => absurd h not_false)
      refine T_ite (fun h24 => ?_) (fun h24 => ?_)
      · exact hk s16 a3 c17 f19 (by omega)
      · refine T_leq (fun x25 e26 => ?_)
        have w27 := z_wb e26
        exact ih s16 x25 c17 f19 (by omega) (by omega)
theorem sj_X8_pageEnd_296_J33 {fu : Nat} (hfu : 8589934592 ≤ fu) (r0 s : z_M) (c : z_CI s) (f : z_Fr R_X8_pageEnd_296 r0 s) (a3 : Int) (b3 : 0 ≤ a3 ∧ a3 ≤ 200) : z_T (fX8_pageEnd_J33 fu s a3) (P_X8_pageEnd_296 r0) := by
  refine T_of (fX8_pageEnd_J33.eq_1 ..) ?_
  exact T_ret ⟨c, f, ⟨a3, rfl, by omega, by omega⟩⟩
theorem sf_X8_pageEnd_296 {fu : Nat} (hfu : 8589934592 ≤ fu) (r0 : z_M) (c0 : z_CI r0) (a1 : Int) (a2 : Int) (b1 : 0 ≤ a1 ∧ a1 ≤ 200) (b2 : -2147483648 ≤ a2 ∧ a2 ≤ 2147483647) : z_T (fX8_pageEnd fu r0 296 a1 a2) (P_X8_pageEnd_296 r0) := by
  refine T_of (fX8_pageEnd.eq_1 ..) ?_
  refine sl_X8_pageEnd_296_L2 hfu r0 a1 a2 (by omega) (by omega) (fun s1 y4 c2 f3 b5 => ?_) fu r0 a1 c0 z_Fr.rf (by omega) (by omega)
  exact sj_X8_pageEnd_296_J33 hfu r0 s1 c2 f3 y4 (by omega)
abbrev R_X8_pageCount_296 (a : Int) : Prop := False
abbrev P_X8_pageCount_296 (r0 : z_M) : z_V → z_M → Prop := fun v s' => z_CI s' ∧ z_Fr R_X8_pageCount_296 r0 s' ∧ (∃ x, v = vI x ∧ -2147483648 ≤ x ∧ x ≤ 2147483647)
theorem sl_X8_pageCount_296_L4 {fu : Nat} (hfu : 8589934592 ≤ fu) (r0 : z_M) (a1 : Int) (b1 : -2147483648 ≤ a1 ∧ a1 ≤ 2147483647) {k : z_M → Int → z_O} (hk : ∀ (s' : z_M) (v2 : Int), z_CI s' → z_Fr R_X8_pageCount_296 r0 s' → (-2147483648 ≤ v2 ∧ v2 ≤ 2147483647) → z_T (k s' v2) (P_X8_pageCount_296 r0)) : ∀ (F : Nat) (s : z_M) (a2 : Int) (a3 : Int), z_CI s → z_Fr R_X8_pageCount_296 r0 s → (-2147483648 ≤ a2 ∧ a2 ≤ 2147483647) → (0 ≤ a3 ∧ a3 ≤ 201) → (2147483647 - a3 < (F : Int)) → z_T (fX8_pageCount_L4 fu 296 a1 F s a2 a3 k) (P_X8_pageCount_296 r0) := by
  intro F
  induction F with
  | zero =>
    intro s a2 a3 c f b2 b3 hm
    exfalso; omega
  | succ F ih =>
    intro s a2 a3 c f b2 b3 hm
    refine T_of (fX8_pageCount_L4.eq_2 ..) ?_
    refine T_if1 (by decide +kernel) ?_
    refine T_let 258 (by decide +kernel) ?_
    refine T_if1 (by decide +kernel) ?_
    refine T_useI (sf_X3_lineCount_258 hfu s c) (fun v6 s1 hq => ?_)
    obtain ⟨c2, f3, ⟨x5, rfl, b7, b8⟩⟩ := hq
    refine T_vI ?_
    have f4 := z_Fr.tr (R := R_X8_pageCount_296) f f3 (fun a h => absurd h not_false)
    refine T_ite (fun h9 => ?_) (fun h9 => ?_)
    · exact hk s1 a2 c2 f4 (by omega)
    · refine T_if1 (by decide +kernel) ?_
      refine T_useI (sf_X8_pageEnd_296 hfu s1 c2 a3 a1 (by omega) (by omega)) (fun v15 s10 hq => ?_)
      obtain ⟨c11, f12, ⟨x14, rfl, b16, b17⟩⟩ := hq
      refine T_vI ?_
      have f13 := z_Fr.tr (R := R_X8_pageCount_296) f4 f12 (fun a h => absurd h not_false)
      refine T_leq (fun x18 e19 => ?_)
      have w20 := z_maxb a3 x14
      rw [e19] at w20
      refine T_leq (fun x21 e22 => ?_)
      have w23 := z_wb e22
      refine T_leq (fun x24 e25 => ?_)
      have w26 := z_wb e25
      exact ih s10 x24 x21 c11 f13 (by omega) (by omega) (by omega)
theorem sf_X8_pageCount_296 {fu : Nat} (hfu : 8589934592 ≤ fu) (r0 : z_M) (c0 : z_CI r0) (a1 : Int) (b1 : -2147483648 ≤ a1 ∧ a1 ≤ 2147483647) : z_T (fX8_pageCount fu r0 296 a1) (P_X8_pageCount_296 r0) := by
  refine T_of (fX8_pageCount.eq_1 ..) ?_
  refine sl_X8_pageCount_296_L4 hfu r0 a1 (by omega) (fun s1 y4 c2 f3 b5 => ?_) fu r0 0 0 c0 z_Fr.rf (by omega) (by omega) (by omega)
  exact T_ret ⟨c2, f3, ⟨y4, rfl, by omega, by omega⟩⟩
abbrev R_X11_pages_1 (a : Int) : Prop := (1 ≤ a ∧ a ≤ 1) ∨ (191 ≤ a ∧ a ≤ 244) ∨ (248 ≤ a ∧ a ≤ 248) ∨ (260 ≤ a ∧ a ≤ 308)
abbrev P_X11_pages_1 (r0 : z_M) : z_V → z_M → Prop := fun v s' => z_CI s' ∧ z_Fr R_X11_pages_1 r0 s' ∧ ((∃ x, v = vI x ∧ -2147483648 ≤ x ∧ x ≤ 2147483647) ∨ v = vX 0 ∨ v = vX 1)
theorem sf_X11_pages_1 {fu : Nat} (hfu : 8589934592 ≤ fu) (r0 : z_M) (c0 : z_CI r0) (a1 : Int) (b1 : -2147483648 ≤ a1 ∧ a1 ≤ 2147483647) : z_T (fX11_pages fu r0 1 a1) (P_X11_pages_1 r0) := by
  refine T_of (fX11_pages.eq_1 ..) ?_
  refine T_if1 (by decide +kernel) ?_
  refine T_nw ?_ (fun h1 h2 => ?_)
  · exact T_ret ⟨CI_up c0 bd_1_15 (z_wb rfl).1, z_Fr.up (R := R_X11_pages_1) z_Fr.rf (fun a b h => z_up_k h) (by decide), Or.inr (Or.inr rfl)⟩
  refine T_if1 (by decide +kernel) ?_
  refine T_useN (sf_X11_refresh_1 hfu r0 c0) (fun v8 s3 hq => ?_)
  obtain ⟨c4, f5, rfl⟩ := hq
  refine T_vN ?_
  have f6 := z_Fr.tr (R := R_X11_pages_1) z_Fr.rf f5 (fun a h => by unfold R_X11_refresh_1 at h; unfold R_X11_pages_1; omega)
  refine T_if1 (by decide +kernel) ?_
  refine T_useN (sf_X11_refreshSides_1 hfu s3 c4) (fun v16 s11 hq => ?_)
  obtain ⟨c12, f13, rfl⟩ := hq
  refine T_vN ?_
  have f14 := z_Fr.tr (R := R_X11_pages_1) f6 f13 (fun a h => by unfold R_X11_refreshSides_1 at h; unfold R_X11_pages_1; omega)
  refine T_if1 (by decide +kernel) ?_
  refine T_let 296 (by decide +kernel) ?_
  refine T_if1 (by decide +kernel) ?_
  refine T_useI (sf_X8_pageCount_296 hfu s11 c12 a1 (by omega)) (fun v24 s19 hq => ?_)
  obtain ⟨c20, f21, ⟨x23, rfl, b25, b26⟩⟩ := hq
  refine T_vI ?_
  have f22 := z_Fr.tr (R := R_X11_pages_1) f14 f21 (fun a h => absurd h not_false)
  exact T_ret ⟨c20, f22, Or.inl (⟨x23, rfl, by omega, by omega⟩)⟩
abbrev R_X11_page_1 (a : Int) : Prop := (1 ≤ a ∧ a ≤ 1) ∨ (191 ≤ a ∧ a ≤ 244) ∨ (248 ≤ a ∧ a ≤ 248) ∨ (260 ≤ a ∧ a ≤ 308)
abbrev P_X11_page_1 (r0 : z_M) : z_V → z_M → Prop := fun v s' => z_CI s' ∧ z_Fr R_X11_page_1 r0 s' ∧ ((∃ x, v = vI x ∧ -2147483648 ≤ x ∧ x ≤ 2147483647) ∨ v = vX 0 ∨ v = vX 1)
theorem sl_X11_page_1_L45 {fu : Nat} (hfu : 8589934592 ≤ fu) (r0 : z_M) (a1 : Int) (a2 : Int) (a3 : Int) (b1 : -2147483648 ≤ a1 ∧ a1 ≤ 2147483647) (b2 : -2147483648 ≤ a2 ∧ a2 ≤ 2147483647) (b3 : -2147483648 ≤ a3 ∧ a3 ≤ 2147483647) {k : z_M → Int → z_O} (hk : ∀ (s' : z_M) (v4 : Int), z_CI s' → z_Fr R_X11_page_1 r0 s' → (0 ≤ v4 ∧ v4 ≤ 201) → z_T (k s' v4) (P_X11_page_1 r0)) : ∀ (F : Nat) (s : z_M) (a4 : Int) (a5 : Int), z_CI s → z_Fr R_X11_page_1 r0 s → (0 ≤ a4 ∧ a4 ≤ 201) → (-2147483648 ≤ a5 ∧ a5 ≤ 2147483647) → (2147483647 - a5 < (F : Int)) → z_T (fX11_page_L45 fu 1 a1 a2 a3 F s a4 a5 k) (P_X11_page_1 r0) := by
  intro F
  induction F with
  | zero =>
    intro s a4 a5 c f b4 b5 hm
    have u22 := CI_b c (k := 240) (j := 6) bd_240_6
    exfalso; omega
  | succ F ih =>
    intro s a4 a5 c f b4 b5 hm
    refine T_of (fX11_page_L45.eq_2 ..) ?_
    have u1 := CI_b c (k := 240) (j := 6) bd_240_6
    refine T_ite (fun h2 => ?_) (fun h2 => ?_)
    · exact hk s a4 c f (by omega)
    · refine T_if1 (by decide +kernel) ?_
      refine T_let 240 (by decide +kernel) ?_
      refine T_if1 (by decide +kernel) ?_
      refine T_leq (fun x3 e4 => ?_)
      have u5 := CI_b c (k := 240) (j := 6) bd_240_6
      refine T_ite (fun h6 => ?_) (fun h6 => ?_)
      · exact hk s a4 c f (by omega)
      · refine T_if1 (by decide +kernel) ?_
        refine T_let 296 (by decide +kernel) ?_
        refine T_if1 (by decide +kernel) ?_
        refine T_useI (sf_X8_pageEnd_296 hfu s c a4 a1 (by omega) (by omega)) (fun v12 s7 hq => ?_)
        obtain ⟨c8, f9, ⟨x11, rfl, b13, b14⟩⟩ := hq
        refine T_vI ?_
        have f10 := z_Fr.tr (R := R_X11_page_1) f f9 (fun a h => absurd h not_false)
        have t15 : s7 240 6 = s 240 6 := f9 240 6 (by decide)
        refine T_leq (fun x16 e17 => ?_)
        have w18 := z_wb e17
        refine T_leq (fun x19 e20 => ?_)
        have w21 := z_wb e20
        exact ih s7 x16 x19 c8 f10 (by omega) (by omega) (by omega)
theorem sj_X11_page_1_J144 {fu : Nat} (hfu : 8589934592 ≤ fu) (r0 s : z_M) (c : z_CI s) (f : z_Fr R_X11_page_1 r0 s) (t0 : Int) (d0 : -2147483648 ≤ t0 ∧ t0 ≤ 2147483647) : z_T (fX11_page_J144 fu s t0) (P_X11_page_1 r0) := by
  refine T_of (fX11_page_J144.eq_1 ..) ?_
  have u1 := CI_b c (k := 240) (j := 6) bd_240_6
  exact T_ret ⟨c, f, Or.inl (⟨t0, rfl, by omega, by omega⟩)⟩
theorem sj_X11_page_1_J83 {fu : Nat} (hfu : 8589934592 ≤ fu) (r0 s : z_M) (c : z_CI s) (f : z_Fr R_X11_page_1 r0 s) (a1 : Int) (a3 : Int) (a4 : Int) (b1 : -2147483648 ≤ a1 ∧ a1 ≤ 2147483647) (b3 : -2147483648 ≤ a3 ∧ a3 ≤ 2147483647) (b4 : 0 ≤ a4 ∧ a4 ≤ 201) : z_T (fX11_page_J83 fu s 1 a1 a3 a4) (P_X11_page_1 r0) := by
  refine T_of (fX11_page_J83.eq_1 ..) ?_
  have u1 := CI_b c (k := 240) (j := 6) bd_240_6
  refine T_if1 (by decide +kernel) ?_
  refine T_let 240 (by decide +kernel) ?_
  refine T_if1 (by decide +kernel) ?_
  refine T_leq (fun x2 e3 => ?_)
  have u4 := CI_b c (k := 240) (j := 6) bd_240_6
  refine T_ite (fun h5 => ?_) (fun h5 => ?_)
  · refine T_if1 (by decide +kernel) ?_
    refine T_let 296 (by decide +kernel) ?_
    refine T_if1 (by decide +kernel) ?_
    refine T_useI (sf_X8_pageEnd_296 hfu s c a4 a1 (by omega) (by omega)) (fun v11 s6 hq => ?_)
    obtain ⟨c7, f8, ⟨x10, rfl, b12, b13⟩⟩ := hq
    refine T_vI ?_
    have f9 := z_Fr.tr (R := R_X11_page_1) f f8 (fun a h => absurd h not_false)
    have t14 : s6 240 6 = s 240 6 := f8 240 6 (by decide)
    refine T_ite (fun h15 => ?_) (fun h15 => ?_)
    · refine T_ite (fun h16 => ?_) (fun h16 => ?_)
      · refine T_if1 (by decide +kernel) ?_
        refine T_let 296 (by decide +kernel) ?_
        refine T_if1 (by decide +kernel) ?_
        refine T_useI (sf_X8_thickOf_296 hfu s6 c7 a4 x10 (by omega) (by omega)) (fun v22 s17 hq => ?_)
        obtain ⟨c18, f19, ⟨x21, rfl, b23, b24⟩⟩ := hq
        refine T_vI ?_
        have f20 := z_Fr.tr (R := R_X11_page_1) f9 f19 (fun a h => absurd h not_false)
        have t25 : s17 240 6 = s6 240 6 := f19 240 6 (by decide)
        exact sj_X11_page_1_J144 hfu r0 s17 c18 f20 x21 (by omega)
      · refine T_leq (fun x26 e27 => ?_)
        have w28 := z_wb e27
        refine T_leq (fun x29 e30 => ?_)
        have w31 := z_wb e30
        exact sj_X11_page_1_J144 hfu r0 s6 c7 f9 x29 (by omega)
    · exact sj_X11_page_1_J144 hfu r0 s6 c7 f9 a4 (by omega)
  · exact T_ret ⟨c, f, Or.inl (⟨(-1), rfl, by omega, by omega⟩)⟩
theorem sj_X11_page_1_J40 {fu : Nat} (hfu : 8589934592 ≤ fu) (r0 s : z_M) (c : z_CI s) (f : z_Fr R_X11_page_1 r0 s) (a1 : Int) (a2 : Int) (a3 : Int) (t0 : Int) (b1 : -2147483648 ≤ a1 ∧ a1 ≤ 2147483647) (b2 : -2147483648 ≤ a2 ∧ a2 ≤ 2147483647) (b3 : -2147483648 ≤ a3 ∧ a3 ≤ 2147483647) (d0 : 0 ≤ t0 ∧ t0 ≤ 200) : z_T (fX11_page_J40 fu s 1 a1 a2 a3 t0) (P_X11_page_1 r0) := by
  refine T_of (fX11_page_J40.eq_1 ..) ?_
  have u1 := CI_b c (k := 240) (j := 6) bd_240_6
  refine sl_X11_page_1_L45 hfu r0 a1 a2 a3 (by omega) (by omega) (by omega) (fun s2 y5 c3 f4 b6 => ?_) fu s t0 0 c f (by omega) (by omega) (by omega)
  have u7 := CI_b c3 (k := 240) (j := 6) bd_240_6
  exact sj_X11_page_1_J83 hfu r0 s2 c3 f4 a1 a3 y5 (by omega) (by omega) (by omega)
theorem sf_X11_page_1 {fu : Nat} (hfu : 8589934592 ≤ fu) (r0 : z_M) (c0 : z_CI r0) (a1 : Int) (a2 : Int) (a3 : Int) (b1 : -2147483648 ≤ a1 ∧ a1 ≤ 2147483647) (b2 : -2147483648 ≤ a2 ∧ a2 ≤ 2147483647) (b3 : -2147483648 ≤ a3 ∧ a3 ≤ 2147483647) : z_T (fX11_page fu r0 1 a1 a2 a3) (P_X11_page_1 r0) := by
  refine T_of (fX11_page.eq_1 ..) ?_
  refine T_if1 (by decide +kernel) ?_
  refine T_nw ?_ (fun h1 h2 => ?_)
  · exact T_ret ⟨CI_up c0 bd_1_15 (z_wb rfl).1, z_Fr.up (R := R_X11_page_1) z_Fr.rf (fun a b h => z_up_k h) (by decide), Or.inr (Or.inr rfl)⟩
  refine T_if1 (by decide +kernel) ?_
  refine T_nw ?_ (fun h3 h4 => ?_)
  · exact T_ret ⟨CI_up c0 bd_1_15 (z_wb rfl).1, z_Fr.up (R := R_X11_page_1) z_Fr.rf (fun a b h => z_up_k h) (by decide), Or.inr (Or.inr rfl)⟩
  refine T_if1 (by decide +kernel) ?_
  refine T_useN (sf_X11_refresh_1 hfu r0 c0) (fun v10 s5 hq => ?_)
  obtain ⟨c6, f7, rfl⟩ := hq
  refine T_vN ?_
  have f8 := z_Fr.tr (R := R_X11_page_1) z_Fr.rf f7 (fun a h => by unfold R_X11_refresh_1 at h; unfold R_X11_page_1; omega)
  have u13 := CI_b c6 (k := 240) (j := 6) bd_240_6
  refine T_if1 (by decide +kernel) ?_
  refine T_useN (sf_X11_refreshSides_1 hfu s5 c6) (fun v19 s14 hq => ?_)
  obtain ⟨c15, f16, rfl⟩ := hq
  refine T_vN ?_
  have f17 := z_Fr.tr (R := R_X11_page_1) f8 f16 (fun a h => by unfold R_X11_refreshSides_1 at h; unfold R_X11_page_1; omega)
  have t22 : s14 240 6 = s5 240 6 := f16 240 6 (by decide)
  refine T_ite (fun h23 => ?_) (fun h23 => ?_)
  · exact sj_X11_page_1_J40 hfu r0 s14 c15 f17 a1 a2 a3 0 (by omega) (by omega) (by omega) (by omega)
  · refine T_if1 (by decide +kernel) ?_
    refine T_let 240 (by decide +kernel) ?_
    refine T_if1 (by decide +kernel) ?_
    refine T_leq (fun x24 e25 => ?_)
    have u26 := CI_b c15 (k := 240) (j := 6) bd_240_6
    exact sj_X11_page_1_J40 hfu r0 s14 c15 f17 a1 a2 a3 x24 (by omega) (by omega) (by omega) (by omega)
abbrev R_X11_narrow_1 (a : Int) : Prop := (1 ≤ a ∧ a ≤ 1) ∨ (191 ≤ a ∧ a ≤ 244) ∨ (248 ≤ a ∧ a ≤ 248) ∨ (260 ≤ a ∧ a ≤ 308)
abbrev P_X11_narrow_1 (r0 : z_M) : z_V → z_M → Prop := fun v s' => z_CI s' ∧ z_Fr R_X11_narrow_1 r0 s' ∧ ((∃ x, v = vI x ∧ -2147483648 ≤ x ∧ x ≤ 2147483647) ∨ v = vX 0 ∨ v = vX 1)
theorem sj_X11_narrow_1_J60 {fu : Nat} (hfu : 8589934592 ≤ fu) (r0 s : z_M) (c : z_CI s) (f : z_Fr R_X11_narrow_1 r0 s) (a1 : Int) (a2 : Int) (a3 : Int) (b1 : -2147483648 ≤ a1 ∧ a1 ≤ 2147483647) (b2 : 12 ≤ a2 ∧ a2 ≤ 10000) (b3 : 12 ≤ a3 ∧ a3 ≤ 10000) (p0 : a2 ≤ a3) (M : Int) (pm : a3 - a2 < M) {r : z_M → Int → Int → z_O} {k : z_M → Int → z_O} (hr : ∀ (s' : z_M) (v2 : Int) (v3 : Int), z_CI s' → z_Fr R_X11_narrow_1 r0 s' → (12 ≤ v2 ∧ v2 ≤ 10000) → (12 ≤ v3 ∧ v3 ≤ 10000) → (v2 ≤ v3) → (v3 - v2 < M) → z_T (r s' v2 v3) (P_X11_narrow_1 r0)) (hk : ∀ (s' : z_M) (v2 : Int), z_CI s' → z_Fr R_X11_narrow_1 r0 s' → (12 ≤ v2 ∧ v2 ≤ 10000) → z_T (k s' v2) (P_X11_narrow_1 r0)) : z_T (fX11_narrow_J60 fu s 1 a1 a2 a3 r k) (P_X11_narrow_1 r0) := by
  refine T_of (fX11_narrow_J60.eq_1 ..) ?_
  exact hr s a2 a3 c f (by omega) (by omega) (by omega) (by omega)
theorem sl_X11_narrow_1_L24 {fu : Nat} (hfu : 8589934592 ≤ fu) (r0 : z_M) (a1 : Int) (b1 : -2147483648 ≤ a1 ∧ a1 ≤ 2147483647) {k : z_M → Int → z_O} (hk : ∀ (s' : z_M) (v2 : Int), z_CI s' → z_Fr R_X11_narrow_1 r0 s' → (12 ≤ v2 ∧ v2 ≤ 10000) → z_T (k s' v2) (P_X11_narrow_1 r0)) : ∀ (F : Nat) (s : z_M) (a2 : Int) (a3 : Int), z_CI s → z_Fr R_X11_narrow_1 r0 s → (12 ≤ a2 ∧ a2 ≤ 10000) → (12 ≤ a3 ∧ a3 ≤ 10000) → (a2 ≤ a3) → (a3 - a2 < (F : Int)) → z_T (fX11_narrow_L24 fu 1 a1 F s a2 a3 k) (P_X11_narrow_1 r0) := by
  intro F
  induction F with
  | zero =>
    intro s a2 a3 c f b2 b3 i0 hm
    exfalso; omega
  | succ F ih =>
    intro s a2 a3 c f b2 b3 i0 hm
    refine T_of (fX11_narrow_L24.eq_2 ..) ?_
    refine T_ite (fun h1 => ?_) (fun h1 => ?_)
    · exact hk s a2 c f (by omega)
    · refine T_leq (fun x2 e3 => ?_)
      have w4 := z_wb e3
      refine T_if1 (by omega) ?_
      refine T_leq (fun x5 e6 => ?_)
      have w7 := z_wb e6
      have w8 := z_td2 (e := x2)
      refine T_if1 (by decide +kernel) ?_
      refine T_let 296 (by decide +kernel) ?_
      refine T_if1 (by decide +kernel) ?_
      refine T_useI (sf_X8_pageCount_296 hfu s c x5 (by omega)) (fun v14 s9 hq => ?_)
      obtain ⟨c10, f11, ⟨x13, rfl, b15, b16⟩⟩ := hq
      refine T_vI ?_
      have f12 := z_Fr.tr (R := R_X11_narrow_1) f f11 (fun a h => absurd h not_false)
      refine T_ite (fun h17 => ?_) (fun h17 => ?_)
      · refine T_leq (fun x18 e19 => ?_)
        have w20 := z_wb e19
        exact sj_X11_narrow_1_J60 hfu r0 s9 c10 f12 a1 x18 a3 (by omega) (by omega) (by omega) (by omega) (a3 - a2) (by omega) (fun s' v2 v3 c' f' w2 w3 z0 pg => ih s' v2 v3 c' f' w2 w3 z0 (by omega)) hk
      · exact sj_X11_narrow_1_J60 hfu r0 s9 c10 f12 a1 a2 x5 (by omega) (by omega) (by omega) (by omega) (a3 - a2) (by omega) (fun s' v2 v3 c' f' w2 w3 z0 pg => ih s' v2 v3 c' f' w2 w3 z0 (by omega)) hk
theorem sj_X11_narrow_1_J75 {fu : Nat} (hfu : 8589934592 ≤ fu) (r0 s : z_M) (c : z_CI s) (f : z_Fr R_X11_narrow_1 r0 s) (t0 : Int) (d0 : -2147483648 ≤ t0 ∧ t0 ≤ 2147483647) : z_T (fX11_narrow_J75 fu s t0) (P_X11_narrow_1 r0) := by
  refine T_of (fX11_narrow_J75.eq_1 ..) ?_
  exact T_ret ⟨c, f, Or.inl (⟨t0, rfl, by omega, by omega⟩)⟩
theorem sf_X11_narrow_1 {fu : Nat} (hfu : 8589934592 ≤ fu) (r0 : z_M) (c0 : z_CI r0) (a1 : Int) (b1 : -2147483648 ≤ a1 ∧ a1 ≤ 2147483647) : z_T (fX11_narrow fu r0 1 a1) (P_X11_narrow_1 r0) := by
  refine T_of (fX11_narrow.eq_1 ..) ?_
  refine T_if1 (by decide +kernel) ?_
  refine T_nw ?_ (fun h1 h2 => ?_)
  · exact T_ret ⟨CI_up c0 bd_1_15 (z_wb rfl).1, z_Fr.up (R := R_X11_narrow_1) z_Fr.rf (fun a b h => z_up_k h) (by decide), Or.inr (Or.inr rfl)⟩
  refine T_if1 (by decide +kernel) ?_
  refine T_useN (sf_X11_refresh_1 hfu r0 c0) (fun v8 s3 hq => ?_)
  obtain ⟨c4, f5, rfl⟩ := hq
  refine T_vN ?_
  have f6 := z_Fr.tr (R := R_X11_narrow_1) z_Fr.rf f5 (fun a h => by unfold R_X11_refresh_1 at h; unfold R_X11_narrow_1; omega)
  refine T_if1 (by decide +kernel) ?_
  refine T_useN (sf_X11_refreshSides_1 hfu s3 c4) (fun v16 s11 hq => ?_)
  obtain ⟨c12, f13, rfl⟩ := hq
  refine T_vN ?_
  have f14 := z_Fr.tr (R := R_X11_narrow_1) f6 f13 (fun a h => by unfold R_X11_refreshSides_1 at h; unfold R_X11_narrow_1; omega)
  refine sl_X11_narrow_1_L24 hfu r0 a1 (by omega) (fun s19 y22 c20 f21 b23 => ?_) fu s11 12 10000 c12 f14 (by omega) (by omega) (by omega) (by omega)
  refine T_ite (fun h24 => ?_) (fun h24 => ?_)
  · exact sj_X11_narrow_1_J75 hfu r0 s19 c20 f21 y22 (by omega)
  · exact sj_X11_narrow_1_J75 hfu r0 s19 c20 f21 (-1) (by omega)
abbrev R_X11_status_1 (a : Int) : Prop := False
abbrev P_X11_status_1 (r0 : z_M) : z_V → z_M → Prop := fun v s' => z_CI s' ∧ z_Fr R_X11_status_1 r0 s' ∧ (∃ x, v = vI x ∧ -2147483648 ≤ x ∧ x ≤ 2147483647)
theorem sj_X11_status_1_J24 {fu : Nat} (hfu : 8589934592 ≤ fu) (r0 s : z_M) (c : z_CI s) (f : z_Fr R_X11_status_1 r0 s) (t0 : Int) (d0 : -2147483648 ≤ t0 ∧ t0 ≤ 2147483647) : z_T (fX11_status_J24 fu s t0) (P_X11_status_1 r0) := by
  refine T_of (fX11_status_J24.eq_1 ..) ?_
  have u1 := CI_b c (k := 1) (j := 14) bd_1_14
  have u2 := CI_b c (k := 1) (j := 15) bd_1_15
  exact T_ret ⟨c, f, ⟨t0, rfl, by omega, by omega⟩⟩
theorem sf_X11_status_1 {fu : Nat} (hfu : 8589934592 ≤ fu) (r0 : z_M) (c0 : z_CI r0) (a1 : Int) (b1 : -2147483648 ≤ a1 ∧ a1 ≤ 2147483647) : z_T (fX11_status fu r0 1 a1) (P_X11_status_1 r0) := by
  refine T_of (fX11_status.eq_1 ..) ?_
  refine T_ite (fun h1 => ?_) (fun h1 => ?_)
  · refine T_ite (fun h2 => ?_) (fun h2 => ?_)
    · exact sj_X11_status_1_J24 hfu r0 r0 c0 z_Fr.rf (-1) (by omega)
    · refine T_if1 (by decide +kernel) ?_
      refine T_leq (fun x3 e4 => ?_)
      have u5 := CI_b c0 (k := 1) (j := 15) bd_1_15
      exact sj_X11_status_1_J24 hfu r0 r0 c0 z_Fr.rf x3 (by omega)
  · refine T_if1 (by decide +kernel) ?_
    refine T_leq (fun x6 e7 => ?_)
    have u8 := CI_b c0 (k := 1) (j := 14) bd_1_14
    exact sj_X11_status_1_J24 hfu r0 r0 c0 z_Fr.rf x6 (by omega)
