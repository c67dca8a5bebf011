/-! UNITS of the class: all its functions once more (by program, wip/tool/mksimc.py) -/
abbrev P_X10_split_191T (r0 : z_M) : z_V → z_M → Prop := fun v s' => z_CI s' ∧ z_Fr R_X10_split_191 r0 s' ∧ (y_Uu s') ∧ (v = vN)
theorem sf_X10_split_191T {fu : Nat} (hfu : 8589934592 ≤ fu) (r0 : z_M) (c0 : z_CI r0) : z_T (fX10_split fu r0 191) (P_X10_split_191T r0) := by
  by_cases hT : r0 6 6 = 0 ∨ y_sC r0 0 = 1
  · refine T_mono (T_and (sf_X10_split_191 hfu r0 c0) (e_split hfu (CI_b c0 (k := 6) (j := 6) bd_6_6) hT)) (fun v s h => ?_)
    obtain ⟨⟨c, f, u, e⟩, p⟩ := h
    exact ⟨c, f, ⟨u, fun _ => p⟩, e⟩
  · refine T_mono (sf_X10_split_191 hfu r0 c0) (fun v s h => ?_)
    obtain ⟨c, f, u, e⟩ := h
    refine ⟨c, f, ⟨u, fun q => absurd ?_ hT⟩, e⟩
    rw [f 6 6 (by unfold R_X10_split_191; omega), y_sC_cg (fun b => f 8 b (by unfold R_X10_split_191; omega)) (fun b => f 12 b (by unfold R_X10_split_191; omega)) (fun b => f 14 b (by unfold R_X10_split_191; omega))] at q
    exact q
abbrev P_X10_build_191T (r0 : z_M) : z_V → z_M → Prop := fun v s' => z_CI s' ∧ z_Fr R_X10_build_191 r0 s' ∧ (y_Uu s') ∧ (v = vN)
theorem nr_X10_measureUnit_191__193 (b : Int) : ¬ R_X10_measureUnit_191 193 b := by
  unfold R_X10_measureUnit_191; omega
theorem nr_X10_measureUnit_191__215 (b : Int) : ¬ R_X10_measureUnit_191 215 b := by
  unfold R_X10_measureUnit_191; omega
theorem nr_X10_measureUnit_191__8 (b : Int) : ¬ R_X10_measureUnit_191 8 b := by
  unfold R_X10_measureUnit_191; omega
theorem nr_X10_measureUnit_191__12 (b : Int) : ¬ R_X10_measureUnit_191 12 b := by
  unfold R_X10_measureUnit_191; omega
theorem nr_X10_measureUnit_191__14 (b : Int) : ¬ R_X10_measureUnit_191 14 b := by
  unfold R_X10_measureUnit_191; omega
theorem sl_X10_build_191T_L6 {fu : Nat} (hfu : 8589934592 ≤ fu) (r0 : z_M) {k : z_M → z_O} (hk : ∀ (s' : z_M), z_CI s' → z_Fr R_X10_build_191 r0 s' → (y_Uu s') → z_T (k s') (P_X10_build_191T r0)) : ∀ (F : Nat) (s : z_M) (a1 : Int), z_CI s → z_Fr R_X10_build_191 r0 s → (-2147483648 ≤ a1 ∧ a1 ≤ 2147483647) → (y_Uu s) → (2147483647 - a1 < (F : Int)) → z_T (fX10_build_L6 fu 191 F s a1 k) (P_X10_build_191T r0) := by
  intro F
  induction F with
  | zero =>
    intro s a1 c f b1 i0 hm
    have u19 := CI_b c (k := 191) (j := 16) bd_191_16
    exfalso; omega
  | succ F ih =>
    intro s a1 c f b1 i0 hm
    refine T_of (fX10_build_L6.eq_2 ..) ?_
    have u1 := CI_b c (k := 191) (j := 16) bd_191_16
    refine T_if1 (by decide +kernel) ?_
    refine T_leq (fun x2 e3 => ?_)
    have u4 := CI_b c (k := 191) (j := 16) bd_191_16
    refine T_ite (fun h5 => ?_) (fun h5 => ?_)
    · exact hk s c f i0
    · refine T_if1 (by decide +kernel) ?_
      refine T_useN (sf_X10_measureUnit_191 hfu s c a1 (by omega)) (fun v11 s6 hq => ?_)
      obtain ⟨c7, f8, rfl⟩ := hq
      refine T_vN ?_
      have f9 := z_Fr.tr (R := R_X10_build_191) f f8 rs_X10_measureUnit_191__X10_build_191
      have t14 : s6 191 16 = s 191 16 := f8 191 16 (by decide)
      have r15 := y_Uu.fr i0 (f8 191 16 (by decide)) (f8 6 6 (by decide)) (fun b => f8 195 b (nr_X10_measureUnit_191__195 b)) (fun b => f8 197 b (nr_X10_measureUnit_191__197 b)) (fun b => f8 193 b (nr_X10_measureUnit_191__193 b)) (fun b => f8 215 b (nr_X10_measureUnit_191__215 b)) (fun b => f8 8 b (nr_X10_measureUnit_191__8 b)) (fun b => f8 12 b (nr_X10_measureUnit_191__12 b)) (fun b => f8 14 b (nr_X10_measureUnit_191__14 b))
      refine T_leq (fun x16 e17 => ?_)
      have w18 := z_wb e17
      exact ih s6 x16 c7 f9 (by omega) r15 (by omega)
theorem nr_X10_addUp_191__193 (b : Int) : ¬ R_X10_addUp_191 193 b := by
  unfold R_X10_addUp_191; omega
theorem nr_X10_addUp_191__215 (b : Int) : ¬ R_X10_addUp_191 215 b := by
  unfold R_X10_addUp_191; omega
theorem nr_X10_addUp_191__8 (b : Int) : ¬ R_X10_addUp_191 8 b := by
  unfold R_X10_addUp_191; omega
theorem nr_X10_addUp_191__12 (b : Int) : ¬ R_X10_addUp_191 12 b := by
  unfold R_X10_addUp_191; omega
theorem nr_X10_addUp_191__14 (b : Int) : ¬ R_X10_addUp_191 14 b := by
  unfold R_X10_addUp_191; omega
theorem nr_X10_pairUp_191__193 (b : Int) : ¬ R_X10_pairUp_191 193 b := by
  unfold R_X10_pairUp_191; omega
theorem nr_X10_pairUp_191__215 (b : Int) : ¬ R_X10_pairUp_191 215 b := by
  unfold R_X10_pairUp_191; omega
theorem nr_X10_pairUp_191__8 (b : Int) : ¬ R_X10_pairUp_191 8 b := by
  unfold R_X10_pairUp_191; omega
theorem nr_X10_pairUp_191__12 (b : Int) : ¬ R_X10_pairUp_191 12 b := by
  unfold R_X10_pairUp_191; omega
theorem nr_X10_pairUp_191__14 (b : Int) : ¬ R_X10_pairUp_191 14 b := by
  unfold R_X10_pairUp_191; omega
theorem nr_X10_allowsEnd_191__193 (b : Int) : ¬ R_X10_allowsEnd_191 193 b := not_false
theorem nr_X10_allowsEnd_191__215 (b : Int) : ¬ R_X10_allowsEnd_191 215 b := not_false
theorem nr_X10_allowsEnd_191__8 (b : Int) : ¬ R_X10_allowsEnd_191 8 b := not_false
theorem nr_X10_allowsEnd_191__12 (b : Int) : ¬ R_X10_allowsEnd_191 12 b := not_false
theorem nr_X10_allowsEnd_191__14 (b : Int) : ¬ R_X10_allowsEnd_191 14 b := not_false
theorem sj_X10_build_191T_J61 {fu : Nat} (hfu : 8589934592 ≤ fu) (r0 s : z_M) (c : z_CI s) (f : z_Fr R_X10_build_191 r0 s) (a1 : Int) (t1 : Int) (t2 : Int) (b1 : -2147483648 ≤ a1 ∧ a1 ≤ 2147483646) (d1 : -2147483648 ≤ t1 ∧ t1 ≤ 2147483647) (d2 : 0 ≤ t2 ∧ t2 ≤ 1) (p0 : y_Uu s) (M : Int) (pm : 2147483647 - a1 ≤ M) {r : z_M → Int → z_O} {k : z_M → z_O} (hr : ∀ (s' : z_M) (v1 : Int), z_CI s' → z_Fr R_X10_build_191 r0 s' → (-2147483648 ≤ v1 ∧ v1 ≤ 2147483647) → (y_Uu s') → (2147483647 - v1 < M) → z_T (r s' v1) (P_X10_build_191T r0)) (hk : ∀ (s' : z_M), z_CI s' → z_Fr R_X10_build_191 r0 s' → (y_Uu s') → z_T (k s') (P_X10_build_191T r0)) : z_T (fX10_build_J61 fu s 191 a1 208 t1 t2 r k) (P_X10_build_191T r0) := by
  refine T_of (fX10_build_J61.eq_1 ..) ?_
  have u1 := CI_b c (k := 191) (j := 16) bd_191_16
  refine T_if1 (by decide +kernel) ?_
  refine T_put (by decide +kernel) (c := 209) (by decide +kernel) bdr_209 (by omega) c (fun s2 e5 c3 g6 => ?_)
  have f4 := z_Fr.up (R := R_X10_build_191) f g6 (fun _ => (Or.inl (⟨by decide, by decide⟩)))
  have t7 : s2 191 16 = s 191 16 := g6 191 16 (by decide)
  have r8 := y_Uu.fr p0 (g6 191 16 (by decide)) (g6 6 6 (by decide)) (fun b => g6 195 b (by decide)) (fun b => g6 197 b (by decide)) (fun b => g6 193 b (by decide)) (fun b => g6 215 b (by decide)) (fun b => g6 8 b (by decide)) (fun b => g6 12 b (by decide)) (fun b => g6 14 b (by decide))
  refine T_leq (fun x9 e10 => ?_)
  have w11 := z_wb e10
  exact hr s2 x9 c3 f4 (by omega) r8 (by omega)
theorem sl_X10_build_191T_L35 {fu : Nat} (hfu : 8589934592 ≤ fu) (r0 : z_M) {k : z_M → z_O} (hk : ∀ (s' : z_M), z_CI s' → z_Fr R_X10_build_191 r0 s' → (y_Uu s') → z_T (k s') (P_X10_build_191T r0)) : ∀ (F : Nat) (s : z_M) (a1 : Int), z_CI s → z_Fr R_X10_build_191 r0 s → (-2147483648 ≤ a1 ∧ a1 ≤ 2147483647) → (y_Uu s) → (2147483647 - a1 < (F : Int)) → z_T (fX10_build_L35 fu 191 F s a1 k) (P_X10_build_191T r0) := by
  intro F
  induction F with
  | zero =>
    intro s a1 c f b1 i0 hm
    have u17 := CI_b c (k := 191) (j := 16) bd_191_16
    exfalso; omega
  | succ F ih =>
    intro s a1 c f b1 i0 hm
    refine T_of (fX10_build_L35.eq_2 ..) ?_
    have u1 := CI_b c (k := 191) (j := 16) bd_191_16
    refine T_if1 (by decide +kernel) ?_
    refine T_leq (fun x2 e3 => ?_)
    have u4 := CI_b c (k := 191) (j := 16) bd_191_16
    refine T_ite (fun h5 => ?_) (fun h5 => ?_)
    · exact hk s c f i0
    · refine T_if1 (by decide +kernel) ?_
      refine T_let 208 (by decide +kernel) ?_
      refine T_if1 (by decide +kernel) ?_
      refine T_useI (sf_X10_allowsEnd_191 hfu s c a1 (by omega)) (fun v11 s6 hq => ?_)
      obtain ⟨c7, f8, ⟨x10, rfl, b12, b13⟩⟩ := hq
      refine T_vI ?_
      have f9 := z_Fr.tr (R := R_X10_build_191) f f8 (fun a b h => absurd h not_false)
      have t14 : s6 191 16 = s 191 16 := f8 191 16 (by decide)
      have r15 := y_Uu.fr i0 (f8 191 16 (by decide)) (f8 6 6 (by decide)) (fun b => f8 195 b (nr_X10_allowsEnd_191__195 b)) (fun b => f8 197 b (nr_X10_allowsEnd_191__197 b)) (fun b => f8 193 b (nr_X10_allowsEnd_191__193 b)) (fun b => f8 215 b (nr_X10_allowsEnd_191__215 b)) (fun b => f8 8 b (nr_X10_allowsEnd_191__8 b)) (fun b => f8 12 b (nr_X10_allowsEnd_191__12 b)) (fun b => f8 14 b (nr_X10_allowsEnd_191__14 b))
      refine T_ite (fun h16 => ?_) (fun h16 => ?_)
      · exact sj_X10_build_191T_J61 hfu r0 s6 c7 f9 a1 a1 0 (by omega) (by omega) (by omega) r15 (2147483647 - a1) (by omega) (fun s' v1 c' f' w1 z0 pg => ih s' v1 c' f' w1 z0 (by omega)) hk
      · exact sj_X10_build_191T_J61 hfu r0 s6 c7 f9 a1 a1 1 (by omega) (by omega) (by omega) r15 (2147483647 - a1) (by omega) (fun s' v1 c' f' w1 z0 pg => ih s' v1 c' f' w1 z0 (by omega)) hk
theorem nr_X10_tie_191__193 (b : Int) : ¬ R_X10_tie_191 193 b := by
  unfold R_X10_tie_191; omega
theorem nr_X10_tie_191__215 (b : Int) : ¬ R_X10_tie_191 215 b := by
  unfold R_X10_tie_191; omega
theorem nr_X10_tie_191__8 (b : Int) : ¬ R_X10_tie_191 8 b := by
  unfold R_X10_tie_191; omega
theorem nr_X10_tie_191__12 (b : Int) : ¬ R_X10_tie_191 12 b := by
  unfold R_X10_tie_191; omega
theorem nr_X10_tie_191__14 (b : Int) : ¬ R_X10_tie_191 14 b := by
  unfold R_X10_tie_191; omega
theorem sf_X10_build_191T {fu : Nat} (hfu : 8589934592 ≤ fu) (r0 : z_M) (c0 : z_CI r0) : z_T (fX10_build fu r0 191) (P_X10_build_191T r0) := by
  refine T_of (fX10_build.eq_1 ..) ?_
  refine T_if1 (by decide +kernel) ?_
  refine T_useN (sf_X10_split_191T hfu r0 c0) (fun v6 s1 hq => ?_)
  obtain ⟨c2, f3, o7, rfl⟩ := hq
  refine T_vN ?_
  have f4 := z_Fr.tr (R := R_X10_build_191) z_Fr.rf f3 rs_X10_split_191__X10_build_191
  have u10 := CI_b c2 (k := 191) (j := 16) bd_191_16
  refine sl_X10_build_191T_L6 hfu r0 (fun s11 c12 f13 g14 => ?_) fu s1 0 c2 f4 (by omega) o7 (by omega)
  have u15 := CI_b c12 (k := 191) (j := 16) bd_191_16
  refine T_if1 (by decide +kernel) ?_
  refine T_useN (sf_X10_addUp_191 hfu s11 c12) (fun v21 s16 hq => ?_)
  obtain ⟨c17, f18, rfl⟩ := hq
  refine T_vN ?_
  have f19 := z_Fr.tr (R := R_X10_build_191) f13 f18 rs_X10_addUp_191__X10_build_191
  have t24 : s16 191 16 = s11 191 16 := f18 191 16 (by decide)
  have r25 := y_Uu.fr g14 (f18 191 16 (by decide)) (f18 6 6 (by decide)) (fun b => f18 195 b (nr_X10_addUp_191__195 b)) (fun b => f18 197 b (nr_X10_addUp_191__197 b)) (fun b => f18 193 b (nr_X10_addUp_191__193 b)) (fun b => f18 215 b (nr_X10_addUp_191__215 b)) (fun b => f18 8 b (nr_X10_addUp_191__8 b)) (fun b => f18 12 b (nr_X10_addUp_191__12 b)) (fun b => f18 14 b (nr_X10_addUp_191__14 b))
  refine T_if1 (by decide +kernel) ?_
  refine T_useN (sf_X10_pairUp_191 hfu s16 c17) (fun v31 s26 hq => ?_)
  obtain ⟨c27, f28, rfl⟩ := hq
  refine T_vN ?_
  have f29 := z_Fr.tr (R := R_X10_build_191) f19 f28 rs_X10_pairUp_191__X10_build_191
  have t34 : s26 191 16 = s16 191 16 := f28 191 16 (by decide)
  have r35 := y_Uu.fr r25 (f28 191 16 (by decide)) (f28 6 6 (by decide)) (fun b => f28 195 b (nr_X10_pairUp_191__195 b)) (fun b => f28 197 b (nr_X10_pairUp_191__197 b)) (fun b => f28 193 b (nr_X10_pairUp_191__193 b)) (fun b => f28 215 b (nr_X10_pairUp_191__215 b)) (fun b => f28 8 b (nr_X10_pairUp_191__8 b)) (fun b => f28 12 b (nr_X10_pairUp_191__12 b)) (fun b => f28 14 b (nr_X10_pairUp_191__14 b))
  refine sl_X10_build_191T_L35 hfu r0 (fun s36 c37 f38 g39 => ?_) fu s26 0 c27 f29 (by omega) r35 (by omega)
  have u40 := CI_b c37 (k := 191) (j := 16) bd_191_16
  refine T_if1 (by decide +kernel) ?_
  refine T_useN (sf_X10_tie_191 hfu s36 c37) (fun v46 s41 hq => ?_)
  obtain ⟨c42, f43, rfl⟩ := hq
  refine T_vN ?_
  have f44 := z_Fr.tr (R := R_X10_build_191) f38 f43 rs_X10_tie_191__X10_build_191
  have t49 : s41 191 16 = s36 191 16 := f43 191 16 (by decide)
  have r50 := y_Uu.fr g39 (f43 191 16 (by decide)) (f43 6 6 (by decide)) (fun b => f43 195 b (nr_X10_tie_191__195 b)) (fun b => f43 197 b (nr_X10_tie_191__197 b)) (fun b => f43 193 b (nr_X10_tie_191__193 b)) (fun b => f43 215 b (nr_X10_tie_191__215 b)) (fun b => f43 8 b (nr_X10_tie_191__8 b)) (fun b => f43 12 b (nr_X10_tie_191__12 b)) (fun b => f43 14 b (nr_X10_tie_191__14 b))
  exact T_ret ⟨c42, f44, r50, rfl⟩
abbrev P_X11_tapeNumber_1T (r0 : z_M) : z_V → z_M → Prop := fun v s' => z_CI s' ∧ z_Fr R_X11_tapeNumber_1 r0 s' ∧ (s' 1 12 = r0 1 12 + 4) ∧ (y_V16 s') ∧ (v = vN)
theorem sl_X11_tapeNumber_1T_L3 {fu : Nat} (hfu : 8589934592 ≤ fu) (r0 : z_M) (a1 : Int) (b1 : -2147483648 ≤ a1 ∧ a1 ≤ 2147483647) (q0 : r0 1 12 ≤ 296) {k : z_M → z_O} (hk : ∀ (s' : z_M), z_CI s' → z_Fr R_X11_tapeNumber_1 r0 s' → (8 * s' 1 12 = 8 * r0 1 12 + 32) → (y_V16 s') → z_T (k s') (P_X11_tapeNumber_1T r0)) : ∀ (F : Nat) (s : z_M) (a2 : Int), z_CI s → z_Fr R_X11_tapeNumber_1 r0 s → ((-8) ≤ a2 ∧ a2 ≤ 24) → (8 * s 1 12 + a2 = 8 * r0 1 12 + 24) → (y_V16 s) → (a2 + 2147483648 < (F : Int)) → z_T (fX11_tapeNumber_L3 fu 1 a1 F s a2 k) (P_X11_tapeNumber_1T r0) := by
  intro F
  induction F with
  | zero =>
    intro s a2 c f b2 i0 i1 hm
    have u38 := CI_b c (k := 1) (j := 12) bd_1_12
    have u39 := CI_b c (k := 1) (j := 16) bd_1_16
    exfalso; omega
  | succ F ih =>
    intro s a2 c f b2 i0 i1 hm
    refine T_of (fX11_tapeNumber_L3.eq_2 ..) ?_
    have u1 := CI_b c (k := 1) (j := 12) bd_1_12
    have u2 := CI_b c (k := 1) (j := 16) bd_1_16
    refine T_ite (fun h3 => ?_) (fun h3 => ?_)
    · exact hk s c f (by omega) i1
    · refine T_if1 (by decide +kernel) ?_
      refine T_let 4 (by decide +kernel) ?_
      refine T_if1 (by decide +kernel) ?_
      refine T_leq (fun x4 e5 => ?_)
      have u6 := CI_b c (k := 1) (j := 12) bd_1_12
      refine T_leq (fun x7 e8 => ?_)
      have w9 : -2147483648 ≤ x7 ∧ x7 ≤ 2147483647 := by rw [← e8]; exact z_i32b _
      refine T_leq (fun x10 e11 => ?_)
      have w12 : -2147483648 ≤ x10 ∧ x10 ≤ 2147483647 := by rw [← e11]; exact z_i32b _
      refine T_if1 (by decide +kernel) ?_
      refine T_put (by decide +kernel) (c := 5) (by decide +kernel) bdr_5 (by omega) c (fun s13 e16 c14 g17 => ?_)
      have f15 := z_Fr.up (R := R_X11_tapeNumber_1) f g17 (fun _ => (Or.inl (⟨by decide, by decide⟩)))
      have t18 : s13 1 12 = s 1 12 := g17 1 12 (by decide)
      have t19 : s13 1 16 = s 1 16 := g17 1 16 (by decide)
      have r20 := y_V16.fr i1 (g17 1 16 (by decide)) (g17 191 16 (by decide)) (g17 6 6 (by decide)) (fun b => g17 195 b (by decide)) (fun b => g17 197 b (by decide)) (fun b => g17 193 b (by decide)) (fun b => g17 215 b (by decide)) (fun b => g17 8 b (by decide)) (fun b => g17 12 b (by decide)) (fun b => g17 14 b (by decide))
      refine T_if1 (by decide +kernel) ?_
      refine T_leq (fun x21 e22 => ?_)
      have u23 := CI_b c14 (k := 1) (j := 12) bd_1_12
      refine T_leq (fun x24 e25 => ?_)
      have w26 := z_wb e25
      refine T_if1 (by decide +kernel) ?_
      refine T_upg c14 bd_1_12 (by omega) (fun s27 c28 g30 g31 e32 => ?_)
      have f29 := z_Fr.upf (R := R_X11_tapeNumber_1) f15 g30 g31 (Or.inr (⟨rfl, by decide⟩))
      have t33 : s27 1 16 = s13 1 16 := g31 16 (by decide)
      have r34 := y_V16.fr r20 (g31 16 (by decide)) (g30 191 16 (by decide)) (g30 6 6 (by decide)) (fun b => g30 195 b (by decide)) (fun b => g30 197 b (by decide)) (fun b => g30 193 b (by decide)) (fun b => g30 215 b (by decide)) (fun b => g30 8 b (by decide)) (fun b => g30 12 b (by decide)) (fun b => g30 14 b (by decide))
      refine T_leq (fun x35 e36 => ?_)
      have w37 := z_wb e36
      exact ih s27 x35 c28 f29 (by omega) (by omega) r34 (by omega)
theorem sf_X11_tapeNumber_1T {fu : Nat} (hfu : 8589934592 ≤ fu) (r0 : z_M) (c0 : z_CI r0) (a1 : Int) (b1 : -2147483648 ≤ a1 ∧ a1 ≤ 2147483647) (p0 : r0 1 12 ≤ 296) (p1 : y_V16 r0) : z_T (fX11_tapeNumber fu r0 1 a1) (P_X11_tapeNumber_1T r0) := by
  refine T_of (fX11_tapeNumber.eq_1 ..) ?_
  refine sl_X11_tapeNumber_1T_L3 hfu r0 a1 (by omega) (by omega) (fun s1 c2 f3 g4 g5 => ?_) fu r0 24 c0 z_Fr.rf (by omega) (by omega) p1 (by omega)
  have u6 := CI_b c2 (k := 1) (j := 12) bd_1_12
  have u7 := CI_b c2 (k := 1) (j := 16) bd_1_16
  exact T_ret ⟨c2, f3, by omega, g5, rfl⟩
abbrev P_X11_feed_1T (r0 : z_M) : z_V → z_M → Prop := fun v s' => z_CI s' ∧ z_Fr R_X11_feed_1 r0 s' ∧ (y_V16 s') ∧ (∃ x, v = vI x ∧ -2147483648 ≤ x ∧ x ≤ 2147483647 ∧ ((r0 1 12 ≤ 280 ∧ s' 1 12 = r0 1 12 + 20 ∧ x = r0 1 12 + 20) ∨ (280 < r0 1 12 ∧ x = -1 ∧ s' 1 12 = r0 1 12)))
theorem nr_X11_tapeNumber_1__193 (b : Int) : ¬ R_X11_tapeNumber_1 193 b := by
  unfold R_X11_tapeNumber_1; omega
theorem nr_X11_tapeNumber_1__215 (b : Int) : ¬ R_X11_tapeNumber_1 215 b := by
  unfold R_X11_tapeNumber_1; omega
theorem nr_X11_tapeNumber_1__8 (b : Int) : ¬ R_X11_tapeNumber_1 8 b := by
  unfold R_X11_tapeNumber_1; omega
theorem nr_X11_tapeNumber_1__12 (b : Int) : ¬ R_X11_tapeNumber_1 12 b := by
  unfold R_X11_tapeNumber_1; omega
theorem nr_X11_tapeNumber_1__14 (b : Int) : ¬ R_X11_tapeNumber_1 14 b := by
  unfold R_X11_tapeNumber_1; omega
theorem sf_X11_feed_1T {fu : Nat} (hfu : 8589934592 ≤ fu) (r0 : z_M) (c0 : z_CI r0) (a1 : Int) (a2 : Int) (a3 : Int) (a4 : Int) (a5 : Int) (b1 : -2147483648 ≤ a1 ∧ a1 ≤ 2147483647) (b2 : -2147483648 ≤ a2 ∧ a2 ≤ 2147483647) (b3 : -2147483648 ≤ a3 ∧ a3 ≤ 2147483647) (b4 : -2147483648 ≤ a4 ∧ a4 ≤ 2147483647) (b5 : -2147483648 ≤ a5 ∧ a5 ≤ 2147483647) (p0 : y_V16 r0) : z_T (fX11_feed fu r0 1 a1 a2 a3 a4 a5) (P_X11_feed_1T r0) := by
  refine T_of (fX11_feed.eq_1 ..) ?_
  refine T_if1 (by decide +kernel) ?_
  refine T_leq (fun x1 e2 => ?_)
  have u3 := CI_b c0 (k := 1) (j := 12) bd_1_12
  refine T_ite (fun h4 => ?_) (fun h4 => ?_)
  · refine T_if1 (by decide +kernel) ?_
    refine T_useN (sf_X11_tapeNumber_1T hfu r0 c0 a1 (by omega) (by omega) p0) (fun v10 s5 hq => ?_)
    obtain ⟨c6, f7, o11, o12, rfl⟩ := hq
    refine T_vN ?_
    have f8 := z_Fr.tr (R := R_X11_feed_1) z_Fr.rf f7 rs_X11_tapeNumber_1__X11_feed_1
    have u15 := CI_b c6 (k := 1) (j := 12) bd_1_12
    have r16 := y_V16.fr p0 (f7 1 16 (by decide)) (f7 191 16 (by decide)) (f7 6 6 (by decide)) (fun b => f7 195 b (nr_X11_tapeNumber_1__195 b)) (fun b => f7 197 b (nr_X11_tapeNumber_1__197 b)) (fun b => f7 193 b (nr_X11_tapeNumber_1__193 b)) (fun b => f7 215 b (nr_X11_tapeNumber_1__215 b)) (fun b => f7 8 b (nr_X11_tapeNumber_1__8 b)) (fun b => f7 12 b (nr_X11_tapeNumber_1__12 b)) (fun b => f7 14 b (nr_X11_tapeNumber_1__14 b))
    refine T_if1 (by decide +kernel) ?_
    refine T_useN (sf_X11_tapeNumber_1T hfu s5 c6 a2 (by omega) (by omega) o12) (fun v22 s17 hq => ?_)
    obtain ⟨c18, f19, o23, o24, rfl⟩ := hq
    refine T_vN ?_
    have f20 := z_Fr.tr (R := R_X11_feed_1) f8 f19 rs_X11_tapeNumber_1__X11_feed_1
    have u27 := CI_b c18 (k := 1) (j := 12) bd_1_12
    have r28 := y_V16.fr o12 (f19 1 16 (by decide)) (f19 191 16 (by decide)) (f19 6 6 (by decide)) (fun b => f19 195 b (nr_X11_tapeNumber_1__195 b)) (fun b => f19 197 b (nr_X11_tapeNumber_1__197 b)) (fun b => f19 193 b (nr_X11_tapeNumber_1__193 b)) (fun b => f19 215 b (nr_X11_tapeNumber_1__215 b)) (fun b => f19 8 b (nr_X11_tapeNumber_1__8 b)) (fun b => f19 12 b (nr_X11_tapeNumber_1__12 b)) (fun b => f19 14 b (nr_X11_tapeNumber_1__14 b))
    refine T_if1 (by decide +kernel) ?_
    refine T_useN (sf_X11_tapeNumber_1T hfu s17 c18 a3 (by omega) (by omega) o24) (fun v34 s29 hq => ?_)
    obtain ⟨c30, f31, o35, o36, rfl⟩ := hq
    refine T_vN ?_
    have f32 := z_Fr.tr (R := R_X11_feed_1) f20 f31 rs_X11_tapeNumber_1__X11_feed_1
    have u39 := CI_b c30 (k := 1) (j := 12) bd_1_12
    have r40 := y_V16.fr o24 (f31 1 16 (by decide)) (f31 191 16 (by decide)) (f31 6 6 (by decide)) (fun b => f31 195 b (nr_X11_tapeNumber_1__195 b)) (fun b => f31 197 b (nr_X11_tapeNumber_1__197 b)) (fun b => f31 193 b (nr_X11_tapeNumber_1__193 b)) (fun b => f31 215 b (nr_X11_tapeNumber_1__215 b)) (fun b => f31 8 b (nr_X11_tapeNumber_1__8 b)) (fun b => f31 12 b (nr_X11_tapeNumber_1__12 b)) (fun b => f31 14 b (nr_X11_tapeNumber_1__14 b))
    refine T_if1 (by decide +kernel) ?_
    refine T_useN (sf_X11_tapeNumber_1T hfu s29 c30 a4 (by omega) (by omega) o36) (fun v46 s41 hq => ?_)
    obtain ⟨c42, f43, o47, o48, rfl⟩ := hq
    refine T_vN ?_
    have f44 := z_Fr.tr (R := R_X11_feed_1) f32 f43 rs_X11_tapeNumber_1__X11_feed_1
    have u51 := CI_b c42 (k := 1) (j := 12) bd_1_12
    have r52 := y_V16.fr o36 (f43 1 16 (by decide)) (f43 191 16 (by decide)) (f43 6 6 (by decide)) (fun b => f43 195 b (nr_X11_tapeNumber_1__195 b)) (fun b => f43 197 b (nr_X11_tapeNumber_1__197 b)) (fun b => f43 193 b (nr_X11_tapeNumber_1__193 b)) (fun b => f43 215 b (nr_X11_tapeNumber_1__215 b)) (fun b => f43 8 b (nr_X11_tapeNumber_1__8 b)) (fun b => f43 12 b (nr_X11_tapeNumber_1__12 b)) (fun b => f43 14 b (nr_X11_tapeNumber_1__14 b))
    refine T_if1 (by decide +kernel) ?_
    refine T_useN (sf_X11_tapeNumber_1T hfu s41 c42 a5 (by omega) (by omega) o48) (fun v58 s53 hq => ?_)
    obtain ⟨c54, f55, o59, o60, rfl⟩ := hq
    refine T_vN ?_
    have f56 := z_Fr.tr (R := R_X11_feed_1) f44 f55 rs_X11_tapeNumber_1__X11_feed_1
    have u63 := CI_b c54 (k := 1) (j := 12) bd_1_12
    have r64 := y_V16.fr o48 (f55 1 16 (by decide)) (f55 191 16 (by decide)) (f55 6 6 (by decide)) (fun b => f55 195 b (nr_X11_tapeNumber_1__195 b)) (fun b => f55 197 b (nr_X11_tapeNumber_1__197 b)) (fun b => f55 193 b (nr_X11_tapeNumber_1__193 b)) (fun b => f55 215 b (nr_X11_tapeNumber_1__215 b)) (fun b => f55 8 b (nr_X11_tapeNumber_1__8 b)) (fun b => f55 12 b (nr_X11_tapeNumber_1__12 b)) (fun b => f55 14 b (nr_X11_tapeNumber_1__14 b))
    refine T_if1 (by decide +kernel) ?_
    refine T_leq (fun x65 e66 => ?_)
    have u67 := CI_b c54 (k := 1) (j := 12) bd_1_12
    exact T_ret ⟨c54, f56, o60, ⟨x65, rfl, by omega, by omega, by omega⟩⟩
  · exact T_ret ⟨c0, z_Fr.rf, p0, ⟨(-1), rfl, by omega, by omega, by omega⟩⟩
abbrev P_X11_readTape_1T (r0 : z_M) : z_V → z_M → Prop := fun v s' => z_CI s' ∧ z_Fr R_X11_readTape_1 r0 s' ∧ (y_V16 s') ∧ (s' 1 12 = 0) ∧ (∃ x, v = vI x ∧ -2147483648 ≤ x ∧ x ≤ 2147483647)
theorem nr_X6_read_32_4__193 (b : Int) : ¬ R_X6_read_32_4 193 b := by
  unfold R_X6_read_32_4; omega
theorem nr_X6_read_32_4__215 (b : Int) : ¬ R_X6_read_32_4 215 b := by
  unfold R_X6_read_32_4; omega
theorem nr_X6_read_32_4__8 (b : Int) : ¬ R_X6_read_32_4 8 b := by
  unfold R_X6_read_32_4; omega
theorem nr_X6_read_32_4__12 (b : Int) : ¬ R_X6_read_32_4 12 b := by
  unfold R_X6_read_32_4; omega
theorem nr_X6_read_32_4__14 (b : Int) : ¬ R_X6_read_32_4 14 b := by
  unfold R_X6_read_32_4; omega
theorem sj_X11_readTape_1T_J68 {fu : Nat} (hfu : 8589934592 ≤ fu) (r0 s : z_M) (c : z_CI s) (f : z_Fr R_X11_readTape_1 r0 s) (a2 : Int) (b2 : -2147483648 ≤ a2 ∧ a2 ≤ 2147483647) (p0 : s 1 12 = 0) (p1 : y_V16 s) : z_T (fX11_readTape_J68 fu s a2) (P_X11_readTape_1T r0) := by
  refine T_of (fX11_readTape_J68.eq_1 ..) ?_
  have u1 := CI_b c (k := 1) (j := 12) bd_1_12
  have u2 := CI_b c (k := 32) (j := 7) bd_32_7
  exact T_ret ⟨c, f, p1, by omega, ⟨a2, rfl, by omega, by omega⟩⟩
theorem nr_X2_keep_33_6__193 (b : Int) : ¬ R_X2_keep_33_6 193 b := by
  unfold R_X2_keep_33_6; omega
theorem nr_X2_keep_33_6__215 (b : Int) : ¬ R_X2_keep_33_6 215 b := by
  unfold R_X2_keep_33_6; omega
theorem nr_X2_keep_33_6__8 (b : Int) : ¬ R_X2_keep_33_6 8 b := by
  unfold R_X2_keep_33_6; omega
theorem nr_X2_keep_33_6__12 (b : Int) : ¬ R_X2_keep_33_6 12 b := by
  unfold R_X2_keep_33_6; omega
theorem nr_X2_keep_33_6__14 (b : Int) : ¬ R_X2_keep_33_6 14 b := by
  unfold R_X2_keep_33_6; omega
theorem nr_X9_copyFrom_6_19__193 (b : Int) : ¬ R_X9_copyFrom_6_19 193 b := by
  unfold R_X9_copyFrom_6_19; omega
theorem nr_X9_copyFrom_6_19__215 (b : Int) : ¬ R_X9_copyFrom_6_19 215 b := by
  unfold R_X9_copyFrom_6_19; omega
theorem sj_X11_readTape_1T_J29 {fu : Nat} (hfu : 8589934592 ≤ fu) (r0 s : z_M) (c : z_CI s) (f : z_Fr R_X11_readTape_1 r0 s) (a2 : Int) (t1 : Int) (b2 : -2147483648 ≤ a2 ∧ a2 ≤ 2147483647) (d1 : -2147483648 ≤ t1 ∧ t1 ≤ 2147483647) (p0 : y_V16 s) : z_T (fX11_readTape_J29 fu s 1 a2 1 t1) (P_X11_readTape_1T r0) := by
  refine T_of (fX11_readTape_J29.eq_1 ..) ?_
  have u1 := CI_b c (k := 1) (j := 12) bd_1_12
  have u2 := CI_b c (k := 32) (j := 7) bd_32_7
  refine T_if1 (by decide +kernel) ?_
  refine T_upg c bd_1_13 (by omega) (fun s3 c4 g6 g7 e8 => ?_)
  have f5 := z_Fr.upf (R := R_X11_readTape_1) f g6 g7 (Or.inr (Or.inr (Or.inl (⟨rfl, by decide⟩))))
  have t9 : s3 1 12 = s 1 12 := g7 12 (by decide)
  have t10 : s3 32 7 = s 32 7 := g6 32 7 (by decide)
  have r11 := y_V16.fr p0 (g7 16 (by decide)) (g6 191 16 (by decide)) (g6 6 6 (by decide)) (fun b => g6 195 b (by decide)) (fun b => g6 197 b (by decide)) (fun b => g6 193 b (by decide)) (fun b => g6 215 b (by decide)) (fun b => g6 8 b (by decide)) (fun b => g6 12 b (by decide)) (fun b => g6 14 b (by decide))
  refine T_if1 (by decide +kernel) ?_
  refine T_upg c4 bd_1_12 (by omega) (fun s12 c13 g15 g16 e17 => ?_)
  have f14 := z_Fr.upf (R := R_X11_readTape_1) f5 g15 g16 (Or.inr (Or.inr (Or.inl (⟨rfl, by decide⟩))))
  have t18 : s12 32 7 = s3 32 7 := g15 32 7 (by decide)
  have r19 := y_V16.fr r11 (g16 16 (by decide)) (g15 191 16 (by decide)) (g15 6 6 (by decide)) (fun b => g15 195 b (by decide)) (fun b => g15 197 b (by decide)) (fun b => g15 193 b (by decide)) (fun b => g15 215 b (by decide)) (fun b => g15 8 b (by decide)) (fun b => g15 12 b (by decide)) (fun b => g15 14 b (by decide))
  refine T_ite (fun h20 => ?_) (fun h20 => ?_)
  · exact sj_X11_readTape_1T_J68 hfu r0 s12 c13 f14 a2 (by omega) (by omega) r19
  · refine T_if1 (by decide +kernel) ?_
    refine T_let 33 (by decide +kernel) ?_
    refine T_if1 (by decide +kernel) ?_
    refine T_let 6 (by decide +kernel) ?_
    refine T_if1 (by decide +kernel) ?_
    refine T_useN (sf_X2_keep_33_6 hfu s12 c13) (fun v26 s21 hq => ?_)
    obtain ⟨c22, f23, rfl⟩ := hq
    refine T_vN ?_
    have f24 := z_Fr.tr (R := R_X11_readTape_1) f14 f23 rs_X2_keep_33_6__X11_readTape_1
    have t29 : s21 1 12 = s12 1 12 := f23 1 12 (by decide)
    have t30 : s21 32 7 = s12 32 7 := f23 32 7 (by decide)
    have r31 := y_V16.fr r19 (f23 1 16 (by decide)) (f23 191 16 (by decide)) (f23 6 6 (by decide)) (fun b => f23 195 b (nr_X2_keep_33_6__195 b)) (fun b => f23 197 b (nr_X2_keep_33_6__197 b)) (fun b => f23 193 b (nr_X2_keep_33_6__193 b)) (fun b => f23 215 b (nr_X2_keep_33_6__215 b)) (fun b => f23 8 b (nr_X2_keep_33_6__8 b)) (fun b => f23 12 b (nr_X2_keep_33_6__12 b)) (fun b => f23 14 b (nr_X2_keep_33_6__14 b))
    refine T_if1 (by decide +kernel) ?_
    refine T_let 6 (by decide +kernel) ?_
    refine T_if1 (by decide +kernel) ?_
    refine T_let 19 (by decide +kernel) ?_
    refine T_if1 (by decide +kernel) ?_
    refine T_useN (sf_X9_copyFrom_6_19 hfu s21 c22) (fun v37 s32 hq => ?_)
    obtain ⟨c33, f34, rfl⟩ := hq
    refine T_vN ?_
    have f35 := z_Fr.tr (R := R_X11_readTape_1) f24 f34 rs_X9_copyFrom_6_19__X11_readTape_1
    have t40 : s32 1 12 = s21 1 12 := f34 1 12 (by decide)
    have t41 : s32 32 7 = s21 32 7 := f34 32 7 (by decide)
    refine T_if1 ⟨(by decide +kernel), by unfold z_bl; omega⟩ ?_
    refine T_upg c33 bd_1_16 (by omega) (fun s42 c43 g45 g46 e47 => ?_)
    have f44 := z_Fr.upf (R := R_X11_readTape_1) f35 g45 g46 (Or.inr (Or.inr (Or.inl (⟨rfl, by decide⟩))))
    have t48 : s42 1 12 = s32 1 12 := g46 12 (by decide)
    have t49 : s42 32 7 = s32 32 7 := g45 32 7 (by decide)
    exact sj_X11_readTape_1T_J68 hfu r0 s42 c43 f44 a2 (by omega) (by omega) (Or.inl (by omega))
theorem sf_X11_readTape_1T {fu : Nat} (hfu : 8589934592 ≤ fu) (r0 : z_M) (c0 : z_CI r0) (a1 : Int) (b1 : -2147483648 ≤ a1 ∧ a1 ≤ 2147483647) (p0 : y_V16 r0) : z_T (fX11_readTape fu r0 1 a1) (P_X11_readTape_1T r0) := by
  refine T_of (fX11_readTape.eq_1 ..) ?_
  refine T_if1 (by decide +kernel) ?_
  refine T_let 32 (by decide +kernel) ?_
  refine T_if1 (by decide +kernel) ?_
  refine T_let 4 (by decide +kernel) ?_
  refine T_if1 (by decide +kernel) ?_
  refine T_useI (sf_X6_read_32_4 hfu r0 c0 a1 (by omega)) (fun v6 s1 hq => ?_)
  obtain ⟨c2, f3, ⟨x5, rfl, b7, b8⟩⟩ := hq
  refine T_vI ?_
  have f4 := z_Fr.tr (R := R_X11_readTape_1) z_Fr.rf f3 rs_X6_read_32_4__X11_readTape_1
  have t9 : s1 1 12 = r0 1 12 := f3 1 12 (by decide)
  have u10 := CI_b c2 (k := 32) (j := 7) bd_32_7
  have r11 := y_V16.fr p0 (f3 1 16 (by decide)) (f3 191 16 (by decide)) (f3 6 6 (by decide)) (fun b => f3 195 b (nr_X6_read_32_4__195 b)) (fun b => f3 197 b (nr_X6_read_32_4__197 b)) (fun b => f3 193 b (nr_X6_read_32_4__193 b)) (fun b => f3 215 b (nr_X6_read_32_4__215 b)) (fun b => f3 8 b (nr_X6_read_32_4__8 b)) (fun b => f3 12 b (nr_X6_read_32_4__12 b)) (fun b => f3 14 b (nr_X6_read_32_4__14 b))
  refine T_ite (fun h12 => ?_) (fun h12 => ?_)
  · refine T_if1 (by decide +kernel) ?_
    refine T_let 32 (by decide +kernel) ?_
    refine T_if1 (by decide +kernel) ?_
    refine T_leq (fun x13 e14 => ?_)
    have u15 := CI_b c2 (k := 32) (j := 7) bd_32_7
    exact sj_X11_readTape_1T_J29 hfu r0 s1 c2 f4 x5 x13 (by omega) (by omega) r11
  · exact sj_X11_readTape_1T_J29 hfu r0 s1 c2 f4 x5 (-1) (by omega) (by omega) r11
abbrev P_X11_refresh_1T (r0 : z_M) : z_V → z_M → Prop := fun v s' => z_CI s' ∧ z_Fr R_X11_refresh_1 r0 s' ∧ (y_Uu s') ∧ (v = vN)
theorem sj_X11_refresh_1T_J78 {fu : Nat} (hfu : 8589934592 ≤ fu) (r0 s : z_M) (c : z_CI s) (f : z_Fr R_X11_refresh_1 r0 s) (p0 : y_Uu s) : z_T (fX11_refresh_J78 fu s) (P_X11_refresh_1T r0) := by
  refine T_of (fX11_refresh_J78.eq_1 ..) ?_
  have u1 := CI_b c (k := 1) (j := 16) bd_1_16
  have u2 := CI_b c (k := 1) (j := 17) bd_1_17
  exact T_ret ⟨c, f, p0, rfl⟩
theorem nr_X1_go_240__193 (b : Int) : ¬ R_X1_go_240 193 b := by
  unfold R_X1_go_240; omega
theorem nr_X1_go_240__215 (b : Int) : ¬ R_X1_go_240 215 b := by
  unfold R_X1_go_240; omega
theorem nr_X1_go_240__8 (b : Int) : ¬ R_X1_go_240 8 b := by
  unfold R_X1_go_240; omega
theorem nr_X1_go_240__12 (b : Int) : ¬ R_X1_go_240 12 b := by
  unfold R_X1_go_240; omega
theorem nr_X1_go_240__14 (b : Int) : ¬ R_X1_go_240 14 b := by
  unfold R_X1_go_240; omega
theorem nr_X3_build_258__193 (b : Int) : ¬ R_X3_build_258 193 b := by
  unfold R_X3_build_258; omega
theorem nr_X3_build_258__215 (b : Int) : ¬ R_X3_build_258 215 b := by
  unfold R_X3_build_258; omega
theorem nr_X3_build_258__8 (b : Int) : ¬ R_X3_build_258 8 b := by
  unfold R_X3_build_258; omega
theorem nr_X3_build_258__12 (b : Int) : ¬ R_X3_build_258 12 b := by
  unfold R_X3_build_258; omega
theorem nr_X3_build_258__14 (b : Int) : ¬ R_X3_build_258 14 b := by
  unfold R_X3_build_258; omega
theorem sj_X11_refresh_1T_J31 {fu : Nat} (hfu : 8589934592 ≤ fu) (r0 s : z_M) (c : z_CI s) (f : z_Fr R_X11_refresh_1 r0 s) (p0 : y_Uu s) : z_T (fX11_refresh_J31 fu s 1) (P_X11_refresh_1T r0) := by
  refine T_of (fX11_refresh_J31.eq_1 ..) ?_
  have u1 := CI_b c (k := 1) (j := 16) bd_1_16
  have u2 := CI_b c (k := 1) (j := 17) bd_1_17
  refine T_if1 (by decide +kernel) ?_
  refine T_leq (fun x3 e4 => ?_)
  have u5 := CI_b c (k := 1) (j := 17) bd_1_17
  refine T_ite (fun h6 => ?_) (fun h6 => ?_)
  · exact sj_X11_refresh_1T_J78 hfu r0 s c f p0
  · refine T_if1 (by decide +kernel) ?_
    refine T_let 240 (by decide +kernel) ?_
    refine T_if1 (by decide +kernel) ?_
    refine T_let 2 (by decide +kernel) ?_
    refine T_if1 (by decide +kernel) ?_
    refine T_get (by decide +kernel) (c := 3) (by decide +kernel) bdr_3 (by decide) c (fun x7 e8 b9 w10 => ?_)
    have l11 : z_ln 2 = 9 := by decide +kernel
    refine T_if1 (by decide +kernel) ?_
    refine T_let 2 (by decide +kernel) ?_
    refine T_if1 (by decide +kernel) ?_
    refine T_get (by decide +kernel) (c := 3) (by decide +kernel) bdr_3 (by decide) c (fun x12 e13 b14 w15 => ?_)
    have l16 : z_ln 2 = 9 := by decide +kernel
    refine T_if1 (by decide +kernel) ?_
    refine T_useN (sf_X1_go_240 hfu s c x7 x12 (by omega) (by omega)) (fun v22 s17 hq => ?_)
    obtain ⟨c18, f19, rfl⟩ := hq
    refine T_vN ?_
    have f20 := z_Fr.tr (R := R_X11_refresh_1) f f19 rs_X1_go_240__X11_refresh_1
    have t25 : s17 1 16 = s 1 16 := f19 1 16 (by decide)
    have t26 : s17 1 17 = s 1 17 := f19 1 17 (by decide)
    have r27 := y_Uu.fr p0 (f19 191 16 (by decide)) (f19 6 6 (by decide)) (fun b => f19 195 b (nr_X1_go_240__195 b)) (fun b => f19 197 b (nr_X1_go_240__197 b)) (fun b => f19 193 b (nr_X1_go_240__193 b)) (fun b => f19 215 b (nr_X1_go_240__215 b)) (fun b => f19 8 b (nr_X1_go_240__8 b)) (fun b => f19 12 b (nr_X1_go_240__12 b)) (fun b => f19 14 b (nr_X1_go_240__14 b))
    refine T_if1 (by decide +kernel) ?_
    refine T_let 258 (by decide +kernel) ?_
    refine T_if1 (by decide +kernel) ?_
    refine T_useN (sf_X3_build_258 hfu s17 c18) (fun v33 s28 hq => ?_)
    obtain ⟨c29, f30, rfl⟩ := hq
    refine T_vN ?_
    have f31 := z_Fr.tr (R := R_X11_refresh_1) f20 f30 rs_X3_build_258__X11_refresh_1
    have t36 : s28 1 16 = s17 1 16 := f30 1 16 (by decide)
    have t37 : s28 1 17 = s17 1 17 := f30 1 17 (by decide)
    have r38 := y_Uu.fr r27 (f30 191 16 (by decide)) (f30 6 6 (by decide)) (fun b => f30 195 b (nr_X3_build_258__195 b)) (fun b => f30 197 b (nr_X3_build_258__197 b)) (fun b => f30 193 b (nr_X3_build_258__193 b)) (fun b => f30 215 b (nr_X3_build_258__215 b)) (fun b => f30 8 b (nr_X3_build_258__8 b)) (fun b => f30 12 b (nr_X3_build_258__12 b)) (fun b => f30 14 b (nr_X3_build_258__14 b))
    refine T_if1 ⟨(by decide +kernel), by unfold z_bl; omega⟩ ?_
    refine T_upg c29 bd_1_17 (by omega) (fun s39 c40 g42 g43 e44 => ?_)
    have f41 := z_Fr.upf (R := R_X11_refresh_1) f31 g42 g43 (Or.inr (Or.inr (Or.inr (Or.inr (Or.inr (Or.inr (Or.inr (Or.inl (⟨rfl, by decide⟩)))))))))
    have t45 : s39 1 16 = s28 1 16 := g43 16 (by decide)
    have r46 := y_Uu.fr r38 (g42 191 16 (by decide)) (g42 6 6 (by decide)) (fun b => g42 195 b (by decide)) (fun b => g42 197 b (by decide)) (fun b => g42 193 b (by decide)) (fun b => g42 215 b (by decide)) (fun b => g42 8 b (by decide)) (fun b => g42 12 b (by decide)) (fun b => g42 14 b (by decide))
    refine T_if1 ⟨(by decide +kernel), by unfold z_bl; omega⟩ ?_
    refine T_upg c40 bd_1_18 (by omega) (fun s47 c48 g50 g51 e52 => ?_)
    have f49 := z_Fr.upf (R := R_X11_refresh_1) f41 g50 g51 (Or.inr (Or.inr (Or.inr (Or.inr (Or.inr (Or.inr (Or.inr (Or.inl (⟨rfl, by decide⟩)))))))))
    have t53 : s47 1 16 = s39 1 16 := g51 16 (by decide)
    have t54 : s47 1 17 = s39 1 17 := g51 17 (by decide)
    have r55 := y_Uu.fr r46 (g50 191 16 (by decide)) (g50 6 6 (by decide)) (fun b => g50 195 b (by decide)) (fun b => g50 197 b (by decide)) (fun b => g50 193 b (by decide)) (fun b => g50 215 b (by decide)) (fun b => g50 8 b (by decide)) (fun b => g50 12 b (by decide)) (fun b => g50 14 b (by decide))
    exact sj_X11_refresh_1T_J78 hfu r0 s47 c48 f49 r55
theorem nr_X10_build_191__8 (b : Int) : ¬ R_X10_build_191 8 b := by
  unfold R_X10_build_191; omega
theorem nr_X10_build_191__12 (b : Int) : ¬ R_X10_build_191 12 b := by
  unfold R_X10_build_191; omega
theorem nr_X10_build_191__14 (b : Int) : ¬ R_X10_build_191 14 b := by
  unfold R_X10_build_191; omega
theorem nr_X5_forget_220__193 (b : Int) : ¬ R_X5_forget_220 193 b := by
  unfold R_X5_forget_220; omega
theorem nr_X5_forget_220__215 (b : Int) : ¬ R_X5_forget_220 215 b := by
  unfold R_X5_forget_220; omega
theorem nr_X5_forget_220__8 (b : Int) : ¬ R_X5_forget_220 8 b := by
  unfold R_X5_forget_220; omega
theorem nr_X5_forget_220__12 (b : Int) : ¬ R_X5_forget_220 12 b := by
  unfold R_X5_forget_220; omega
theorem nr_X5_forget_220__14 (b : Int) : ¬ R_X5_forget_220 14 b := by
  unfold R_X5_forget_220; omega
theorem sf_X11_refresh_1T {fu : Nat} (hfu : 8589934592 ≤ fu) (r0 : z_M) (c0 : z_CI r0) (p0 : y_V16 r0) : z_T (fX11_refresh fu r0 1) (P_X11_refresh_1T r0) := by
  refine T_of (fX11_refresh.eq_1 ..) ?_
  refine T_if1 (by decide +kernel) ?_
  refine T_leq (fun x1 e2 => ?_)
  have u3 := CI_b c0 (k := 1) (j := 16) bd_1_16
  refine T_ite (fun h4 => ?_) (fun h4 => ?_)
  · exact sj_X11_refresh_1T_J31 hfu r0 r0 c0 z_Fr.rf (Or.resolve_left p0 (by omega))
  · refine T_if1 (by decide +kernel) ?_
    refine T_let 191 (by decide +kernel) ?_
    refine T_if1 (by decide +kernel) ?_
    refine T_useN (sf_X10_build_191T hfu r0 c0) (fun v10 s5 hq => ?_)
    obtain ⟨c6, f7, o11, rfl⟩ := hq
    refine T_vN ?_
    have f8 := z_Fr.tr (R := R_X11_refresh_1) z_Fr.rf f7 rs_X10_build_191__X11_refresh_1
    have t14 : s5 1 16 = r0 1 16 := f7 1 16 (by decide)
    have t15 : s5 1 17 = r0 1 17 := f7 1 17 (by decide)
    refine T_if1 (by decide +kernel) ?_
    refine T_let 220 (by decide +kernel) ?_
    refine T_if1 (by decide +kernel) ?_
    refine T_useN (sf_X5_forget_220 hfu s5 c6) (fun v21 s16 hq => ?_)
    obtain ⟨c17, f18, rfl⟩ := hq
    refine T_vN ?_
    have f19 := z_Fr.tr (R := R_X11_refresh_1) f8 f18 rs_X5_forget_220__X11_refresh_1
    have t24 : s16 1 16 = s5 1 16 := f18 1 16 (by decide)
    have t25 : s16 1 17 = s5 1 17 := f18 1 17 (by decide)
    have r26 := y_Uu.fr o11 (f18 191 16 (by decide)) (f18 6 6 (by decide)) (fun b => f18 195 b (nr_X5_forget_220__195 b)) (fun b => f18 197 b (nr_X5_forget_220__197 b)) (fun b => f18 193 b (nr_X5_forget_220__193 b)) (fun b => f18 215 b (nr_X5_forget_220__215 b)) (fun b => f18 8 b (nr_X5_forget_220__8 b)) (fun b => f18 12 b (nr_X5_forget_220__12 b)) (fun b => f18 14 b (nr_X5_forget_220__14 b))
    refine T_if1 ⟨(by decide +kernel), by unfold z_bl; omega⟩ ?_
    refine T_upg c17 bd_1_16 (by omega) (fun s27 c28 g30 g31 e32 => ?_)
    have f29 := z_Fr.upf (R := R_X11_refresh_1) f19 g30 g31 (Or.inr (Or.inr (Or.inr (Or.inr (Or.inr (Or.inr (Or.inr (Or.inl (⟨rfl, by decide⟩)))))))))
    have t33 : s27 1 17 = s16 1 17 := g31 17 (by decide)
    have r34 := y_Uu.fr r26 (g30 191 16 (by decide)) (g30 6 6 (by decide)) (fun b => g30 195 b (by decide)) (fun b => g30 197 b (by decide)) (fun b => g30 193 b (by decide)) (fun b => g30 215 b (by decide)) (fun b => g30 8 b (by decide)) (fun b => g30 12 b (by decide)) (fun b => g30 14 b (by decide))
    refine T_if1 ⟨(by decide +kernel), by unfold z_bl; omega⟩ ?_
    refine T_upg c28 bd_1_17 (by omega) (fun s35 c36 g38 g39 e40 => ?_)
    have f37 := z_Fr.upf (R := R_X11_refresh_1) f29 g38 g39 (Or.inr (Or.inr (Or.inr (Or.inr (Or.inr (Or.inr (Or.inr (Or.inl (⟨rfl, by decide⟩)))))))))
    have t41 : s35 1 16 = s27 1 16 := g39 16 (by decide)
    have r42 := y_Uu.fr r34 (g38 191 16 (by decide)) (g38 6 6 (by decide)) (fun b => g38 195 b (by decide)) (fun b => g38 197 b (by decide)) (fun b => g38 193 b (by decide)) (fun b => g38 215 b (by decide)) (fun b => g38 8 b (by decide)) (fun b => g38 12 b (by decide)) (fun b => g38 14 b (by decide))
    exact sj_X11_refresh_1T_J31 hfu r0 s35 c36 f37 r42
abbrev P_X11_text_1T (r0 : z_M) (a1 : Int) : z_V → z_M → Prop := fun v s' => z_CI s' ∧ z_Fr R_X11_text_1 r0 s' ∧ (y_V16 s') ∧ ((0 ≤ a1 ∧ a1 ≤ r0 1 12 ∧ s' 1 12 = 0) ∨ ((a1 < 0 ∨ r0 1 12 < a1) ∧ s' 1 12 = r0 1 12)) ∧ ((∃ x, v = vI x ∧ -2147483648 ≤ x ∧ x ≤ 2147483647) ∨ v = vX 1)
theorem nr_X9_clear_19__193 (b : Int) : ¬ R_X9_clear_19 193 b := by
  unfold R_X9_clear_19; omega
theorem nr_X9_clear_19__215 (b : Int) : ¬ R_X9_clear_19 215 b := by
  unfold R_X9_clear_19; omega
theorem nr_X9_clear_19__8 (b : Int) : ¬ R_X9_clear_19 8 b := by
  unfold R_X9_clear_19; omega
theorem nr_X9_clear_19__12 (b : Int) : ¬ R_X9_clear_19 12 b := by
  unfold R_X9_clear_19; omega
theorem nr_X9_clear_19__14 (b : Int) : ¬ R_X9_clear_19 14 b := by
  unfold R_X9_clear_19; omega
theorem nr_X11_readTape_1__193 (b : Int) : ¬ R_X11_readTape_1 193 b := by
  unfold R_X11_readTape_1; omega
theorem nr_X11_readTape_1__215 (b : Int) : ¬ R_X11_readTape_1 215 b := by
  unfold R_X11_readTape_1; omega
theorem nr_X11_refresh_1__8 (b : Int) : ¬ R_X11_refresh_1 8 b := by
  unfold R_X11_refresh_1; omega
theorem nr_X11_refresh_1__12 (b : Int) : ¬ R_X11_refresh_1 12 b := by
  unfold R_X11_refresh_1; omega
theorem nr_X11_refresh_1__14 (b : Int) : ¬ R_X11_refresh_1 14 b := by
  unfold R_X11_refresh_1; omega
theorem sj_X11_text_1T_J45 {fu : Nat} (hfu : 8589934592 ≤ fu) (r0 s : z_M) (c : z_CI s) (f : z_Fr R_X11_text_1 r0 s) (t0 : Int) (a1 : Int) (d0 : -2147483648 ≤ t0 ∧ t0 ≤ 2147483647) (p0 : y_V16 s) (p1 : 0 ≤ a1 ∧ a1 ≤ r0 1 12 ∧ s 1 12 = 0) : z_T (fX11_text_J45 fu s t0) (P_X11_text_1T r0 a1) := by
  refine T_of (fX11_text_J45.eq_1 ..) ?_
  have u1 := CI_b c (k := 1) (j := 12) bd_1_12
  have u2 := CI_b c (k := 191) (j := 16) bd_191_16
  exact T_ret ⟨c, f, p0, by omega, Or.inl (⟨t0, rfl, by omega, by omega⟩)⟩
theorem sf_X11_text_1T {fu : Nat} (hfu : 8589934592 ≤ fu) (r0 : z_M) (c0 : z_CI r0) (a1 : Int) (b1 : -2147483648 ≤ a1 ∧ a1 ≤ 2147483647) (p0 : y_V16 r0) : z_T (fX11_text fu r0 1 a1) (P_X11_text_1T r0 a1) := by
  refine T_of (fX11_text.eq_1 ..) ?_
  refine T_if1 (by decide +kernel) ?_
  refine T_leq (fun x1 e2 => ?_)
  have u3 := CI_b c0 (k := 1) (j := 12) bd_1_12
  refine T_if1 (by decide +kernel) ?_
  refine T_nwn (fun hn => ?_) (fun h4 h5 => ?_)
  · exact T_ret ⟨CI_up c0 bd_1_15 (z_wb rfl).1, z_Fr.upf (R := R_X11_text_1) z_Fr.rf (fun a b h => z_up_k h) (fun b h => z_up_j h) (Or.inr (Or.inr (Or.inr (Or.inr (Or.inr (Or.inr (Or.inr (Or.inr (Or.inr (Or.inl (⟨rfl, by decide⟩))))))))))), y_V16.fr p0 (z_up_j (by decide)) (z_up_k (by decide)) (z_up_k (by decide)) (fun _ => z_up_k (by decide)) (fun _ => z_up_k (by decide)) (fun _ => z_up_k (by decide)) (fun _ => z_up_k (by decide)) (fun _ => z_up_k (by decide)) (fun _ => z_up_k (by decide)) (fun _ => z_up_k (by decide)), by rw [show z_up r0 1 15 _ 1 12 = r0 1 12 from z_up_j (by decide)]; omega, Or.inr rfl⟩
  refine T_if1 (by decide +kernel) ?_
  refine T_let 19 (by decide +kernel) ?_
  refine T_if1 (by decide +kernel) ?_
  refine T_useN (sf_X9_clear_19 hfu r0 c0) (fun v11 s6 hq => ?_)
  obtain ⟨c7, f8, rfl⟩ := hq
  refine T_vN ?_
  have f9 := z_Fr.tr (R := R_X11_text_1) z_Fr.rf f8 rs_X9_clear_19__X11_text_1
  have t14 : s6 1 12 = r0 1 12 := f8 1 12 (by decide)
  have t15 : s6 191 16 = r0 191 16 := f8 191 16 (by decide)
  have r16 := y_V16.fr p0 (f8 1 16 (by decide)) (f8 191 16 (by decide)) (f8 6 6 (by decide)) (fun b => f8 195 b (nr_X9_clear_19__195 b)) (fun b => f8 197 b (nr_X9_clear_19__197 b)) (fun b => f8 193 b (nr_X9_clear_19__193 b)) (fun b => f8 215 b (nr_X9_clear_19__215 b)) (fun b => f8 8 b (nr_X9_clear_19__8 b)) (fun b => f8 12 b (nr_X9_clear_19__12 b)) (fun b => f8 14 b (nr_X9_clear_19__14 b))
  refine T_if1 (by decide +kernel) ?_
  refine T_useI (sf_X11_readTape_1T hfu s6 c7 a1 (by omega) r16) (fun v22 s17 hq => ?_)
  obtain ⟨c18, f19, o23, o24, ⟨x21, rfl, b25, b26⟩⟩ := hq
  refine T_vI ?_
  have f20 := z_Fr.tr (R := R_X11_text_1) f9 f19 rs_X11_readTape_1__X11_text_1
  have t27 : s17 191 16 = s6 191 16 := f19 191 16 (by decide)
  have u28 := CI_b c18 (k := 1) (j := 12) bd_1_12
  refine T_if1 (by decide +kernel) ?_
  refine T_useN (sf_X11_refresh_1T hfu s17 c18 o23) (fun v34 s29 hq => ?_)
  obtain ⟨c30, f31, o35, rfl⟩ := hq
  refine T_vN ?_
  have f32 := z_Fr.tr (R := R_X11_text_1) f20 f31 rs_X11_refresh_1__X11_text_1
  have t38 : s29 1 12 = s17 1 12 := f31 1 12 (by decide)
  have u39 := CI_b c30 (k := 191) (j := 16) bd_191_16
  refine T_ite (fun h40 => ?_) (fun h40 => ?_)
  · refine T_leq (fun x41 e42 => ?_)
    have w43 := z_wr e42
    exact sj_X11_text_1T_J45 hfu r0 s29 c30 f32 x41 a1 (by omega) (Or.inr o35) (by omega)
  · refine T_if1 (by decide +kernel) ?_
    refine T_let 191 (by decide +kernel) ?_
    refine T_if1 (by decide +kernel) ?_
    refine T_leq (fun x44 e45 => ?_)
    have u46 := CI_b c30 (k := 191) (j := 16) bd_191_16
    exact sj_X11_text_1T_J45 hfu r0 s29 c30 f32 x44 a1 (by omega) (Or.inr o35) (by omega)
abbrev P_X11_more_1T (r0 : z_M) (a1 : Int) : z_V → z_M → Prop := fun v s' => z_CI s' ∧ z_Fr R_X11_more_1 r0 s' ∧ (y_V16 s') ∧ ((0 ≤ a1 ∧ a1 ≤ r0 1 12 ∧ s' 1 12 = 0) ∨ ((a1 < 0 ∨ r0 1 12 < a1) ∧ s' 1 12 = r0 1 12)) ∧ ((∃ x, v = vI x ∧ -2147483648 ≤ x ∧ x ≤ 2147483647) ∨ v = vX 1)
theorem nr_X9_copyFrom_19_6__193 (b : Int) : ¬ R_X9_copyFrom_19_6 193 b := by
  unfold R_X9_copyFrom_19_6; omega
theorem nr_X9_copyFrom_19_6__215 (b : Int) : ¬ R_X9_copyFrom_19_6 215 b := by
  unfold R_X9_copyFrom_19_6; omega
theorem nr_X9_copyFrom_19_6__8 (b : Int) : ¬ R_X9_copyFrom_19_6 8 b := by
  unfold R_X9_copyFrom_19_6; omega
theorem nr_X9_copyFrom_19_6__12 (b : Int) : ¬ R_X9_copyFrom_19_6 12 b := by
  unfold R_X9_copyFrom_19_6; omega
theorem nr_X9_copyFrom_19_6__14 (b : Int) : ¬ R_X9_copyFrom_19_6 14 b := by
  unfold R_X9_copyFrom_19_6; omega
theorem sj_X11_more_1T_J49 {fu : Nat} (hfu : 8589934592 ≤ fu) (r0 s : z_M) (c : z_CI s) (f : z_Fr R_X11_more_1 r0 s) (t0 : Int) (a1 : Int) (d0 : -2147483648 ≤ t0 ∧ t0 ≤ 2147483647) (p0 : y_V16 s) (p1 : 0 ≤ a1 ∧ a1 ≤ r0 1 12 ∧ s 1 12 = 0) : z_T (fX11_more_J49 fu s t0) (P_X11_more_1T r0 a1) := by
  refine T_of (fX11_more_J49.eq_1 ..) ?_
  have u1 := CI_b c (k := 1) (j := 12) bd_1_12
  have u2 := CI_b c (k := 191) (j := 16) bd_191_16
  exact T_ret ⟨c, f, p0, by omega, Or.inl (⟨t0, rfl, by omega, by omega⟩)⟩
theorem sf_X11_more_1T {fu : Nat} (hfu : 8589934592 ≤ fu) (r0 : z_M) (c0 : z_CI r0) (a1 : Int) (b1 : -2147483648 ≤ a1 ∧ a1 ≤ 2147483647) (p0 : y_V16 r0) : z_T (fX11_more fu r0 1 a1) (P_X11_more_1T r0 a1) := by
  refine T_of (fX11_more.eq_1 ..) ?_
  refine T_if1 (by decide +kernel) ?_
  refine T_leq (fun x1 e2 => ?_)
  have u3 := CI_b c0 (k := 1) (j := 12) bd_1_12
  refine T_if1 (by decide +kernel) ?_
  refine T_nwn (fun hn => ?_) (fun h4 h5 => ?_)
  · exact T_ret ⟨CI_up c0 bd_1_15 (z_wb rfl).1, z_Fr.upf (R := R_X11_more_1) z_Fr.rf (fun a b h => z_up_k h) (fun b h => z_up_j h) (Or.inr (Or.inr (Or.inr (Or.inr (Or.inr (Or.inr (Or.inr (Or.inr (Or.inr (Or.inl (⟨rfl, by decide⟩))))))))))), y_V16.fr p0 (z_up_j (by decide)) (z_up_k (by decide)) (z_up_k (by decide)) (fun _ => z_up_k (by decide)) (fun _ => z_up_k (by decide)) (fun _ => z_up_k (by decide)) (fun _ => z_up_k (by decide)) (fun _ => z_up_k (by decide)) (fun _ => z_up_k (by decide)) (fun _ => z_up_k (by decide)), by rw [show z_up r0 1 15 _ 1 12 = r0 1 12 from z_up_j (by decide)]; omega, Or.inr rfl⟩
  refine T_if1 (by decide +kernel) ?_
  refine T_let 19 (by decide +kernel) ?_
  refine T_if1 (by decide +kernel) ?_
  refine T_let 6 (by decide +kernel) ?_
  refine T_if1 (by decide +kernel) ?_
  refine T_useN (sf_X9_copyFrom_19_6 hfu r0 c0) (fun v11 s6 hq => ?_)
  obtain ⟨c7, f8, rfl⟩ := hq
  refine T_vN ?_
  have f9 := z_Fr.tr (R := R_X11_more_1) z_Fr.rf f8 rs_X9_copyFrom_19_6__X11_more_1
  have t14 : s6 1 12 = r0 1 12 := f8 1 12 (by decide)
  have t15 : s6 191 16 = r0 191 16 := f8 191 16 (by decide)
  have r16 := y_V16.fr p0 (f8 1 16 (by decide)) (f8 191 16 (by decide)) (f8 6 6 (by decide)) (fun b => f8 195 b (nr_X9_copyFrom_19_6__195 b)) (fun b => f8 197 b (nr_X9_copyFrom_19_6__197 b)) (fun b => f8 193 b (nr_X9_copyFrom_19_6__193 b)) (fun b => f8 215 b (nr_X9_copyFrom_19_6__215 b)) (fun b => f8 8 b (nr_X9_copyFrom_19_6__8 b)) (fun b => f8 12 b (nr_X9_copyFrom_19_6__12 b)) (fun b => f8 14 b (nr_X9_copyFrom_19_6__14 b))
  refine T_if1 (by decide +kernel) ?_
  refine T_useI (sf_X11_readTape_1T hfu s6 c7 a1 (by omega) r16) (fun v22 s17 hq => ?_)
  obtain ⟨c18, f19, o23, o24, ⟨x21, rfl, b25, b26⟩⟩ := hq
  refine T_vI ?_
  have f20 := z_Fr.tr (R := R_X11_more_1) f9 f19 rs_X11_readTape_1__X11_more_1
  have t27 : s17 191 16 = s6 191 16 := f19 191 16 (by decide)
  have u28 := CI_b c18 (k := 1) (j := 12) bd_1_12
  refine T_if1 (by decide +kernel) ?_
  refine T_useN (sf_X11_refresh_1T hfu s17 c18 o23) (fun v34 s29 hq => ?_)
  obtain ⟨c30, f31, o35, rfl⟩ := hq
  refine T_vN ?_
  have f32 := z_Fr.tr (R := R_X11_more_1) f20 f31 rs_X11_refresh_1__X11_more_1
  have t38 : s29 1 12 = s17 1 12 := f31 1 12 (by decide)
  have u39 := CI_b c30 (k := 191) (j := 16) bd_191_16
  refine T_ite (fun h40 => ?_) (fun h40 => ?_)
  · refine T_leq (fun x41 e42 => ?_)
    have w43 := z_wr e42
    exact sj_X11_more_1T_J49 hfu r0 s29 c30 f32 x41 a1 (by omega) (Or.inr o35) (by omega)
  · refine T_if1 (by decide +kernel) ?_
    refine T_let 191 (by decide +kernel) ?_
    refine T_if1 (by decide +kernel) ?_
    refine T_leq (fun x44 e45 => ?_)
    have u46 := CI_b c30 (k := 191) (j := 16) bd_191_16
    exact sj_X11_more_1T_J49 hfu r0 s29 c30 f32 x44 a1 (by omega) (Or.inr o35) (by omega)
abbrev P_X11_fault_1T (r0 : z_M) : z_V → z_M → Prop := fun v s' => z_CI s' ∧ z_Fr R_X11_fault_1 r0 s' ∧ (y_V16 s') ∧ (∃ x, v = vI x ∧ -2147483648 ≤ x ∧ x ≤ 2147483647)
theorem sf_X11_fault_1T {fu : Nat} (hfu : 8589934592 ≤ fu) (r0 : z_M) (c0 : z_CI r0) (p0 : y_V16 r0) : z_T (fX11_fault fu r0 1) (P_X11_fault_1T r0) := by
  refine T_of (fX11_fault.eq_1 ..) ?_
  refine T_if1 (by decide +kernel) ?_
  refine T_leq (fun x1 e2 => ?_)
  have u3 := CI_b c0 (k := 1) (j := 13) bd_1_13
  exact T_ret ⟨c0, z_Fr.rf, p0, ⟨x1, rfl, by omega, by omega⟩⟩
abbrev P_X11_set_1T (r0 : z_M) : z_V → z_M → Prop := fun v s' => z_CI s' ∧ z_Fr R_X11_set_1 r0 s' ∧ (y_V16 s') ∧ ((∃ x, v = vI x ∧ -2147483648 ≤ x ∧ x ≤ 2147483647) ∨ v = vX 1)
theorem sj_X11_set_1T_J79 {fu : Nat} (hfu : 8589934592 ≤ fu) (r0 s : z_M) (c : z_CI s) (f : z_Fr R_X11_set_1 r0 s) (a3 : Int) (b3 : -2147483648 ≤ a3 ∧ a3 ≤ 2147483647) (p0 : y_V16 s) : z_T (fX11_set_J79 fu s a3) (P_X11_set_1T r0) := by
  refine T_of (fX11_set_J79.eq_1 ..) ?_
  exact T_ret ⟨c, f, p0, Or.inl (⟨a3, rfl, by omega, by omega⟩)⟩
theorem sf_X11_set_1T {fu : Nat} (hfu : 8589934592 ≤ fu) (r0 : z_M) (c0 : z_CI r0) (a1 : Int) (a2 : Int) (b1 : -2147483648 ≤ a1 ∧ a1 ≤ 2147483647) (b2 : -2147483648 ≤ a2 ∧ a2 ≤ 2147483647) (p0 : y_V16 r0) : z_T (fX11_set fu r0 1 a1 a2) (P_X11_set_1T r0) := by
  refine T_of (fX11_set.eq_1 ..) ?_
  refine T_if1 (by decide) ?_
  refine T_leq (fun x1 e2 => ?_)
  have w3 := z_wr e2
  refine T_if1 (by decide +kernel) ?_
  refine T_nw ?_ (fun h4 h5 => ?_)
  · exact T_ret ⟨CI_up c0 bd_1_15 (z_wb rfl).1, z_Fr.upf (R := R_X11_set_1) z_Fr.rf (fun a b h => z_up_k h) (fun b h => z_up_j h) (Or.inr (⟨rfl, by decide⟩)), y_V16.fr p0 (z_up_j (by decide)) (z_up_k (by decide)) (z_up_k (by decide)) (fun _ => z_up_k (by decide)) (fun _ => z_up_k (by decide)) (fun _ => z_up_k (by decide)) (fun _ => z_up_k (by decide)) (fun _ => z_up_k (by decide)) (fun _ => z_up_k (by decide)) (fun _ => z_up_k (by decide)), Or.inr rfl⟩
  refine T_pick (by decide) (fun x6 e7 b8 => ?_)
  refine T_pick (by decide) (fun x9 e10 b11 => ?_)
  refine T_if1 (by decide +kernel) ?_
  refine T_nw ?_ (fun h12 h13 => ?_)
  · exact T_ret ⟨CI_up c0 bd_1_15 (z_wb rfl).1, z_Fr.upf (R := R_X11_set_1) z_Fr.rf (fun a b h => z_up_k h) (fun b h => z_up_j h) (Or.inr (⟨rfl, by decide⟩)), y_V16.fr p0 (z_up_j (by decide)) (z_up_k (by decide)) (z_up_k (by decide)) (fun _ => z_up_k (by decide)) (fun _ => z_up_k (by decide)) (fun _ => z_up_k (by decide)) (fun _ => z_up_k (by decide)) (fun _ => z_up_k (by decide)) (fun _ => z_up_k (by decide)) (fun _ => z_up_k (by decide)), Or.inr rfl⟩
  refine T_if1 (by decide +kernel) ?_
  refine T_let 2 (by decide +kernel) ?_
  refine T_if1 (by decide +kernel) ?_
  refine T_get (by decide +kernel) (c := 3) (by decide +kernel) bdr_3 (by decide) c0 (fun x14 e15 b16 w17 => ?_)
  have l18 : z_ln 2 = 9 := by decide +kernel
  refine T_if1 (by decide +kernel) ?_
  refine T_let 2 (by decide +kernel) ?_
  refine T_if1 (by decide +kernel) ?_
  refine T_put (by decide +kernel) (c := 3) (by decide +kernel) bdr_3 (by omega) c0 (fun s19 e22 c20 g23 => ?_)
  have f21 := z_Fr.up (R := R_X11_set_1) z_Fr.rf g23 (fun _ => (Or.inl (⟨by decide, by decide⟩)))
  have r24 := y_V16.fr p0 (g23 1 16 (by decide)) (g23 191 16 (by decide)) (g23 6 6 (by decide)) (fun b => g23 195 b (by decide)) (fun b => g23 197 b (by decide)) (fun b => g23 193 b (by decide)) (fun b => g23 215 b (by decide)) (fun b => g23 8 b (by decide)) (fun b => g23 12 b (by decide)) (fun b => g23 14 b (by decide))
  refine T_if1 ⟨(by decide +kernel), by unfold z_bl; omega⟩ ?_
  refine T_upg c20 bd_1_17 (by omega) (fun s25 c26 g28 g29 e30 => ?_)
  have f27 := z_Fr.upf (R := R_X11_set_1) f21 g28 g29 (Or.inr (⟨rfl, by decide⟩))
  have r31 := y_V16.fr r24 (g29 16 (by decide)) (g28 191 16 (by decide)) (g28 6 6 (by decide)) (fun b => g28 195 b (by decide)) (fun b => g28 197 b (by decide)) (fun b => g28 193 b (by decide)) (fun b => g28 215 b (by decide)) (fun b => g28 8 b (by decide)) (fun b => g28 12 b (by decide)) (fun b => g28 14 b (by decide))
  refine T_ite (fun h32 => ?_) (fun h32 => ?_)
  · exact sj_X11_set_1T_J79 hfu r0 s25 c26 f27 x14 (by omega) r31
  · refine T_ite (fun h33 => ?_) (fun h33 => ?_)
    · exact sj_X11_set_1T_J79 hfu r0 s25 c26 f27 x14 (by omega) r31
    · refine T_ite (fun h34 => ?_) (fun h34 => ?_)
      · exact sj_X11_set_1T_J79 hfu r0 s25 c26 f27 x14 (by omega) r31
      · refine T_ite (fun h35 => ?_) (fun h35 => ?_)
        · exact sj_X11_set_1T_J79 hfu r0 s25 c26 f27 x14 (by omega) r31
        · refine T_if1 ⟨(by decide +kernel), by unfold z_bl; omega⟩ ?_
          refine T_upg c26 bd_1_16 (by omega) (fun s36 c37 g39 g40 e41 => ?_)
          have f38 := z_Fr.upf (R := R_X11_set_1) f27 g39 g40 (Or.inr (⟨rfl, by decide⟩))
          exact sj_X11_set_1T_J79 hfu r0 s36 c37 f38 x14 (by omega) (Or.inl (by omega))
abbrev P_X11_undo_1T (r0 : z_M) : z_V → z_M → Prop := fun v s' => z_CI s' ∧ z_Fr R_X11_undo_1 r0 s' ∧ (y_V16 s') ∧ (∃ x, v = vI x ∧ -2147483648 ≤ x ∧ x ≤ 2147483647)
theorem nr_X9_copyFrom_6_35__193 (b : Int) : ¬ R_X9_copyFrom_6_35 193 b := by
  unfold R_X9_copyFrom_6_35; omega
theorem nr_X9_copyFrom_6_35__215 (b : Int) : ¬ R_X9_copyFrom_6_35 215 b := by
  unfold R_X9_copyFrom_6_35; omega
theorem nr_X9_copyFrom_6_48__193 (b : Int) : ¬ R_X9_copyFrom_6_48 193 b := by
  unfold R_X9_copyFrom_6_48; omega
theorem nr_X9_copyFrom_6_48__215 (b : Int) : ¬ R_X9_copyFrom_6_48 215 b := by
  unfold R_X9_copyFrom_6_48; omega
theorem nr_X9_copyFrom_6_61__193 (b : Int) : ¬ R_X9_copyFrom_6_61 193 b := by
  unfold R_X9_copyFrom_6_61; omega
theorem nr_X9_copyFrom_6_61__215 (b : Int) : ¬ R_X9_copyFrom_6_61 215 b := by
  unfold R_X9_copyFrom_6_61; omega
theorem nr_X9_copyFrom_6_74__193 (b : Int) : ¬ R_X9_copyFrom_6_74 193 b := by
  unfold R_X9_copyFrom_6_74; omega
theorem nr_X9_copyFrom_6_74__215 (b : Int) : ¬ R_X9_copyFrom_6_74 215 b := by
  unfold R_X9_copyFrom_6_74; omega
theorem nr_X9_copyFrom_6_87__193 (b : Int) : ¬ R_X9_copyFrom_6_87 193 b := by
  unfold R_X9_copyFrom_6_87; omega
theorem nr_X9_copyFrom_6_87__215 (b : Int) : ¬ R_X9_copyFrom_6_87 215 b := by
  unfold R_X9_copyFrom_6_87; omega
theorem nr_X9_copyFrom_6_100__193 (b : Int) : ¬ R_X9_copyFrom_6_100 193 b := by
  unfold R_X9_copyFrom_6_100; omega
theorem nr_X9_copyFrom_6_100__215 (b : Int) : ¬ R_X9_copyFrom_6_100 215 b := by
  unfold R_X9_copyFrom_6_100; omega
theorem nr_X9_copyFrom_6_113__193 (b : Int) : ¬ R_X9_copyFrom_6_113 193 b := by
  unfold R_X9_copyFrom_6_113; omega
theorem nr_X9_copyFrom_6_113__215 (b : Int) : ¬ R_X9_copyFrom_6_113 215 b := by
  unfold R_X9_copyFrom_6_113; omega
theorem nr_X9_copyFrom_6_126__193 (b : Int) : ¬ R_X9_copyFrom_6_126 193 b := by
  unfold R_X9_copyFrom_6_126; omega
theorem nr_X9_copyFrom_6_126__215 (b : Int) : ¬ R_X9_copyFrom_6_126 215 b := by
  unfold R_X9_copyFrom_6_126; omega
theorem nr_X9_copyFrom_6_139__193 (b : Int) : ¬ R_X9_copyFrom_6_139 193 b := by
  unfold R_X9_copyFrom_6_139; omega
theorem nr_X9_copyFrom_6_139__215 (b : Int) : ¬ R_X9_copyFrom_6_139 215 b := by
  unfold R_X9_copyFrom_6_139; omega
theorem nr_X9_copyFrom_6_152__193 (b : Int) : ¬ R_X9_copyFrom_6_152 193 b := by
  unfold R_X9_copyFrom_6_152; omega
theorem nr_X9_copyFrom_6_152__215 (b : Int) : ¬ R_X9_copyFrom_6_152 215 b := by
  unfold R_X9_copyFrom_6_152; omega
theorem nr_X9_copyFrom_6_165__193 (b : Int) : ¬ R_X9_copyFrom_6_165 193 b := by
  unfold R_X9_copyFrom_6_165; omega
theorem nr_X9_copyFrom_6_165__215 (b : Int) : ¬ R_X9_copyFrom_6_165 215 b := by
  unfold R_X9_copyFrom_6_165; omega
theorem nr_X9_copyFrom_6_178__193 (b : Int) : ¬ R_X9_copyFrom_6_178 193 b := by
  unfold R_X9_copyFrom_6_178; omega
theorem nr_X9_copyFrom_6_178__215 (b : Int) : ¬ R_X9_copyFrom_6_178 215 b := by
  unfold R_X9_copyFrom_6_178; omega
set_option maxHeartbeats 4000000 in
theorem sf_X11_undo_1T {fu : Nat} (hfu : 8589934592 ≤ fu) (r0 : z_M) (c0 : z_CI r0) (p0 : y_V16 r0) : z_T (fX11_undo fu r0 1) (P_X11_undo_1T r0) := by
  refine T_of (fX11_undo.eq_1 ..) ?_
  refine T_if1 (by decide +kernel) ?_
  refine T_let 33 (by decide +kernel) ?_
  refine T_if1 (by decide +kernel) ?_
  refine T_let 6 (by decide +kernel) ?_
  refine T_if1 (by decide +kernel) ?_
  refine T_bI ?_
  refine T_of (fX2_takeBack.eq_1 ..) ?_
  refine T_if1 (by decide +kernel) ?_
  refine T_leq (fun x1 e2 => ?_)
  have u3 := CI_b c0 (k := 33) (j := 2) bd_33_2
  refine T_ite (fun h4 => ?_) (fun h4 => ?_)
  · refine T_if1 (by decide +kernel) ?_
    refine T_leq (fun x5 e6 => ?_)
    have u7 := CI_b c0 (k := 33) (j := 2) bd_33_2
    refine T_leq (fun x8 e9 => ?_)
    have w10 := z_wb e9
    refine T_if1 (by decide +kernel) ?_
    refine T_upg c0 bd_33_2 (by omega) (fun s11 c12 g14 g15 e16 => ?_)
    have f13 := z_Fr.upf (R := R_X11_undo_1) z_Fr.rf g14 g15 (Or.inr (Or.inl (⟨by decide, by decide⟩)))
    have t17 : s11 33 1 = r0 33 1 := g15 1 (by decide)
    have t18 : s11 191 16 = r0 191 16 := g14 191 16 (by decide)
    have r19 := y_V16.fr p0 (g14 1 16 (by decide)) (g14 191 16 (by decide)) (g14 6 6 (by decide)) (fun b => g14 195 b (by decide)) (fun b => g14 197 b (by decide)) (fun b => g14 193 b (by decide)) (fun b => g14 215 b (by decide)) (fun b => g14 8 b (by decide)) (fun b => g14 12 b (by decide)) (fun b => g14 14 b (by decide))
    refine T_if1 (by decide +kernel) ?_
    refine T_leq (fun x20 e21 => ?_)
    have u22 := CI_b c12 (k := 33) (j := 1) bd_33_1
    refine T_ite (fun h23 => ?_) (fun h23 => ?_)
    · refine T_of (fX2_takeBack_J38.eq_1 ..) ?_
      refine T_if1 (by decide +kernel) ?_
      refine T_upg c12 bd_33_1 (by omega) (fun s24 c25 g27 g28 e29 => ?_)
      have f26 := z_Fr.upf (R := R_X11_undo_1) f13 g27 g28 (Or.inr (Or.inl (⟨by decide, by decide⟩)))
      have t30 : s24 33 2 = s11 33 2 := g28 2 (by decide)
      have t31 : s24 191 16 = s11 191 16 := g27 191 16 (by decide)
      have r32 := y_V16.fr r19 (g27 1 16 (by decide)) (g27 191 16 (by decide)) (g27 6 6 (by decide)) (fun b => g27 195 b (by decide)) (fun b => g27 197 b (by decide)) (fun b => g27 193 b (by decide)) (fun b => g27 215 b (by decide)) (fun b => g27 8 b (by decide)) (fun b => g27 12 b (by decide)) (fun b => g27 14 b (by decide))
      refine T_if1 (by decide +kernel) ?_
      refine T_bR ?_
      refine T_of (fX2_place.eq_1 ..) ?_
      refine T_if1 (by decide +kernel) ?_
      refine T_leq (fun x33 e34 => ?_)
      have u35 := CI_b c25 (k := 33) (j := 1) bd_33_1
      refine T_ite (fun h36 => ?_) (fun h36 => ?_)
      · refine T_of (fX2_place_J31.eq_1 ..) ?_
        exfalso
        omega
      · refine T_if1 (by decide +kernel) ?_
        refine T_leq (fun x37 e38 => ?_)
        have u39 := CI_b c25 (k := 33) (j := 1) bd_33_1
        refine T_if1 (by decide +kernel) ?_
        refine T_let 34 (by decide +kernel) ?_
        refine T_if1 (by decide +kernel) ?_
        refine T_let 12 (by decide +kernel) ?_
        refine T_ite (fun h40 => ?_) (fun h40 => ?_)
        · refine T_of (fX2_place_J31.eq_1 ..) ?_
          exfalso
          omega
        · refine T_if1 (by decide +kernel) ?_
          refine T_let 34 (by decide +kernel) ?_
          refine T_if1 (by decide +kernel) ?_
          refine T_leq (fun x41 e42 => ?_)
          have u43 := CI_b c25 (k := 33) (j := 1) bd_33_1
          rcases (show x41 = 0 ∨ x41 = 1 ∨ x41 = 2 ∨ x41 = 3 ∨ x41 = 4 ∨ x41 = 5 ∨ x41 = 6 ∨ x41 = 7 ∨ x41 = 8 ∨ x41 = 9 ∨ x41 = 10 ∨ x41 = 11 by omega) with rfl | rfl | rfl | rfl | rfl | rfl | rfl | rfl | rfl | rfl | rfl | rfl
          · refine T_if1 (by decide +kernel) ?_
            refine T_let 35 (by decide +kernel) ?_
            refine T_of (fX2_place_J32.eq_1 ..) ?_
            refine T_rR ?_
            refine T_if1 (by decide) ?_
            refine T_if1 (by decide +kernel) ?_
            refine T_useN (sf_X9_copyFrom_6_35 hfu s24 c25) (fun v50 s45 hq => ?_)
            obtain ⟨c46, f47, rfl⟩ := hq
            refine T_vN ?_
            have f48 := z_Fr.tr (R := R_X11_undo_1) f26 f47 rs_X9_copyFrom_6_35__X11_undo_1
            have t53 : s45 33 1 = s24 33 1 := f47 33 1 (by decide)
            have t54 : s45 33 2 = s24 33 2 := f47 33 2 (by decide)
            have t55 : s45 191 16 = s24 191 16 := f47 191 16 (by decide)
            refine T_if1 (by unfold z_bl; omega) ?_
            refine T_rI ?_
            refine T_ite (fun h56 => ?_) (fun h56 => ?_)
            · refine T_if1 ⟨(by decide +kernel), by unfold z_bl; omega⟩ ?_
              refine T_upg c46 bd_1_16 (by omega) (fun s57 c58 g60 g61 e62 => ?_)
              have f59 := z_Fr.upf (R := R_X11_undo_1) f48 g60 g61 (Or.inr (Or.inr (Or.inr (Or.inr (Or.inr (Or.inr (Or.inr (Or.inr (Or.inr (Or.inl (⟨rfl, by decide⟩)))))))))))
              have t63 : s57 33 1 = s45 33 1 := g60 33 1 (by decide)
              have t64 : s57 33 2 = s45 33 2 := g60 33 2 (by decide)
              have t65 : s57 191 16 = s45 191 16 := g60 191 16 (by decide)
              refine T_if1 (by decide +kernel) ?_
              refine T_useN (sf_X11_refresh_1T hfu s57 c58 (Or.inl (by omega))) (fun v71 s66 hq => ?_)
              obtain ⟨c67, f68, o72, rfl⟩ := hq
              refine T_vN ?_
              have f69 := z_Fr.tr (R := R_X11_undo_1) f59 f68 rs_X11_refresh_1__X11_undo_1
              have t75 : s66 33 1 = s57 33 1 := f68 33 1 (by decide)
              have t76 : s66 33 2 = s57 33 2 := f68 33 2 (by decide)
              have u77 := CI_b c67 (k := 191) (j := 16) bd_191_16
              refine T_if1 (by decide +kernel) ?_
              refine T_let 191 (by decide +kernel) ?_
              refine T_if1 (by decide +kernel) ?_
              refine T_leq (fun x78 e79 => ?_)
              have u80 := CI_b c67 (k := 191) (j := 16) bd_191_16
              exact T_ret ⟨c67, f69, (Or.inr o72), ⟨x78, rfl, by omega, by omega⟩⟩
            · exact T_ret ⟨c46, f48, (Or.inl (by omega)), ⟨(-1), rfl, by omega, by omega⟩⟩
          · refine T_if1 (by decide +kernel) ?_
            refine T_let 48 (by decide +kernel) ?_
            refine T_of (fX2_place_J32.eq_1 ..) ?_
            refine T_rR ?_
            refine T_if1 (by decide) ?_
            refine T_if1 (by decide +kernel) ?_
            refine T_useN (sf_X9_copyFrom_6_48 hfu s24 c25) (fun v86 s81 hq => ?_)
            obtain ⟨c82, f83, rfl⟩ := hq
            refine T_vN ?_
            have f84 := z_Fr.tr (R := R_X11_undo_1) f26 f83 rs_X9_copyFrom_6_48__X11_undo_1
            have t89 : s81 33 1 = s24 33 1 := f83 33 1 (by decide)
            have t90 : s81 33 2 = s24 33 2 := f83 33 2 (by decide)
            have t91 : s81 191 16 = s24 191 16 := f83 191 16 (by decide)
            refine T_if1 (by unfold z_bl; omega) ?_
            refine T_rI ?_
            refine T_ite (fun h92 => ?_) (fun h92 => ?_)
            · refine T_if1 ⟨(by decide +kernel), by unfold z_bl; omega⟩ ?_
              refine T_upg c82 bd_1_16 (by omega) (fun s93 c94 g96 g97 e98 => ?_)
              have f95 := z_Fr.upf (R := R_X11_undo_1) f84 g96 g97 (Or.inr (Or.inr (Or.inr (Or.inr (Or.inr (Or.inr (Or.inr (Or.inr (Or.inr (Or.inl (⟨rfl, by decide⟩)))))))))))
              have t99 : s93 33 1 = s81 33 1 := g96 33 1 (by decide)
              have t100 : s93 33 2 = s81 33 2 := g96 33 2 (by decide)
              have t101 : s93 191 16 = s81 191 16 := g96 191 16 (by decide)
              refine T_if1 (by decide +kernel) ?_
              refine T_useN (sf_X11_refresh_1T hfu s93 c94 (Or.inl (by omega))) (fun v107 s102 hq => ?_)
              obtain ⟨c103, f104, o108, rfl⟩ := hq
              refine T_vN ?_
              have f105 := z_Fr.tr (R := R_X11_undo_1) f95 f104 rs_X11_refresh_1__X11_undo_1
              have t111 : s102 33 1 = s93 33 1 := f104 33 1 (by decide)
              have t112 : s102 33 2 = s93 33 2 := f104 33 2 (by decide)
              have u113 := CI_b c103 (k := 191) (j := 16) bd_191_16
              refine T_if1 (by decide +kernel) ?_
              refine T_let 191 (by decide +kernel) ?_
              refine T_if1 (by decide +kernel) ?_
              refine T_leq (fun x114 e115 => ?_)
              have u116 := CI_b c103 (k := 191) (j := 16) bd_191_16
              exact T_ret ⟨c103, f105, (Or.inr o108), ⟨x114, rfl, by omega, by omega⟩⟩
            · exact T_ret ⟨c82, f84, (Or.inl (by omega)), ⟨(-1), rfl, by omega, by omega⟩⟩
          · refine T_if1 (by decide +kernel) ?_
            refine T_let 61 (by decide +kernel) ?_
            refine T_of (fX2_place_J32.eq_1 ..) ?_
            refine T_rR ?_
            refine T_if1 (by decide) ?_
            refine T_if1 (by decide +kernel) ?_
            refine T_useN (sf_X9_copyFrom_6_61 hfu s24 c25) (fun v122 s117 hq => ?_)
            obtain ⟨c118, f119, rfl⟩ := hq
            refine T_vN ?_
            have f120 := z_Fr.tr (R := R_X11_undo_1) f26 f119 rs_X9_copyFrom_6_61__X11_undo_1
            have t125 : s117 33 1 = s24 33 1 := f119 33 1 (by decide)
            have t126 : s117 33 2 = s24 33 2 := f119 33 2 (by decide)
            have t127 : s117 191 16 = s24 191 16 := f119 191 16 (by decide)
            refine T_if1 (by unfold z_bl; omega) ?_
            refine T_rI ?_
            refine T_ite (fun h128 => ?_) (fun h128 => ?_)
            · refine T_if1 ⟨(by decide +kernel), by unfold z_bl; omega⟩ ?_
              refine T_upg c118 bd_1_16 (by omega) (fun s129 c130 g132 g133 e134 => ?_)
              have f131 := z_Fr.upf (R := R_X11_undo_1) f120 g132 g133 (Or.inr (Or.inr (Or.inr (Or.inr (Or.inr (Or.inr (Or.inr (Or.inr (Or.inr (Or.inl (⟨rfl, by decide⟩)))))))))))
              have t135 : s129 33 1 = s117 33 1 := g132 33 1 (by decide)
              have t136 : s129 33 2 = s117 33 2 := g132 33 2 (by decide)
              have t137 : s129 191 16 = s117 191 16 := g132 191 16 (by decide)
              refine T_if1 (by decide +kernel) ?_
              refine T_useN (sf_X11_refresh_1T hfu s129 c130 (Or.inl (by omega))) (fun v143 s138 hq => ?_)
              obtain ⟨c139, f140, o144, rfl⟩ := hq
              refine T_vN ?_
              have f141 := z_Fr.tr (R := R_X11_undo_1) f131 f140 rs_X11_refresh_1__X11_undo_1
              have t147 : s138 33 1 = s129 33 1 := f140 33 1 (by decide)
              have t148 : s138 33 2 = s129 33 2 := f140 33 2 (by decide)
              have u149 := CI_b c139 (k := 191) (j := 16) bd_191_16
              refine T_if1 (by decide +kernel) ?_
              refine T_let 191 (by decide +kernel) ?_
              refine T_if1 (by decide +kernel) ?_
              refine T_leq (fun x150 e151 => ?_)
              have u152 := CI_b c139 (k := 191) (j := 16) bd_191_16
              exact T_ret ⟨c139, f141, (Or.inr o144), ⟨x150, rfl, by omega, by omega⟩⟩
            · exact T_ret ⟨c118, f120, (Or.inl (by omega)), ⟨(-1), rfl, by omega, by omega⟩⟩
          · refine T_if1 (by decide +kernel) ?_
            refine T_let 74 (by decide +kernel) ?_
            refine T_of (fX2_place_J32.eq_1 ..) ?_
            refine T_rR ?_
            refine T_if1 (by decide) ?_
            refine T_if1 (by decide +kernel) ?_
            refine T_useN (sf_X9_copyFrom_6_74 hfu s24 c25) (fun v158 s153 hq => ?_)
            obtain ⟨c154, f155, rfl⟩ := hq
            refine T_vN ?_
            have f156 := z_Fr.tr (R := R_X11_undo_1) f26 f155 rs_X9_copyFrom_6_74__X11_undo_1
            have t161 : s153 33 1 = s24 33 1 := f155 33 1 (by decide)
            have t162 : s153 33 2 = s24 33 2 := f155 33 2 (by decide)
            have t163 : s153 191 16 = s24 191 16 := f155 191 16 (by decide)
            refine T_if1 (by unfold z_bl; omega) ?_
            refine T_rI ?_
            refine T_ite (fun h164 => ?_) (fun h164 => ?_)
            · refine T_if1 ⟨(by decide +kernel), by unfold z_bl; omega⟩ ?_
              refine T_upg c154 bd_1_16 (by omega) (fun s165 c166 g168 g169 e170 => ?_)
              have f167 := z_Fr.upf (R := R_X11_undo_1) f156 g168 g169 (Or.inr (Or.inr (Or.inr (Or.inr (Or.inr (Or.inr (Or.inr (Or.inr (Or.inr (Or.inl (⟨rfl, by decide⟩)))))))))))
              have t171 : s165 33 1 = s153 33 1 := g168 33 1 (by decide)
              have t172 : s165 33 2 = s153 33 2 := g168 33 2 (by decide)
              have t173 : s165 191 16 = s153 191 16 := g168 191 16 (by decide)
              refine T_if1 (by decide +kernel) ?_
              refine T_useN (sf_X11_refresh_1T hfu s165 c166 (Or.inl (by omega))) (fun v179 s174 hq => ?_)
              obtain ⟨c175, f176, o180, rfl⟩ := hq
              refine T_vN ?_
              have f177 := z_Fr.tr (R := R_X11_undo_1) f167 f176 rs_X11_refresh_1__X11_undo_1
              have t183 : s174 33 1 = s165 33 1 := f176 33 1 (by decide)
              have t184 : s174 33 2 = s165 33 2 := f176 33 2 (by decide)
              have u185 := CI_b c175 (k := 191) (j := 16) bd_191_16
              refine T_if1 (by decide +kernel) ?_
              refine T_let 191 (by decide +kernel) ?_
              refine T_if1 (by decide +kernel) ?_
              refine T_leq (fun x186 e187 => ?_)
              have u188 := CI_b c175 (k := 191) (j := 16) bd_191_16
              exact T_ret ⟨c175, f177, (Or.inr o180), ⟨x186, rfl, by omega, by omega⟩⟩
            · exact T_ret ⟨c154, f156, (Or.inl (by omega)), ⟨(-1), rfl, by omega, by omega⟩⟩
          · refine T_if1 (by decide +kernel) ?_
            refine T_let 87 (by decide +kernel) ?_
            refine T_of (fX2_place_J32.eq_1 ..) ?_
            refine T_rR ?_
            refine T_if1 (by decide) ?_
            refine T_if1 (by decide +kernel) ?_
            refine T_useN (sf_X9_copyFrom_6_87 hfu s24 c25) (fun v194 s189 hq => ?_)
            obtain ⟨c190, f191, rfl⟩ := hq
            refine T_vN ?_
            have f192 := z_Fr.tr (R := R_X11_undo_1) f26 f191 rs_X9_copyFrom_6_87__X11_undo_1
            have t197 : s189 33 1 = s24 33 1 := f191 33 1 (by decide)
            have t198 : s189 33 2 = s24 33 2 := f191 33 2 (by decide)
            have t199 : s189 191 16 = s24 191 16 := f191 191 16 (by decide)
            refine T_if1 (by unfold z_bl; omega) ?_
            refine T_rI ?_
            refine T_ite (fun h200 => ?_) (fun h200 => ?_)
            · refine T_if1 ⟨(by decide +kernel), by unfold z_bl; omega⟩ ?_
              refine T_upg c190 bd_1_16 (by omega) (fun s201 c202 g204 g205 e206 => ?_)
              have f203 := z_Fr.upf (R := R_X11_undo_1) f192 g204 g205 (Or.inr (Or.inr (Or.inr (Or.inr (Or.inr (Or.inr (Or.inr (Or.inr (Or.inr (Or.inl (⟨rfl, by decide⟩)))))))))))
              have t207 : s201 33 1 = s189 33 1 := g204 33 1 (by decide)
              have t208 : s201 33 2 = s189 33 2 := g204 33 2 (by decide)
              have t209 : s201 191 16 = s189 191 16 := g204 191 16 (by decide)
              refine T_if1 (by decide +kernel) ?_
              refine T_useN (sf_X11_refresh_1T hfu s201 c202 (Or.inl (by omega))) (fun v215 s210 hq => ?_)
              obtain ⟨c211, f212, o216, rfl⟩ := hq
              refine T_vN ?_
              have f213 := z_Fr.tr (R := R_X11_undo_1) f203 f212 rs_X11_refresh_1__X11_undo_1
              have t219 : s210 33 1 = s201 33 1 := f212 33 1 (by decide)
              have t220 : s210 33 2 = s201 33 2 := f212 33 2 (by decide)
              have u221 := CI_b c211 (k := 191) (j := 16) bd_191_16
              refine T_if1 (by decide +kernel) ?_
              refine T_let 191 (by decide +kernel) ?_
              refine T_if1 (by decide +kernel) ?_
              refine T_leq (fun x222 e223 => ?_)
              have u224 := CI_b c211 (k := 191) (j := 16) bd_191_16
              exact T_ret ⟨c211, f213, (Or.inr o216), ⟨x222, rfl, by omega, by omega⟩⟩
            · exact T_ret ⟨c190, f192, (Or.inl (by omega)), ⟨(-1), rfl, by omega, by omega⟩⟩
          · refine T_if1 (by decide +kernel) ?_
            refine T_let 100 (by decide +kernel) ?_
            refine T_of (fX2_place_J32.eq_1 ..) ?_
            refine T_rR ?_
            refine T_if1 (by decide) ?_
            refine T_if1 (by decide +kernel) ?_
            refine T_useN (sf_X9_copyFrom_6_100 hfu s24 c25) (fun v230 s225 hq => ?_)
            obtain ⟨c226, f227, rfl⟩ := hq
            refine T_vN ?_
            have f228 := z_Fr.tr (R := R_X11_undo_1) f26 f227 rs_X9_copyFrom_6_100__X11_undo_1
            have t233 : s225 33 1 = s24 33 1 := f227 33 1 (by decide)
            have t234 : s225 33 2 = s24 33 2 := f227 33 2 (by decide)
            have t235 : s225 191 16 = s24 191 16 := f227 191 16 (by decide)
            refine T_if1 (by unfold z_bl; omega) ?_
            refine T_rI ?_
            refine T_ite (fun h236 => ?_) (fun h236 => ?_)
            · refine T_if1 ⟨(by decide +kernel), by unfold z_bl; omega⟩ ?_
              refine T_upg c226 bd_1_16 (by omega) (fun s237 c238 g240 g241 e242 => ?_)
              have f239 := z_Fr.upf (R := R_X11_undo_1) f228 g240 g241 (Or.inr (Or.inr (Or.inr (Or.inr (Or.inr (Or.inr (Or.inr (Or.inr (Or.inr (Or.inl (⟨rfl, by decide⟩)))))))))))
              have t243 : s237 33 1 = s225 33 1 := g240 33 1 (by decide)
              have t244 : s237 33 2 = s225 33 2 := g240 33 2 (by decide)
              have t245 : s237 191 16 = s225 191 16 := g240 191 16 (by decide)
              refine T_if1 (by decide +kernel) ?_
              refine T_useN (sf_X11_refresh_1T hfu s237 c238 (Or.inl (by omega))) (fun v251 s246 hq => ?_)
              obtain ⟨c247, f248, o252, rfl⟩ := hq
              refine T_vN ?_
              have f249 := z_Fr.tr (R := R_X11_undo_1) f239 f248 rs_X11_refresh_1__X11_undo_1
              have t255 : s246 33 1 = s237 33 1 := f248 33 1 (by decide)
              have t256 : s246 33 2 = s237 33 2 := f248 33 2 (by decide)
              have u257 := CI_b c247 (k := 191) (j := 16) bd_191_16
              refine T_if1 (by decide +kernel) ?_
              refine T_let 191 (by decide +kernel) ?_
              refine T_if1 (by decide +kernel) ?_
              refine T_leq (fun x258 e259 => ?_)
              have u260 := CI_b c247 (k := 191) (j := 16) bd_191_16
              exact T_ret ⟨c247, f249, (Or.inr o252), ⟨x258, rfl, by omega, by omega⟩⟩
            · exact T_ret ⟨c226, f228, (Or.inl (by omega)), ⟨(-1), rfl, by omega, by omega⟩⟩
          · refine T_if1 (by decide +kernel) ?_
            refine T_let 113 (by decide +kernel) ?_
            refine T_of (fX2_place_J32.eq_1 ..) ?_
            refine T_rR ?_
            refine T_if1 (by decide) ?_
            refine T_if1 (by decide +kernel) ?_
            refine T_useN (sf_X9_copyFrom_6_113 hfu s24 c25) (fun v266 s261 hq => ?_)
            obtain ⟨c262, f263, rfl⟩ := hq
            refine T_vN ?_
            have f264 := z_Fr.tr (R := R_X11_undo_1) f26 f263 rs_X9_copyFrom_6_113__X11_undo_1
            have t269 : s261 33 1 = s24 33 1 := f263 33 1 (by decide)
            have t270 : s261 33 2 = s24 33 2 := f263 33 2 (by decide)
            have t271 : s261 191 16 = s24 191 16 := f263 191 16 (by decide)
            refine T_if1 (by unfold z_bl; omega) ?_
            refine T_rI ?_
            refine T_ite (fun h272 => ?_) (fun h272 => ?_)
            · refine T_if1 ⟨(by decide +kernel), by unfold z_bl; omega⟩ ?_
              refine T_upg c262 bd_1_16 (by omega) (fun s273 c274 g276 g277 e278 => ?_)
              have f275 := z_Fr.upf (R := R_X11_undo_1) f264 g276 g277 (Or.inr (Or.inr (Or.inr (Or.inr (Or.inr (Or.inr (Or.inr (Or.inr (Or.inr (Or.inl (⟨rfl, by decide⟩)))))))))))
              have t279 : s273 33 1 = s261 33 1 := g276 33 1 (by decide)
              have t280 : s273 33 2 = s261 33 2 := g276 33 2 (by decide)
              have t281 : s273 191 16 = s261 191 16 := g276 191 16 (by decide)
              refine T_if1 (by decide +kernel) ?_
              refine T_useN (sf_X11_refresh_1T hfu s273 c274 (Or.inl (by omega))) (fun v287 s282 hq => ?_)
              obtain ⟨c283, f284, o288, rfl⟩ := hq
              refine T_vN ?_
              have f285 := z_Fr.tr (R := R_X11_undo_1) f275 f284 rs_X11_refresh_1__X11_undo_1
              have t291 : s282 33 1 = s273 33 1 := f284 33 1 (by decide)
              have t292 : s282 33 2 = s273 33 2 := f284 33 2 (by decide)
              have u293 := CI_b c283 (k := 191) (j := 16) bd_191_16
              refine T_if1 (by decide +kernel) ?_
              refine T_let 191 (by decide +kernel) ?_
              refine T_if1 (by decide +kernel) ?_
              refine T_leq (fun x294 e295 => ?_)
              have u296 := CI_b c283 (k := 191) (j := 16) bd_191_16
              exact T_ret ⟨c283, f285, (Or.inr o288), ⟨x294, rfl, by omega, by omega⟩⟩
            · exact T_ret ⟨c262, f264, (Or.inl (by omega)), ⟨(-1), rfl, by omega, by omega⟩⟩
          · refine T_if1 (by decide +kernel) ?_
            refine T_let 126 (by decide +kernel) ?_
            refine T_of (fX2_place_J32.eq_1 ..) ?_
            refine T_rR ?_
            refine T_if1 (by decide) ?_
            refine T_if1 (by decide +kernel) ?_
            refine T_useN (sf_X9_copyFrom_6_126 hfu s24 c25) (fun v302 s297 hq => ?_)
            obtain ⟨c298, f299, rfl⟩ := hq
            refine T_vN ?_
            have f300 := z_Fr.tr (R := R_X11_undo_1) f26 f299 rs_X9_copyFrom_6_126__X11_undo_1
            have t305 : s297 33 1 = s24 33 1 := f299 33 1 (by decide)
            have t306 : s297 33 2 = s24 33 2 := f299 33 2 (by decide)
            have t307 : s297 191 16 = s24 191 16 := f299 191 16 (by decide)
            refine T_if1 (by unfold z_bl; omega) ?_
            refine T_rI ?_
            refine T_ite (fun h308 => ?_) (fun h308 => ?_)
            · refine T_if1 ⟨(by decide +kernel), by unfold z_bl; omega⟩ ?_
              refine T_upg c298 bd_1_16 (by omega) (fun s309 c310 g312 g313 e314 => ?_)
              have f311 := z_Fr.upf (R := R_X11_undo_1) f300 g312 g313 (Or.inr (Or.inr (Or.inr (Or.inr (Or.inr (Or.inr (Or.inr (Or.inr (Or.inr (Or.inl (⟨rfl, by decide⟩)))))))))))
              have t315 : s309 33 1 = s297 33 1 := g312 33 1 (by decide)
              have t316 : s309 33 2 = s297 33 2 := g312 33 2 (by decide)
              have t317 : s309 191 16 = s297 191 16 := g312 191 16 (by decide)
              refine T_if1 (by decide +kernel) ?_
              refine T_useN (sf_X11_refresh_1T hfu s309 c310 (Or.inl (by omega))) (fun v323 s318 hq => ?_)
              obtain ⟨c319, f320, o324, rfl⟩ := hq
              refine T_vN ?_
              have f321 := z_Fr.tr (R := R_X11_undo_1) f311 f320 rs_X11_refresh_1__X11_undo_1
              have t327 : s318 33 1 = s309 33 1 := f320 33 1 (by decide)
              have t328 : s318 33 2 = s309 33 2 := f320 33 2 (by decide)
              have u329 := CI_b c319 (k := 191) (j := 16) bd_191_16
              refine T_if1 (by decide +kernel) ?_
              refine T_let 191 (by decide +kernel) ?_
              refine T_if1 (by decide +kernel) ?_
              refine T_leq (fun x330 e331 => ?_)
              have u332 := CI_b c319 (k := 191) (j := 16) bd_191_16
              exact T_ret ⟨c319, f321, (Or.inr o324), ⟨x330, rfl, by omega, by omega⟩⟩
            · exact T_ret ⟨c298, f300, (Or.inl (by omega)), ⟨(-1), rfl, by omega, by omega⟩⟩
          · refine T_if1 (by decide +kernel) ?_
            refine T_let 139 (by decide +kernel) ?_
            refine T_of (fX2_place_J32.eq_1 ..) ?_
            refine T_rR ?_
            refine T_if1 (by decide) ?_
            refine T_if1 (by decide +kernel) ?_
            refine T_useN (sf_X9_copyFrom_6_139 hfu s24 c25) (fun v338 s333 hq => ?_)
            obtain ⟨c334, f335, rfl⟩ := hq
            refine T_vN ?_
            have f336 := z_Fr.tr (R := R_X11_undo_1) f26 f335 rs_X9_copyFrom_6_139__X11_undo_1
            have t341 : s333 33 1 = s24 33 1 := f335 33 1 (by decide)
            have t342 : s333 33 2 = s24 33 2 := f335 33 2 (by decide)
            have t343 : s333 191 16 = s24 191 16 := f335 191 16 (by decide)
            refine T_if1 (by unfold z_bl; omega) ?_
            refine T_rI ?_
            refine T_ite (fun h344 => ?_) (fun h344 => ?_)
            · refine T_if1 ⟨(by decide +kernel), by unfold z_bl; omega⟩ ?_
              refine T_upg c334 bd_1_16 (by omega) (fun s345 c346 g348 g349 e350 => ?_)
              have f347 := z_Fr.upf (R := R_X11_undo_1) f336 g348 g349 (Or.inr (Or.inr (Or.inr (Or.inr (Or.inr (Or.inr (Or.inr (Or.inr (Or.inr (Or.inl (⟨rfl, by decide⟩)))))))))))
              have t351 : s345 33 1 = s333 33 1 := g348 33 1 (by decide)
              have t352 : s345 33 2 = s333 33 2 := g348 33 2 (by decide)
              have t353 : s345 191 16 = s333 191 16 := g348 191 16 (by decide)
              refine T_if1 (by decide +kernel) ?_
              refine T_useN (sf_X11_refresh_1T hfu s345 c346 (Or.inl (by omega))) (fun v359 s354 hq => ?_)
              obtain ⟨c355, f356, o360, rfl⟩ := hq
              refine T_vN ?_
              have f357 := z_Fr.tr (R := R_X11_undo_1) f347 f356 rs_X11_refresh_1__X11_undo_1
              have t363 : s354 33 1 = s345 33 1 := f356 33 1 (by decide)
              have t364 : s354 33 2 = s345 33 2 := f356 33 2 (by decide)
              have u365 := CI_b c355 (k := 191) (j := 16) bd_191_16
              refine T_if1 (by decide +kernel) ?_
              refine T_let 191 (by decide +kernel) ?_
              refine T_if1 (by decide +kernel) ?_
              refine T_leq (fun x366 e367 => ?_)
              have u368 := CI_b c355 (k := 191) (j := 16) bd_191_16
              exact T_ret ⟨c355, f357, (Or.inr o360), ⟨x366, rfl, by omega, by omega⟩⟩
            · exact T_ret ⟨c334, f336, (Or.inl (by omega)), ⟨(-1), rfl, by omega, by omega⟩⟩
          · refine T_if1 (by decide +kernel) ?_
            refine T_let 152 (by decide +kernel) ?_
            refine T_of (fX2_place_J32.eq_1 ..) ?_
            refine T_rR ?_
            refine T_if1 (by decide) ?_
            refine T_if1 (by decide +kernel) ?_
            refine T_useN (sf_X9_copyFrom_6_152 hfu s24 c25) (fun v374 s369 hq => ?_)
            obtain ⟨c370, f371, rfl⟩ := hq
            refine T_vN ?_
            have f372 := z_Fr.tr (R := R_X11_undo_1) f26 f371 rs_X9_copyFrom_6_152__X11_undo_1
            have t377 : s369 33 1 = s24 33 1 := f371 33 1 (by decide)
            have t378 : s369 33 2 = s24 33 2 := f371 33 2 (by decide)
            have t379 : s369 191 16 = s24 191 16 := f371 191 16 (by decide)
            refine T_if1 (by unfold z_bl; omega) ?_
            refine T_rI ?_
            refine T_ite (fun h380 => ?_) (fun h380 => ?_)
            · refine T_if1 ⟨(by decide +kernel), by unfold z_bl; omega⟩ ?_
              refine T_upg c370 bd_1_16 (by omega) (fun s381 c382 g384 g385 e386 => ?_)
              have f383 := z_Fr.upf (R := R_X11_undo_1) f372 g384 g385 (Or.inr (Or.inr (Or.inr (Or.inr (Or.inr (Or.inr (Or.inr (Or.inr (Or.inr (Or.inl (⟨rfl, by decide⟩)))))))))))
              have t387 : s381 33 1 = s369 33 1 := g384 33 1 (by decide)
              have t388 : s381 33 2 = s369 33 2 := g384 33 2 (by decide)
              have t389 : s381 191 16 = s369 191 16 := g384 191 16 (by decide)
              refine T_if1 (by decide +kernel) ?_
              refine T_useN (sf_X11_refresh_1T hfu s381 c382 (Or.inl (by omega))) (fun v395 s390 hq => ?_)
              obtain ⟨c391, f392, o396, rfl⟩ := hq
              refine T_vN ?_
              have f393 := z_Fr.tr (R := R_X11_undo_1) f383 f392 rs_X11_refresh_1__X11_undo_1
              have t399 : s390 33 1 = s381 33 1 := f392 33 1 (by decide)
              have t400 : s390 33 2 = s381 33 2 := f392 33 2 (by decide)
              have u401 := CI_b c391 (k := 191) (j := 16) bd_191_16
              refine T_if1 (by decide +kernel) ?_
              refine T_let 191 (by decide +kernel) ?_
              refine T_if1 (by decide +kernel) ?_
              refine T_leq (fun x402 e403 => ?_)
              have u404 := CI_b c391 (k := 191) (j := 16) bd_191_16
              exact T_ret ⟨c391, f393, (Or.inr o396), ⟨x402, rfl, by omega, by omega⟩⟩
            · exact T_ret ⟨c370, f372, (Or.inl (by omega)), ⟨(-1), rfl, by omega, by omega⟩⟩
          · refine T_if1 (by decide +kernel) ?_
            refine T_let 165 (by decide +kernel) ?_
            refine T_of (fX2_place_J32.eq_1 ..) ?_
            refine T_rR ?_
            refine T_if1 (by decide) ?_
            refine T_if1 (by decide +kernel) ?_
            refine T_useN (sf_X9_copyFrom_6_165 hfu s24 c25) (fun v410 s405 hq => ?_)
            obtain ⟨c406, f407, rfl⟩ := hq
            refine T_vN ?_
            have f408 := z_Fr.tr (R := R_X11_undo_1) f26 f407 rs_X9_copyFrom_6_165__X11_undo_1
            have t413 : s405 33 1 = s24 33 1 := f407 33 1 (by decide)
            have t414 : s405 33 2 = s24 33 2 := f407 33 2 (by decide)
            have t415 : s405 191 16 = s24 191 16 := f407 191 16 (by decide)
            refine T_if1 (by unfold z_bl; omega) ?_
            refine T_rI ?_
            refine T_ite (fun h416 => ?_) (fun h416 => ?_)
            · refine T_if1 ⟨(by decide +kernel), by unfold z_bl; omega⟩ ?_
              refine T_upg c406 bd_1_16 (by omega) (fun s417 c418 g420 g421 e422 => ?_)
              have f419 := z_Fr.upf (R := R_X11_undo_1) f408 g420 g421 (Or.inr (Or.inr (Or.inr (Or.inr (Or.inr (Or.inr (Or.inr (Or.inr (Or.inr (Or.inl (⟨rfl, by decide⟩)))))))))))
              have t423 : s417 33 1 = s405 33 1 := g420 33 1 (by decide)
              have t424 : s417 33 2 = s405 33 2 := g420 33 2 (by decide)
              have t425 : s417 191 16 = s405 191 16 := g420 191 16 (by decide)
              refine T_if1 (by decide +kernel) ?_
              refine T_useN (sf_X11_refresh_1T hfu s417 c418 (Or.inl (by omega))) (fun v431 s426 hq => ?_)
              obtain ⟨c427, f428, o432, rfl⟩ := hq
              refine T_vN ?_
              have f429 := z_Fr.tr (R := R_X11_undo_1) f419 f428 rs_X11_refresh_1__X11_undo_1
              have t435 : s426 33 1 = s417 33 1 := f428 33 1 (by decide)
              have t436 : s426 33 2 = s417 33 2 := f428 33 2 (by decide)
              have u437 := CI_b c427 (k := 191) (j := 16) bd_191_16
              refine T_if1 (by decide +kernel) ?_
              refine T_let 191 (by decide +kernel) ?_
              refine T_if1 (by decide +kernel) ?_
              refine T_leq (fun x438 e439 => ?_)
              have u440 := CI_b c427 (k := 191) (j := 16) bd_191_16
              exact T_ret ⟨c427, f429, (Or.inr o432), ⟨x438, rfl, by omega, by omega⟩⟩
            · exact T_ret ⟨c406, f408, (Or.inl (by omega)), ⟨(-1), rfl, by omega, by omega⟩⟩
          · refine T_if1 (by decide +kernel) ?_
            refine T_let 178 (by decide +kernel) ?_
            refine T_of (fX2_place_J32.eq_1 ..) ?_
            refine T_rR ?_
            refine T_if1 (by decide) ?_
            refine T_if1 (by decide +kernel) ?_
            refine T_useN (sf_X9_copyFrom_6_178 hfu s24 c25) (fun v446 s441 hq => ?_)
            obtain ⟨c442, f443, rfl⟩ := hq
            refine T_vN ?_
            have f444 := z_Fr.tr (R := R_X11_undo_1) f26 f443 rs_X9_copyFrom_6_178__X11_undo_1
            have t449 : s441 33 1 = s24 33 1 := f443 33 1 (by decide)
            have t450 : s441 33 2 = s24 33 2 := f443 33 2 (by decide)
            have t451 : s441 191 16 = s24 191 16 := f443 191 16 (by decide)
            refine T_if1 (by unfold z_bl; omega) ?_
            refine T_rI ?_
            refine T_ite (fun h452 => ?_) (fun h452 => ?_)
            · refine T_if1 ⟨(by decide +kernel), by unfold z_bl; omega⟩ ?_
              refine T_upg c442 bd_1_16 (by omega) (fun s453 c454 g456 g457 e458 => ?_)
              have f455 := z_Fr.upf (R := R_X11_undo_1) f444 g456 g457 (Or.inr (Or.inr (Or.inr (Or.inr (Or.inr (Or.inr (Or.inr (Or.inr (Or.inr (Or.inl (⟨rfl, by decide⟩)))))))))))
              have t459 : s453 33 1 = s441 33 1 := g456 33 1 (by decide)
              have t460 : s453 33 2 = s441 33 2 := g456 33 2 (by decide)
              have t461 : s453 191 16 = s441 191 16 := g456 191 16 (by decide)
              refine T_if1 (by decide +kernel) ?_
              refine T_useN (sf_X11_refresh_1T hfu s453 c454 (Or.inl (by omega))) (fun v467 s462 hq => ?_)
              obtain ⟨c463, f464, o468, rfl⟩ := hq
              refine T_vN ?_
              have f465 := z_Fr.tr (R := R_X11_undo_1) f455 f464 rs_X11_refresh_1__X11_undo_1
              have t471 : s462 33 1 = s453 33 1 := f464 33 1 (by decide)
              have t472 : s462 33 2 = s453 33 2 := f464 33 2 (by decide)
              have u473 := CI_b c463 (k := 191) (j := 16) bd_191_16
              refine T_if1 (by decide +kernel) ?_
              refine T_let 191 (by decide +kernel) ?_
              refine T_if1 (by decide +kernel) ?_
              refine T_leq (fun x474 e475 => ?_)
              have u476 := CI_b c463 (k := 191) (j := 16) bd_191_16
              exact T_ret ⟨c463, f465, (Or.inr o468), ⟨x474, rfl, by omega, by omega⟩⟩
            · exact T_ret ⟨c442, f444, (Or.inl (by omega)), ⟨(-1), rfl, by omega, by omega⟩⟩
    · refine T_if1 (by decide +kernel) ?_
      refine T_leq (fun x477 e478 => ?_)
      have u479 := CI_b c12 (k := 33) (j := 1) bd_33_1
      refine T_leq (fun x480 e481 => ?_)
      have w482 := z_wb e481
      refine T_of (fX2_takeBack_J38.eq_1 ..) ?_
      refine T_if1 (by decide +kernel) ?_
      refine T_upg c12 bd_33_1 (by omega) (fun s483 c484 g486 g487 e488 => ?_)
      have f485 := z_Fr.upf (R := R_X11_undo_1) f13 g486 g487 (Or.inr (Or.inl (⟨by decide, by decide⟩)))
      have t489 : s483 33 2 = s11 33 2 := g487 2 (by decide)
      have t490 : s483 191 16 = s11 191 16 := g486 191 16 (by decide)
      have r491 := y_V16.fr r19 (g486 1 16 (by decide)) (g486 191 16 (by decide)) (g486 6 6 (by decide)) (fun b => g486 195 b (by decide)) (fun b => g486 197 b (by decide)) (fun b => g486 193 b (by decide)) (fun b => g486 215 b (by decide)) (fun b => g486 8 b (by decide)) (fun b => g486 12 b (by decide)) (fun b => g486 14 b (by decide))
      refine T_if1 (by decide +kernel) ?_
      refine T_bR ?_
      refine T_of (fX2_place.eq_1 ..) ?_
      refine T_if1 (by decide +kernel) ?_
      refine T_leq (fun x492 e493 => ?_)
      have u494 := CI_b c484 (k := 33) (j := 1) bd_33_1
      refine T_ite (fun h495 => ?_) (fun h495 => ?_)
      · refine T_of (fX2_place_J31.eq_1 ..) ?_
        exfalso
        omega
      · refine T_if1 (by decide +kernel) ?_
        refine T_leq (fun x496 e497 => ?_)
        have u498 := CI_b c484 (k := 33) (j := 1) bd_33_1
        refine T_if1 (by decide +kernel) ?_
        refine T_let 34 (by decide +kernel) ?_
        refine T_if1 (by decide +kernel) ?_
        refine T_let 12 (by decide +kernel) ?_
        refine T_ite (fun h499 => ?_) (fun h499 => ?_)
        · refine T_of (fX2_place_J31.eq_1 ..) ?_
          exfalso
          omega
        · refine T_if1 (by decide +kernel) ?_
          refine T_let 34 (by decide +kernel) ?_
          refine T_if1 (by decide +kernel) ?_
          refine T_leq (fun x500 e501 => ?_)
          have u502 := CI_b c484 (k := 33) (j := 1) bd_33_1
          rcases (show x500 = 0 ∨ x500 = 1 ∨ x500 = 2 ∨ x500 = 3 ∨ x500 = 4 ∨ x500 = 5 ∨ x500 = 6 ∨ x500 = 7 ∨ x500 = 8 ∨ x500 = 9 ∨ x500 = 10 ∨ x500 = 11 by omega) with rfl | rfl | rfl | rfl | rfl | rfl | rfl | rfl | rfl | rfl | rfl | rfl
          · refine T_if1 (by decide +kernel) ?_
            refine T_let 35 (by decide +kernel) ?_
            refine T_of (fX2_place_J32.eq_1 ..) ?_
            refine T_rR ?_
            refine T_if1 (by decide) ?_
            refine T_if1 (by decide +kernel) ?_
            refine T_useN (sf_X9_copyFrom_6_35 hfu s483 c484) (fun v509 s504 hq => ?_)
            obtain ⟨c505, f506, rfl⟩ := hq
            refine T_vN ?_
            have f507 := z_Fr.tr (R := R_X11_undo_1) f485 f506 rs_X9_copyFrom_6_35__X11_undo_1
            have t512 : s504 33 1 = s483 33 1 := f506 33 1 (by decide)
            have t513 : s504 33 2 = s483 33 2 := f506 33 2 (by decide)
            have t514 : s504 191 16 = s483 191 16 := f506 191 16 (by decide)
            refine T_if1 (by unfold z_bl; omega) ?_
            refine T_rI ?_
            refine T_ite (fun h515 => ?_) (fun h515 => ?_)
            · refine T_if1 ⟨(by decide +kernel), by unfold z_bl; omega⟩ ?_
              refine T_upg c505 bd_1_16 (by omega) (fun s516 c517 g519 g520 e521 => ?_)
              have f518 := z_Fr.upf (R := R_X11_undo_1) f507 g519 g520 (Or.inr (Or.inr (Or.inr (Or.inr (Or.inr (Or.inr (Or.inr (Or.inr (Or.inr (Or.inl (⟨rfl, by decide⟩)))))))))))
              have t522 : s516 33 1 = s504 33 1 := g519 33 1 (by decide)
              have t523 : s516 33 2 = s504 33 2 := g519 33 2 (by decide)
              have t524 : s516 191 16 = s504 191 16 := g519 191 16 (by decide)
              refine T_if1 (by decide +kernel) ?_
              refine T_useN (sf_X11_refresh_1T hfu s516 c517 (Or.inl (by omega))) (fun v530 s525 hq => ?_)
              obtain ⟨c526, f527, o531, rfl⟩ := hq
              refine T_vN ?_
              have f528 := z_Fr.tr (R := R_X11_undo_1) f518 f527 rs_X11_refresh_1__X11_undo_1
              have t534 : s525 33 1 = s516 33 1 := f527 33 1 (by decide)
              have t535 : s525 33 2 = s516 33 2 := f527 33 2 (by decide)
              have u536 := CI_b c526 (k := 191) (j := 16) bd_191_16
              refine T_if1 (by decide +kernel) ?_
              refine T_let 191 (by decide +kernel) ?_
              refine T_if1 (by decide +kernel) ?_
              refine T_leq (fun x537 e538 => ?_)
              have u539 := CI_b c526 (k := 191) (j := 16) bd_191_16
              exact T_ret ⟨c526, f528, (Or.inr o531), ⟨x537, rfl, by omega, by omega⟩⟩
            · exact T_ret ⟨c505, f507, (Or.inl (by omega)), ⟨(-1), rfl, by omega, by omega⟩⟩
          · refine T_if1 (by decide +kernel) ?_
            refine T_let 48 (by decide +kernel) ?_
            refine T_of (fX2_place_J32.eq_1 ..) ?_
            refine T_rR ?_
            refine T_if1 (by decide) ?_
            refine T_if1 (by decide +kernel) ?_
            refine T_useN (sf_X9_copyFrom_6_48 hfu s483 c484) (fun v545 s540 hq => ?_)
            obtain ⟨c541, f542, rfl⟩ := hq
            refine T_vN ?_
            have f543 := z_Fr.tr (R := R_X11_undo_1) f485 f542 rs_X9_copyFrom_6_48__X11_undo_1
            have t548 : s540 33 1 = s483 33 1 := f542 33 1 (by decide)
            have t549 : s540 33 2 = s483 33 2 := f542 33 2 (by decide)
            have t550 : s540 191 16 = s483 191 16 := f542 191 16 (by decide)
            refine T_if1 (by unfold z_bl; omega) ?_
            refine T_rI ?_
            refine T_ite (fun h551 => ?_) (fun h551 => ?_)
            · refine T_if1 ⟨(by decide +kernel), by unfold z_bl; omega⟩ ?_
              refine T_upg c541 bd_1_16 (by omega) (fun s552 c553 g555 g556 e557 => ?_)
              have f554 := z_Fr.upf (R := R_X11_undo_1) f543 g555 g556 (Or.inr (Or.inr (Or.inr (Or.inr (Or.inr (Or.inr (Or.inr (Or.inr (Or.inr (Or.inl (⟨rfl, by decide⟩)))))))))))
              have t558 : s552 33 1 = s540 33 1 := g555 33 1 (by decide)
              have t559 : s552 33 2 = s540 33 2 := g555 33 2 (by decide)
              have t560 : s552 191 16 = s540 191 16 := g555 191 16 (by decide)
              refine T_if1 (by decide +kernel) ?_
              refine T_useN (sf_X11_refresh_1T hfu s552 c553 (Or.inl (by omega))) (fun v566 s561 hq => ?_)
              obtain ⟨c562, f563, o567, rfl⟩ := hq
              refine T_vN ?_
              have f564 := z_Fr.tr (R := R_X11_undo_1) f554 f563 rs_X11_refresh_1__X11_undo_1
              have t570 : s561 33 1 = s552 33 1 := f563 33 1 (by decide)
              have t571 : s561 33 2 = s552 33 2 := f563 33 2 (by decide)
              have u572 := CI_b c562 (k := 191) (j := 16) bd_191_16
              refine T_if1 (by decide +kernel) ?_
              refine T_let 191 (by decide +kernel) ?_
              refine T_if1 (by decide +kernel) ?_
              refine T_leq (fun x573 e574 => ?_)
              have u575 := CI_b c562 (k := 191) (j := 16) bd_191_16
              exact T_ret ⟨c562, f564, (Or.inr o567), ⟨x573, rfl, by omega, by omega⟩⟩
            · exact T_ret ⟨c541, f543, (Or.inl (by omega)), ⟨(-1), rfl, by omega, by omega⟩⟩
          · refine T_if1 (by decide +kernel) ?_
            refine T_let 61 (by decide +kernel) ?_
            refine T_of (fX2_place_J32.eq_1 ..) ?_
            refine T_rR ?_
            refine T_if1 (by decide) ?_
            refine T_if1 (by decide +kernel) ?_
            refine T_useN (sf_X9_copyFrom_6_61 hfu s483 c484) (fun v581 s576 hq => ?_)
            obtain ⟨c577, f578, rfl⟩ := hq
            refine T_vN ?_
            have f579 := z_Fr.tr (R := R_X11_undo_1) f485 f578 rs_X9_copyFrom_6_61__X11_undo_1
            have t584 : s576 33 1 = s483 33 1 := f578 33 1 (by decide)
            have t585 : s576 33 2 = s483 33 2 := f578 33 2 (by decide)
            have t586 : s576 191 16 = s483 191 16 := f578 191 16 (by decide)
            refine T_if1 (by unfold z_bl; omega) ?_
            refine T_rI ?_
            refine T_ite (fun h587 => ?_) (fun h587 => ?_)
            · refine T_if1 ⟨(by decide +kernel), by unfold z_bl; omega⟩ ?_
              refine T_upg c577 bd_1_16 (by omega) (fun s588 c589 g591 g592 e593 => ?_)
              have f590 := z_Fr.upf (R := R_X11_undo_1) f579 g591 g592 (Or.inr (Or.inr (Or.inr (Or.inr (Or.inr (Or.inr (Or.inr (Or.inr (Or.inr (Or.inl (⟨rfl, by decide⟩)))))))))))
              have t594 : s588 33 1 = s576 33 1 := g591 33 1 (by decide)
              have t595 : s588 33 2 = s576 33 2 := g591 33 2 (by decide)
              have t596 : s588 191 16 = s576 191 16 := g591 191 16 (by decide)
              refine T_if1 (by decide +kernel) ?_
              refine T_useN (sf_X11_refresh_1T hfu s588 c589 (Or.inl (by omega))) (fun v602 s597 hq => ?_)
              obtain ⟨c598, f599, o603, rfl⟩ := hq
              refine T_vN ?_
              have f600 := z_Fr.tr (R := R_X11_undo_1) f590 f599 rs_X11_refresh_1__X11_undo_1
              have t606 : s597 33 1 = s588 33 1 := f599 33 1 (by decide)
              have t607 : s597 33 2 = s588 33 2 := f599 33 2 (by decide)
              have u608 := CI_b c598 (k := 191) (j := 16) bd_191_16
              refine T_if1 (by decide +kernel) ?_
              refine T_let 191 (by decide +kernel) ?_
              refine T_if1 (by decide +kernel) ?_
              refine T_leq (fun x609 e610 => ?_)
              have u611 := CI_b c598 (k := 191) (j := 16) bd_191_16
              exact T_ret ⟨c598, f600, (Or.inr o603), ⟨x609, rfl, by omega, by omega⟩⟩
            · exact T_ret ⟨c577, f579, (Or.inl (by omega)), ⟨(-1), rfl, by omega, by omega⟩⟩
          · refine T_if1 (by decide +kernel) ?_
            refine T_let 74 (by decide +kernel) ?_
            refine T_of (fX2_place_J32.eq_1 ..) ?_
            refine T_rR ?_
            refine T_if1 (by decide) ?_
            refine T_if1 (by decide +kernel) ?_
            refine T_useN (sf_X9_copyFrom_6_74 hfu s483 c484) (fun v617 s612 hq => ?_)
            obtain ⟨c613, f614, rfl⟩ := hq
            refine T_vN ?_
            have f615 := z_Fr.tr (R := R_X11_undo_1) f485 f614 rs_X9_copyFrom_6_74__X11_undo_1
            have t620 : s612 33 1 = s483 33 1 := f614 33 1 (by decide)
            have t621 : s612 33 2 = s483 33 2 := f614 33 2 (by decide)
            have t622 : s612 191 16 = s483 191 16 := f614 191 16 (by decide)
            refine T_if1 (by unfold z_bl; omega) ?_
            refine T_rI ?_
            refine T_ite (fun h623 => ?_) (fun h623 => ?_)
            · refine T_if1 ⟨(by decide +kernel), by unfold z_bl; omega⟩ ?_
              refine T_upg c613 bd_1_16 (by omega) (fun s624 c625 g627 g628 e629 => ?_)
              have f626 := z_Fr.upf (R := R_X11_undo_1) f615 g627 g628 (Or.inr (Or.inr (Or.inr (Or.inr (Or.inr (Or.inr (Or.inr (Or.inr (Or.inr (Or.inl (⟨rfl, by decide⟩)))))))))))
              have t630 : s624 33 1 = s612 33 1 := g627 33 1 (by decide)
              have t631 : s624 33 2 = s612 33 2 := g627 33 2 (by decide)
              have t632 : s624 191 16 = s612 191 16 := g627 191 16 (by decide)
              refine T_if1 (by decide +kernel) ?_
              refine T_useN (sf_X11_refresh_1T hfu s624 c625 (Or.inl (by omega))) (fun v638 s633 hq => ?_)
              obtain ⟨c634, f635, o639, rfl⟩ := hq
              refine T_vN ?_
              have f636 := z_Fr.tr (R := R_X11_undo_1) f626 f635 rs_X11_refresh_1__X11_undo_1
              have t642 : s633 33 1 = s624 33 1 := f635 33 1 (by decide)
              have t643 : s633 33 2 = s624 33 2 := f635 33 2 (by decide)
              have u644 := CI_b c634 (k := 191) (j := 16) bd_191_16
              refine T_if1 (by decide +kernel) ?_
              refine T_let 191 (by decide +kernel) ?_
              refine T_if1 (by decide +kernel) ?_
              refine T_leq (fun x645 e646 => ?_)
              have u647 := CI_b c634 (k := 191) (j := 16) bd_191_16
              exact T_ret ⟨c634, f636, (Or.inr o639), ⟨x645, rfl, by omega, by omega⟩⟩
            · exact T_ret ⟨c613, f615, (Or.inl (by omega)), ⟨(-1), rfl, by omega, by omega⟩⟩
          · refine T_if1 (by decide +kernel) ?_
            refine T_let 87 (by decide +kernel) ?_
            refine T_of (fX2_place_J32.eq_1 ..) ?_
            refine T_rR ?_
            refine T_if1 (by decide) ?_
            refine T_if1 (by decide +kernel) ?_
            refine T_useN (sf_X9_copyFrom_6_87 hfu s483 c484) (fun v653 s648 hq => ?_)
            obtain ⟨c649, f650, rfl⟩ := hq
            refine T_vN ?_
            have f651 := z_Fr.tr (R := R_X11_undo_1) f485 f650 rs_X9_copyFrom_6_87__X11_undo_1
            have t656 : s648 33 1 = s483 33 1 := f650 33 1 (by decide)
            have t657 : s648 33 2 = s483 33 2 := f650 33 2 (by decide)
            have t658 : s648 191 16 = s483 191 16 := f650 191 16 (by decide)
            refine T_if1 (by unfold z_bl; omega) ?_
            refine T_rI ?_
            refine T_ite (fun h659 => ?_) (fun h659 => ?_)
            · refine T_if1 ⟨(by decide +kernel), by unfold z_bl; omega⟩ ?_
              refine T_upg c649 bd_1_16 (by omega) (fun s660 c661 g663 g664 e665 => ?_)
              have f662 := z_Fr.upf (R := R_X11_undo_1) f651 g663 g664 (Or.inr (Or.inr (Or.inr (Or.inr (Or.inr (Or.inr (Or.inr (Or.inr (Or.inr (Or.inl (⟨rfl, by decide⟩)))))))))))
              have t666 : s660 33 1 = s648 33 1 := g663 33 1 (by decide)
              have t667 : s660 33 2 = s648 33 2 := g663 33 2 (by decide)
              have t668 : s660 191 16 = s648 191 16 := g663 191 16 (by decide)
              refine T_if1 (by decide +kernel) ?_
              refine T_useN (sf_X11_refresh_1T hfu s660 c661 (Or.inl (by omega))) (fun v674 s669 hq => ?_)
              obtain ⟨c670, f671, o675, rfl⟩ := hq
              refine T_vN ?_
              have f672 := z_Fr.tr (R := R_X11_undo_1) f662 f671 rs_X11_refresh_1__X11_undo_1
              have t678 : s669 33 1 = s660 33 1 := f671 33 1 (by decide)
              have t679 : s669 33 2 = s660 33 2 := f671 33 2 (by decide)
              have u680 := CI_b c670 (k := 191) (j := 16) bd_191_16
              refine T_if1 (by decide +kernel) ?_
              refine T_let 191 (by decide +kernel) ?_
              refine T_if1 (by decide +kernel) ?_
              refine T_leq (fun x681 e682 => ?_)
              have u683 := CI_b c670 (k := 191) (j := 16) bd_191_16
              exact T_ret ⟨c670, f672, (Or.inr o675), ⟨x681, rfl, by omega, by omega⟩⟩
            · exact T_ret ⟨c649, f651, (Or.inl (by omega)), ⟨(-1), rfl, by omega, by omega⟩⟩
          · refine T_if1 (by decide +kernel) ?_
            refine T_let 100 (by decide +kernel) ?_
            refine T_of (fX2_place_J32.eq_1 ..) ?_
            refine T_rR ?_
            refine T_if1 (by decide) ?_
            refine T_if1 (by decide +kernel) ?_
            refine T_useN (sf_X9_copyFrom_6_100 hfu s483 c484) (fun v689 s684 hq => ?_)
            obtain ⟨c685, f686, rfl⟩ := hq
            refine T_vN ?_
            have f687 := z_Fr.tr (R := R_X11_undo_1) f485 f686 rs_X9_copyFrom_6_100__X11_undo_1
            have t692 : s684 33 1 = s483 33 1 := f686 33 1 (by decide)
            have t693 : s684 33 2 = s483 33 2 := f686 33 2 (by decide)
            have t694 : s684 191 16 = s483 191 16 := f686 191 16 (by decide)
            refine T_if1 (by unfold z_bl; omega) ?_
            refine T_rI ?_
            refine T_ite (fun h695 => ?_) (fun h695 => ?_)
            · refine T_if1 ⟨(by decide +kernel), by unfold z_bl; omega⟩ ?_
              refine T_upg c685 bd_1_16 (by omega) (fun s696 c697 g699 g700 e701 => ?_)
              have f698 := z_Fr.upf (R := R_X11_undo_1) f687 g699 g700 (Or.inr (Or.inr (Or.inr (Or.inr (Or.inr (Or.inr (Or.inr (Or.inr (Or.inr (Or.inl (⟨rfl, by decide⟩)))))))))))
              have t702 : s696 33 1 = s684 33 1 := g699 33 1 (by decide)
              have t703 : s696 33 2 = s684 33 2 := g699 33 2 (by decide)
              have t704 : s696 191 16 = s684 191 16 := g699 191 16 (by decide)
              refine T_if1 (by decide +kernel) ?_
              refine T_useN (sf_X11_refresh_1T hfu s696 c697 (Or.inl (by omega))) (fun v710 s705 hq => ?_)
              obtain ⟨c706, f707, o711, rfl⟩ := hq
              refine T_vN ?_
              have f708 := z_Fr.tr (R := R_X11_undo_1) f698 f707 rs_X11_refresh_1__X11_undo_1
              have t714 : s705 33 1 = s696 33 1 := f707 33 1 (by decide)
              have t715 : s705 33 2 = s696 33 2 := f707 33 2 (by decide)
              have u716 := CI_b c706 (k := 191) (j := 16) bd_191_16
              refine T_if1 (by decide +kernel) ?_
              refine T_let 191 (by decide +kernel) ?_
              refine T_if1 (by decide +kernel) ?_
              refine T_leq (fun x717 e718 => ?_)
              have u719 := CI_b c706 (k := 191) (j := 16) bd_191_16
              exact T_ret ⟨c706, f708, (Or.inr o711), ⟨x717, rfl, by omega, by omega⟩⟩
            · exact T_ret ⟨c685, f687, (Or.inl (by omega)), ⟨(-1), rfl, by omega, by omega⟩⟩
          · refine T_if1 (by decide +kernel) ?_
            refine T_let 113 (by decide +kernel) ?_
            refine T_of (fX2_place_J32.eq_1 ..) ?_
            refine T_rR ?_
            refine T_if1 (by decide) ?_
            refine T_if1 (by decide +kernel) ?_
            refine T_useN (sf_X9_copyFrom_6_113 hfu s483 c484) (fun v725 s720 hq => ?_)
            obtain ⟨c721, f722, rfl⟩ := hq
            refine T_vN ?_
            have f723 := z_Fr.tr (R := R_X11_undo_1) f485 f722 rs_X9_copyFrom_6_113__X11_undo_1
            have t728 : s720 33 1 = s483 33 1 := f722 33 1 (by decide)
            have t729 : s720 33 2 = s483 33 2 := f722 33 2 (by decide)
            have t730 : s720 191 16 = s483 191 16 := f722 191 16 (by decide)
            refine T_if1 (by unfold z_bl; omega) ?_
            refine T_rI ?_
            refine T_ite (fun h731 => ?_) (fun h731 => ?_)
            · refine T_if1 ⟨(by decide +kernel), by unfold z_bl; omega⟩ ?_
              refine T_upg c721 bd_1_16 (by omega) (fun s732 c733 g735 g736 e737 => ?_)
              have f734 := z_Fr.upf (R := R_X11_undo_1) f723 g735 g736 (Or.inr (Or.inr (Or.inr (Or.inr (Or.inr (Or.inr (Or.inr (Or.inr (Or.inr (Or.inl (⟨rfl, by decide⟩)))))))))))
              have t738 : s732 33 1 = s720 33 1 := g735 33 1 (by decide)
              have t739 : s732 33 2 = s720 33 2 := g735 33 2 (by decide)
              have t740 : s732 191 16 = s720 191 16 := g735 191 16 (by decide)
              refine T_if1 (by decide +kernel) ?_
              refine T_useN (sf_X11_refresh_1T hfu s732 c733 (Or.inl (by omega))) (fun v746 s741 hq => ?_)
              obtain ⟨c742, f743, o747, rfl⟩ := hq
              refine T_vN ?_
              have f744 := z_Fr.tr (R := R_X11_undo_1) f734 f743 rs_X11_refresh_1__X11_undo_1
              have t750 : s741 33 1 = s732 33 1 := f743 33 1 (by decide)
              have t751 : s741 33 2 = s732 33 2 := f743 33 2 (by decide)
              have u752 := CI_b c742 (k := 191) (j := 16) bd_191_16
              refine T_if1 (by decide +kernel) ?_
              refine T_let 191 (by decide +kernel) ?_
              refine T_if1 (by decide +kernel) ?_
              refine T_leq (fun x753 e754 => ?_)
              have u755 := CI_b c742 (k := 191) (j := 16) bd_191_16
              exact T_ret ⟨c742, f744, (Or.inr o747), ⟨x753, rfl, by omega, by omega⟩⟩
            · exact T_ret ⟨c721, f723, (Or.inl (by omega)), ⟨(-1), rfl, by omega, by omega⟩⟩
          · refine T_if1 (by decide +kernel) ?_
            refine T_let 126 (by decide +kernel) ?_
            refine T_of (fX2_place_J32.eq_1 ..) ?_
            refine T_rR ?_
            refine T_if1 (by decide) ?_
            refine T_if1 (by decide +kernel) ?_
            refine T_useN (sf_X9_copyFrom_6_126 hfu s483 c484) (fun v761 s756 hq => ?_)
            obtain ⟨c757, f758, rfl⟩ := hq
            refine T_vN ?_
            have f759 := z_Fr.tr (R := R_X11_undo_1) f485 f758 rs_X9_copyFrom_6_126__X11_undo_1
            have t764 : s756 33 1 = s483 33 1 := f758 33 1 (by decide)
            have t765 : s756 33 2 = s483 33 2 := f758 33 2 (by decide)
            have t766 : s756 191 16 = s483 191 16 := f758 191 16 (by decide)
            refine T_if1 (by unfold z_bl; omega) ?_
            refine T_rI ?_
            refine T_ite (fun h767 => ?_) (fun h767 => ?_)
            · refine T_if1 ⟨(by decide +kernel), by unfold z_bl; omega⟩ ?_
              refine T_upg c757 bd_1_16 (by omega) (fun s768 c769 g771 g772 e773 => ?_)
              have f770 := z_Fr.upf (R := R_X11_undo_1) f759 g771 g772 (Or.inr (Or.inr (Or.inr (Or.inr (Or.inr (Or.inr (Or.inr (Or.inr (Or.inr (Or.inl (⟨rfl, by decide⟩)))))))))))
              have t774 : s768 33 1 = s756 33 1 := g771 33 1 (by decide)
              have t775 : s768 33 2 = s756 33 2 := g771 33 2 (by decide)
              have t776 : s768 191 16 = s756 191 16 := g771 191 16 (by decide)
              refine T_if1 (by decide +kernel) ?_
              refine T_useN (sf_X11_refresh_1T hfu s768 c769 (Or.inl (by omega))) (fun v782 s777 hq => ?_)
              obtain ⟨c778, f779, o783, rfl⟩ := hq
              refine T_vN ?_
              have f780 := z_Fr.tr (R := R_X11_undo_1) f770 f779 rs_X11_refresh_1__X11_undo_1
              have t786 : s777 33 1 = s768 33 1 := f779 33 1 (by decide)
              have t787 : s777 33 2 = s768 33 2 := f779 33 2 (by decide)
              have u788 := CI_b c778 (k := 191) (j := 16) bd_191_16
              refine T_if1 (by decide +kernel) ?_
              refine T_let 191 (by decide +kernel) ?_
              refine T_if1 (by decide +kernel) ?_
              refine T_leq (fun x789 e790 => ?_)
              have u791 := CI_b c778 (k := 191) (j := 16) bd_191_16
              exact T_ret ⟨c778, f780, (Or.inr o783), ⟨x789, rfl, by omega, by omega⟩⟩
            · exact T_ret ⟨c757, f759, (Or.inl (by omega)), ⟨(-1), rfl, by omega, by omega⟩⟩
          · refine T_if1 (by decide +kernel) ?_
            refine T_let 139 (by decide +kernel) ?_
            refine T_of (fX2_place_J32.eq_1 ..) ?_
            refine T_rR ?_
            refine T_if1 (by decide) ?_
            refine T_if1 (by decide +kernel) ?_
            refine T_useN (sf_X9_copyFrom_6_139 hfu s483 c484) (fun v797 s792 hq => ?_)
            obtain ⟨c793, f794, rfl⟩ := hq
            refine T_vN ?_
            have f795 := z_Fr.tr (R := R_X11_undo_1) f485 f794 rs_X9_copyFrom_6_139__X11_undo_1
            have t800 : s792 33 1 = s483 33 1 := f794 33 1 (by decide)
            have t801 : s792 33 2 = s483 33 2 := f794 33 2 (by decide)
            have t802 : s792 191 16 = s483 191 16 := f794 191 16 (by decide)
            refine T_if1 (by unfold z_bl; omega) ?_
            refine T_rI ?_
            refine T_ite (fun h803 => ?_) (fun h803 => ?_)
            · refine T_if1 ⟨(by decide +kernel), by unfold z_bl; omega⟩ ?_
              refine T_upg c793 bd_1_16 (by omega) (fun s804 c805 g807 g808 e809 => ?_)
              have f806 := z_Fr.upf (R := R_X11_undo_1) f795 g807 g808 (Or.inr (Or.inr (Or.inr (Or.inr (Or.inr (Or.inr (Or.inr (Or.inr (Or.inr (Or.inl (⟨rfl, by decide⟩)))))))))))
              have t810 : s804 33 1 = s792 33 1 := g807 33 1 (by decide)
              have t811 : s804 33 2 = s792 33 2 := g807 33 2 (by decide)
              have t812 : s804 191 16 = s792 191 16 := g807 191 16 (by decide)
              refine T_if1 (by decide +kernel) ?_
              refine T_useN (sf_X11_refresh_1T hfu s804 c805 (Or.inl (by omega))) (fun v818 s813 hq => ?_)
              obtain ⟨c814, f815, o819, rfl⟩ := hq
              refine T_vN ?_
              have f816 := z_Fr.tr (R := R_X11_undo_1) f806 f815 rs_X11_refresh_1__X11_undo_1
              have t822 : s813 33 1 = s804 33 1 := f815 33 1 (by decide)
              have t823 : s813 33 2 = s804 33 2 := f815 33 2 (by decide)
              have u824 := CI_b c814 (k := 191) (j := 16) bd_191_16
              refine T_if1 (by decide +kernel) ?_
              refine T_let 191 (by decide +kernel) ?_
              refine T_if1 (by decide +kernel) ?_
              refine T_leq (fun x825 e826 => ?_)
              have u827 := CI_b c814 (k := 191) (j := 16) bd_191_16
              exact T_ret ⟨c814, f816, (Or.inr o819), ⟨x825, rfl, by omega, by omega⟩⟩
            · exact T_ret ⟨c793, f795, (Or.inl (by omega)), ⟨(-1), rfl, by omega, by omega⟩⟩
          · refine T_if1 (by decide +kernel) ?_
            refine T_let 152 (by decide +kernel) ?_
            refine T_of (fX2_place_J32.eq_1 ..) ?_
            refine T_rR ?_
            refine T_if1 (by decide) ?_
            refine T_if1 (by decide +kernel) ?_
            refine T_useN (sf_X9_copyFrom_6_152 hfu s483 c484) (fun v833 s828 hq => ?_)
            obtain ⟨c829, f830, rfl⟩ := hq
            refine T_vN ?_
            have f831 := z_Fr.tr (R := R_X11_undo_1) f485 f830 rs_X9_copyFrom_6_152__X11_undo_1
            have t836 : s828 33 1 = s483 33 1 := f830 33 1 (by decide)
            have t837 : s828 33 2 = s483 33 2 := f830 33 2 (by decide)
            have t838 : s828 191 16 = s483 191 16 := f830 191 16 (by decide)
            refine T_if1 (by unfold z_bl; omega) ?_
            refine T_rI ?_
            refine T_ite (fun h839 => ?_) (fun h839 => ?_)
            · refine T_if1 ⟨(by decide +kernel), by unfold z_bl; omega⟩ ?_
              refine T_upg c829 bd_1_16 (by omega) (fun s840 c841 g843 g844 e845 => ?_)
              have f842 := z_Fr.upf (R := R_X11_undo_1) f831 g843 g844 (Or.inr (Or.inr (Or.inr (Or.inr (Or.inr (Or.inr (Or.inr (Or.inr (Or.inr (Or.inl (⟨rfl, by decide⟩)))))))))))
              have t846 : s840 33 1 = s828 33 1 := g843 33 1 (by decide)
              have t847 : s840 33 2 = s828 33 2 := g843 33 2 (by decide)
              have t848 : s840 191 16 = s828 191 16 := g843 191 16 (by decide)
              refine T_if1 (by decide +kernel) ?_
              refine T_useN (sf_X11_refresh_1T hfu s840 c841 (Or.inl (by omega))) (fun v854 s849 hq => ?_)
              obtain ⟨c850, f851, o855, rfl⟩ := hq
              refine T_vN ?_
              have f852 := z_Fr.tr (R := R_X11_undo_1) f842 f851 rs_X11_refresh_1__X11_undo_1
              have t858 : s849 33 1 = s840 33 1 := f851 33 1 (by decide)
              have t859 : s849 33 2 = s840 33 2 := f851 33 2 (by decide)
              have u860 := CI_b c850 (k := 191) (j := 16) bd_191_16
              refine T_if1 (by decide +kernel) ?_
              refine T_let 191 (by decide +kernel) ?_
              refine T_if1 (by decide +kernel) ?_
              refine T_leq (fun x861 e862 => ?_)
              have u863 := CI_b c850 (k := 191) (j := 16) bd_191_16
              exact T_ret ⟨c850, f852, (Or.inr o855), ⟨x861, rfl, by omega, by omega⟩⟩
            · exact T_ret ⟨c829, f831, (Or.inl (by omega)), ⟨(-1), rfl, by omega, by omega⟩⟩
          · refine T_if1 (by decide +kernel) ?_
            refine T_let 165 (by decide +kernel) ?_
            refine T_of (fX2_place_J32.eq_1 ..) ?_
            refine T_rR ?_
            refine T_if1 (by decide) ?_
            refine T_if1 (by decide +kernel) ?_
            refine T_useN (sf_X9_copyFrom_6_165 hfu s483 c484) (fun v869 s864 hq => ?_)
            obtain ⟨c865, f866, rfl⟩ := hq
            refine T_vN ?_
            have f867 := z_Fr.tr (R := R_X11_undo_1) f485 f866 rs_X9_copyFrom_6_165__X11_undo_1
            have t872 : s864 33 1 = s483 33 1 := f866 33 1 (by decide)
            have t873 : s864 33 2 = s483 33 2 := f866 33 2 (by decide)
            have t874 : s864 191 16 = s483 191 16 := f866 191 16 (by decide)
            refine T_if1 (by unfold z_bl; omega) ?_
            refine T_rI ?_
            refine T_ite (fun h875 => ?_) (fun h875 => ?_)
            · refine T_if1 ⟨(by decide +kernel), by unfold z_bl; omega⟩ ?_
              refine T_upg c865 bd_1_16 (by omega) (fun s876 c877 g879 g880 e881 => ?_)
              have f878 := z_Fr.upf (R := R_X11_undo_1) f867 g879 g880 (Or.inr (Or.inr (Or.inr (Or.inr (Or.inr (Or.inr (Or.inr (Or.inr (Or.inr (Or.inl (⟨rfl, by decide⟩)))))))))))
              have t882 : s876 33 1 = s864 33 1 := g879 33 1 (by decide)
              have t883 : s876 33 2 = s864 33 2 := g879 33 2 (by decide)
              have t884 : s876 191 16 = s864 191 16 := g879 191 16 (by decide)
              refine T_if1 (by decide +kernel) ?_
              refine T_useN (sf_X11_refresh_1T hfu s876 c877 (Or.inl (by omega))) (fun v890 s885 hq => ?_)
              obtain ⟨c886, f887, o891, rfl⟩ := hq
              refine T_vN ?_
              have f888 := z_Fr.tr (R := R_X11_undo_1) f878 f887 rs_X11_refresh_1__X11_undo_1
              have t894 : s885 33 1 = s876 33 1 := f887 33 1 (by decide)
              have t895 : s885 33 2 = s876 33 2 := f887 33 2 (by decide)
              have u896 := CI_b c886 (k := 191) (j := 16) bd_191_16
              refine T_if1 (by decide +kernel) ?_
              refine T_let 191 (by decide +kernel) ?_
              refine T_if1 (by decide +kernel) ?_
              refine T_leq (fun x897 e898 => ?_)
              have u899 := CI_b c886 (k := 191) (j := 16) bd_191_16
              exact T_ret ⟨c886, f888, (Or.inr o891), ⟨x897, rfl, by omega, by omega⟩⟩
            · exact T_ret ⟨c865, f867, (Or.inl (by omega)), ⟨(-1), rfl, by omega, by omega⟩⟩
          · refine T_if1 (by decide +kernel) ?_
            refine T_let 178 (by decide +kernel) ?_
            refine T_of (fX2_place_J32.eq_1 ..) ?_
            refine T_rR ?_
            refine T_if1 (by decide) ?_
            refine T_if1 (by decide +kernel) ?_
            refine T_useN (sf_X9_copyFrom_6_178 hfu s483 c484) (fun v905 s900 hq => ?_)
            obtain ⟨c901, f902, rfl⟩ := hq
            refine T_vN ?_
            have f903 := z_Fr.tr (R := R_X11_undo_1) f485 f902 rs_X9_copyFrom_6_178__X11_undo_1
            have t908 : s900 33 1 = s483 33 1 := f902 33 1 (by decide)
            have t909 : s900 33 2 = s483 33 2 := f902 33 2 (by decide)
            have t910 : s900 191 16 = s483 191 16 := f902 191 16 (by decide)
            refine T_if1 (by unfold z_bl; omega) ?_
            refine T_rI ?_
            refine T_ite (fun h911 => ?_) (fun h911 => ?_)
            · refine T_if1 ⟨(by decide +kernel), by unfold z_bl; omega⟩ ?_
              refine T_upg c901 bd_1_16 (by omega) (fun s912 c913 g915 g916 e917 => ?_)
              have f914 := z_Fr.upf (R := R_X11_undo_1) f903 g915 g916 (Or.inr (Or.inr (Or.inr (Or.inr (Or.inr (Or.inr (Or.inr (Or.inr (Or.inr (Or.inl (⟨rfl, by decide⟩)))))))))))
              have t918 : s912 33 1 = s900 33 1 := g915 33 1 (by decide)
              have t919 : s912 33 2 = s900 33 2 := g915 33 2 (by decide)
              have t920 : s912 191 16 = s900 191 16 := g915 191 16 (by decide)
              refine T_if1 (by decide +kernel) ?_
              refine T_useN (sf_X11_refresh_1T hfu s912 c913 (Or.inl (by omega))) (fun v926 s921 hq => ?_)
              obtain ⟨c922, f923, o927, rfl⟩ := hq
              refine T_vN ?_
              have f924 := z_Fr.tr (R := R_X11_undo_1) f914 f923 rs_X11_refresh_1__X11_undo_1
              have t930 : s921 33 1 = s912 33 1 := f923 33 1 (by decide)
              have t931 : s921 33 2 = s912 33 2 := f923 33 2 (by decide)
              have u932 := CI_b c922 (k := 191) (j := 16) bd_191_16
              refine T_if1 (by decide +kernel) ?_
              refine T_let 191 (by decide +kernel) ?_
              refine T_if1 (by decide +kernel) ?_
              refine T_leq (fun x933 e934 => ?_)
              have u935 := CI_b c922 (k := 191) (j := 16) bd_191_16
              exact T_ret ⟨c922, f924, (Or.inr o927), ⟨x933, rfl, by omega, by omega⟩⟩
            · exact T_ret ⟨c901, f903, (Or.inl (by omega)), ⟨(-1), rfl, by omega, by omega⟩⟩
  · refine T_if1 (by unfold z_bl; omega) ?_
    refine T_rI ?_
    refine T_ite (fun h936 => ?_) (fun h936 => ?_)
    · refine T_if1 ⟨(by decide +kernel), by unfold z_bl; omega⟩ ?_
      refine T_upg c0 bd_1_16 (by omega) (fun s937 c938 g940 g941 e942 => ?_)
      have f939 := z_Fr.upf (R := R_X11_undo_1) z_Fr.rf g940 g941 (Or.inr (Or.inr (Or.inr (Or.inr (Or.inr (Or.inr (Or.inr (Or.inr (Or.inr (Or.inl (⟨rfl, by decide⟩)))))))))))
      have t943 : s937 33 1 = r0 33 1 := g940 33 1 (by decide)
      have t944 : s937 33 2 = r0 33 2 := g940 33 2 (by decide)
      have t945 : s937 191 16 = r0 191 16 := g940 191 16 (by decide)
      refine T_if1 (by decide +kernel) ?_
      refine T_useN (sf_X11_refresh_1T hfu s937 c938 (Or.inl (by omega))) (fun v951 s946 hq => ?_)
      obtain ⟨c947, f948, o952, rfl⟩ := hq
      refine T_vN ?_
      have f949 := z_Fr.tr (R := R_X11_undo_1) f939 f948 rs_X11_refresh_1__X11_undo_1
      have t955 : s946 33 1 = s937 33 1 := f948 33 1 (by decide)
      have t956 : s946 33 2 = s937 33 2 := f948 33 2 (by decide)
      have u957 := CI_b c947 (k := 191) (j := 16) bd_191_16
      refine T_if1 (by decide +kernel) ?_
      refine T_let 191 (by decide +kernel) ?_
      refine T_if1 (by decide +kernel) ?_
      refine T_leq (fun x958 e959 => ?_)
      have u960 := CI_b c947 (k := 191) (j := 16) bd_191_16
      exact T_ret ⟨c947, f949, (Or.inr o952), ⟨x958, rfl, by omega, by omega⟩⟩
    · exact T_ret ⟨c0, z_Fr.rf, p0, ⟨(-1), rfl, by omega, by omega⟩⟩
abbrev P_X11_told_1T (r0 : z_M) : z_V → z_M → Prop := fun v s' => z_CI s' ∧ z_Fr R_X11_told_1 r0 s' ∧ (y_V16 s') ∧ ((∃ x, v = vL x ∧ -9223372036854775808 ≤ x ∧ x ≤ 9223372036854775807) ∨ v = vX 1)
theorem nr_X3_longest_258__193 (b : Int) : ¬ R_X3_longest_258 193 b := not_false
theorem nr_X3_longest_258__215 (b : Int) : ¬ R_X3_longest_258 215 b := not_false
theorem nr_X3_longest_258__8 (b : Int) : ¬ R_X3_longest_258 8 b := not_false
theorem nr_X3_longest_258__12 (b : Int) : ¬ R_X3_longest_258 12 b := not_false
theorem nr_X3_longest_258__14 (b : Int) : ¬ R_X3_longest_258 14 b := not_false
theorem nr_X1_costs_240__193 (b : Int) : ¬ R_X1_costs_240 193 b := by
  unfold R_X1_costs_240; omega
theorem nr_X1_costs_240__215 (b : Int) : ¬ R_X1_costs_240 215 b := by
  unfold R_X1_costs_240; omega
theorem nr_X1_costs_240__8 (b : Int) : ¬ R_X1_costs_240 8 b := by
  unfold R_X1_costs_240; omega
theorem nr_X1_costs_240__12 (b : Int) : ¬ R_X1_costs_240 12 b := by
  unfold R_X1_costs_240; omega
theorem nr_X1_costs_240__14 (b : Int) : ¬ R_X1_costs_240 14 b := by
  unfold R_X1_costs_240; omega
theorem nr_X1_tooLong_240__193 (b : Int) : ¬ R_X1_tooLong_240 193 b := by
  unfold R_X1_tooLong_240; omega
theorem nr_X1_tooLong_240__215 (b : Int) : ¬ R_X1_tooLong_240 215 b := by
  unfold R_X1_tooLong_240; omega
theorem nr_X1_tooLong_240__8 (b : Int) : ¬ R_X1_tooLong_240 8 b := by
  unfold R_X1_tooLong_240; omega
theorem nr_X1_tooLong_240__12 (b : Int) : ¬ R_X1_tooLong_240 12 b := by
  unfold R_X1_tooLong_240; omega
theorem nr_X1_tooLong_240__14 (b : Int) : ¬ R_X1_tooLong_240 14 b := by
  unfold R_X1_tooLong_240; omega
set_option maxHeartbeats 4000000 in
theorem sf_X11_told_1T {fu : Nat} (hfu : 8589934592 ≤ fu) (r0 : z_M) (c0 : z_CI r0) (a1 : Int) (b1 : -2147483648 ≤ a1 ∧ a1 ≤ 2147483647) (p0 : y_V16 r0) : z_T (fX11_told fu r0 1 a1) (P_X11_told_1T r0) := by
  refine T_of (fX11_told.eq_1 ..) ?_
  refine T_if1 (by decide +kernel) ?_
  refine T_nw ?_ (fun h1 h2 => ?_)
  · exact T_ret ⟨CI_up c0 bd_1_15 (z_wb rfl).1, z_Fr.upf (R := R_X11_told_1) z_Fr.rf (fun a b h => z_up_k h) (fun b h => z_up_j h) (Or.inr (Or.inr (Or.inr (Or.inr (Or.inr (Or.inr (Or.inr (Or.inl (⟨rfl, by decide⟩))))))))), y_V16.fr p0 (z_up_j (by decide)) (z_up_k (by decide)) (z_up_k (by decide)) (fun _ => z_up_k (by decide)) (fun _ => z_up_k (by decide)) (fun _ => z_up_k (by decide)) (fun _ => z_up_k (by decide)) (fun _ => z_up_k (by decide)) (fun _ => z_up_k (by decide)) (fun _ => z_up_k (by decide)), Or.inr rfl⟩
  refine T_if1 (by decide +kernel) ?_
  refine T_useN (sf_X11_refresh_1T hfu r0 c0 p0) (fun v8 s3 hq => ?_)
  obtain ⟨c4, f5, o9, rfl⟩ := hq
  refine T_vN ?_
  have f6 := z_Fr.tr (R := R_X11_told_1) z_Fr.rf f5 rs_X11_refresh_1__X11_told_1
  have t12 : s3 1 12 = r0 1 12 := f5 1 12 (by decide)
  have t13 : s3 6 6 = r0 6 6 := f5 6 6 (by decide)
  have t14 : s3 6 7 = r0 6 7 := f5 6 7 (by decide)
  have t15 : s3 33 2 = r0 33 2 := f5 33 2 (by decide)
  have u16 := CI_b c4 (k := 191) (j := 16) bd_191_16
  have u17 := CI_b c4 (k := 191) (j := 17) bd_191_17
  have u18 := CI_b c4 (k := 191) (j := 18) bd_191_18
  have u19 := CI_b c4 (k := 240) (j := 6) bd_240_6
  refine T_ite (fun h20 => ?_) (fun h20 => ?_)
  · refine T_if1 (by decide +kernel) ?_
    refine T_let 191 (by decide +kernel) ?_
    refine T_if1 (by decide +kernel) ?_
    refine T_leq (fun x21 e22 => ?_)
    have u23 := CI_b c4 (k := 191) (j := 16) bd_191_16
    exact T_ret ⟨c4, f6, (Or.inr o9), Or.inl (⟨x21, rfl, by omega, by omega⟩)⟩
  · refine T_ite (fun h24 => ?_) (fun h24 => ?_)
    · refine T_if1 (by decide +kernel) ?_
      refine T_let 6 (by decide +kernel) ?_
      refine T_if1 (by decide +kernel) ?_
      refine T_leq (fun x25 e26 => ?_)
      have u27 := CI_b c4 (k := 6) (j := 6) bd_6_6
      exact T_ret ⟨c4, f6, (Or.inr o9), Or.inl (⟨x25, rfl, by omega, by omega⟩)⟩
    · refine T_ite (fun h28 => ?_) (fun h28 => ?_)
      · refine T_if1 (by decide +kernel) ?_
        refine T_let 6 (by decide +kernel) ?_
        refine T_if1 (by decide +kernel) ?_
        refine T_leq (fun x29 e30 => ?_)
        have u31 := CI_b c4 (k := 6) (j := 7) bd_6_7
        exact T_ret ⟨c4, f6, (Or.inr o9), Or.inl (⟨x29, rfl, by omega, by omega⟩)⟩
      · refine T_ite (fun h32 => ?_) (fun h32 => ?_)
        · refine T_if1 (by decide +kernel) ?_
          refine T_let 240 (by decide +kernel) ?_
          refine T_if1 (by decide +kernel) ?_
          refine T_leq (fun x33 e34 => ?_)
          have u35 := CI_b c4 (k := 240) (j := 6) bd_240_6
          exact T_ret ⟨c4, f6, (Or.inr o9), Or.inl (⟨x33, rfl, by omega, by omega⟩)⟩
        · refine T_ite (fun h36 => ?_) (fun h36 => ?_)
          · refine T_if1 (by decide +kernel) ?_
            refine T_let 258 (by decide +kernel) ?_
            refine T_if1 (by decide +kernel) ?_
            refine T_useI (sf_X3_longest_258 hfu s3 c4) (fun v42 s37 hq => ?_)
            obtain ⟨c38, f39, ⟨x41, rfl, b43, b44⟩⟩ := hq
            refine T_vI ?_
            have f40 := z_Fr.tr (R := R_X11_told_1) f6 f39 (fun a b h => absurd h not_false)
            have t45 : s37 1 12 = s3 1 12 := f39 1 12 (by decide)
            have t46 : s37 6 6 = s3 6 6 := f39 6 6 (by decide)
            have t47 : s37 6 7 = s3 6 7 := f39 6 7 (by decide)
            have t48 : s37 33 2 = s3 33 2 := f39 33 2 (by decide)
            have t49 : s37 191 16 = s3 191 16 := f39 191 16 (by decide)
            have t50 : s37 191 17 = s3 191 17 := f39 191 17 (by decide)
            have t51 : s37 191 18 = s3 191 18 := f39 191 18 (by decide)
            have t52 : s37 240 6 = s3 240 6 := f39 240 6 (by decide)
            have r53 := y_Uu.fr o9 (f39 191 16 (by decide)) (f39 6 6 (by decide)) (fun b => f39 195 b (nr_X3_longest_258__195 b)) (fun b => f39 197 b (nr_X3_longest_258__197 b)) (fun b => f39 193 b (nr_X3_longest_258__193 b)) (fun b => f39 215 b (nr_X3_longest_258__215 b)) (fun b => f39 8 b (nr_X3_longest_258__8 b)) (fun b => f39 12 b (nr_X3_longest_258__12 b)) (fun b => f39 14 b (nr_X3_longest_258__14 b))
            exact T_ret ⟨c38, f40, (Or.inr r53), Or.inl (⟨x41, rfl, by omega, by omega⟩)⟩
          · refine T_ite (fun h54 => ?_) (fun h54 => ?_)
            · refine T_if1 (by decide +kernel) ?_
              refine T_let 240 (by decide +kernel) ?_
              refine T_if1 (by decide +kernel) ?_
              refine T_let 2 (by decide +kernel) ?_
              refine T_if1 (by decide +kernel) ?_
              refine T_get (by decide +kernel) (c := 3) (by decide +kernel) bdr_3 (by decide) c4 (fun x55 e56 b57 w58 => ?_)
              have l59 : z_ln 2 = 9 := by decide +kernel
              refine T_if1 (by decide +kernel) ?_
              refine T_useL (sf_X1_costs_240 hfu s3 c4 x55 (by omega)) (fun v65 s60 hq => ?_)
              obtain ⟨c61, f62, ⟨x64, rfl, b66, b67⟩⟩ := hq
              refine T_vL ?_
              have f63 := z_Fr.tr (R := R_X11_told_1) f6 f62 rs_X1_costs_240__X11_told_1
              have t68 : s60 1 12 = s3 1 12 := f62 1 12 (by decide)
              have t69 : s60 6 6 = s3 6 6 := f62 6 6 (by decide)
              have t70 : s60 6 7 = s3 6 7 := f62 6 7 (by decide)
              have t71 : s60 33 2 = s3 33 2 := f62 33 2 (by decide)
              have t72 : s60 191 16 = s3 191 16 := f62 191 16 (by decide)
              have t73 : s60 191 17 = s3 191 17 := f62 191 17 (by decide)
              have t74 : s60 191 18 = s3 191 18 := f62 191 18 (by decide)
              have t75 : s60 240 6 = s3 240 6 := f62 240 6 (by decide)
              have r76 := y_Uu.fr o9 (f62 191 16 (by decide)) (f62 6 6 (by decide)) (fun b => f62 195 b (nr_X1_costs_240__195 b)) (fun b => f62 197 b (nr_X1_costs_240__197 b)) (fun b => f62 193 b (nr_X1_costs_240__193 b)) (fun b => f62 215 b (nr_X1_costs_240__215 b)) (fun b => f62 8 b (nr_X1_costs_240__8 b)) (fun b => f62 12 b (nr_X1_costs_240__12 b)) (fun b => f62 14 b (nr_X1_costs_240__14 b))
              exact T_ret ⟨c61, f63, (Or.inr r76), Or.inl (⟨x64, rfl, by omega, by omega⟩)⟩
            · refine T_ite (fun h77 => ?_) (fun h77 => ?_)
              · refine T_if1 (by decide +kernel) ?_
                refine T_let 2 (by decide +kernel) ?_
                refine T_leq (fun x78 e79 => ?_)
                have w80 := z_wr e79
                refine T_if1 (by decide +kernel) ?_
                refine T_get (by decide +kernel) (c := 3) (by decide +kernel) bdr_3 (by decide) c4 (fun x81 e82 b83 w84 => ?_)
                have l85 : z_ln 2 = 9 := by decide +kernel
                exact T_ret ⟨c4, f6, (Or.inr o9), Or.inl (⟨x81, rfl, by omega, by omega⟩)⟩
              · refine T_ite (fun h86 => ?_) (fun h86 => ?_)
                · refine T_if1 (by decide +kernel) ?_
                  refine T_let 2 (by decide +kernel) ?_
                  refine T_leq (fun x87 e88 => ?_)
                  have w89 := z_wr e88
                  refine T_if1 (by decide +kernel) ?_
                  refine T_get (by decide +kernel) (c := 3) (by decide +kernel) bdr_3 (by decide) c4 (fun x90 e91 b92 w93 => ?_)
                  have l94 : z_ln 2 = 9 := by decide +kernel
                  exact T_ret ⟨c4, f6, (Or.inr o9), Or.inl (⟨x90, rfl, by omega, by omega⟩)⟩
                · refine T_ite (fun h95 => ?_) (fun h95 => ?_)
                  · refine T_if1 (by decide +kernel) ?_
                    refine T_let 2 (by decide +kernel) ?_
                    refine T_leq (fun x96 e97 => ?_)
                    have w98 := z_wr e97
                    refine T_if1 (by decide +kernel) ?_
                    refine T_get (by decide +kernel) (c := 3) (by decide +kernel) bdr_3 (by decide) c4 (fun x99 e100 b101 w102 => ?_)
                    have l103 : z_ln 2 = 9 := by decide +kernel
                    exact T_ret ⟨c4, f6, (Or.inr o9), Or.inl (⟨x99, rfl, by omega, by omega⟩)⟩
                  · refine T_ite (fun h104 => ?_) (fun h104 => ?_)
                    · refine T_if1 (by decide +kernel) ?_
                      refine T_let 2 (by decide +kernel) ?_
                      refine T_leq (fun x105 e106 => ?_)
                      have w107 := z_wr e106
                      refine T_if1 (by decide +kernel) ?_
                      refine T_get (by decide +kernel) (c := 3) (by decide +kernel) bdr_3 (by decide) c4 (fun x108 e109 b110 w111 => ?_)
                      have l112 : z_ln 2 = 9 := by decide +kernel
                      exact T_ret ⟨c4, f6, (Or.inr o9), Or.inl (⟨x108, rfl, by omega, by omega⟩)⟩
                    · refine T_ite (fun h113 => ?_) (fun h113 => ?_)
                      · refine T_if1 (by decide +kernel) ?_
                        refine T_let 2 (by decide +kernel) ?_
                        refine T_leq (fun x114 e115 => ?_)
                        have w116 := z_wr e115
                        refine T_if1 (by decide +kernel) ?_
                        refine T_get (by decide +kernel) (c := 3) (by decide +kernel) bdr_3 (by decide) c4 (fun x117 e118 b119 w120 => ?_)
                        have l121 : z_ln 2 = 9 := by decide +kernel
                        exact T_ret ⟨c4, f6, (Or.inr o9), Or.inl (⟨x117, rfl, by omega, by omega⟩)⟩
                      · refine T_ite (fun h122 => ?_) (fun h122 => ?_)
                        · refine T_if1 (by decide +kernel) ?_
                          refine T_let 2 (by decide +kernel) ?_
                          refine T_leq (fun x123 e124 => ?_)
                          have w125 := z_wr e124
                          refine T_if1 (by decide +kernel) ?_
                          refine T_get (by decide +kernel) (c := 3) (by decide +kernel) bdr_3 (by decide) c4 (fun x126 e127 b128 w129 => ?_)
                          have l130 : z_ln 2 = 9 := by decide +kernel
                          exact T_ret ⟨c4, f6, (Or.inr o9), Or.inl (⟨x126, rfl, by omega, by omega⟩)⟩
                        · refine T_ite (fun h131 => ?_) (fun h131 => ?_)
                          · refine T_if1 (by decide +kernel) ?_
                            refine T_let 2 (by decide +kernel) ?_
                            refine T_leq (fun x132 e133 => ?_)
                            have w134 := z_wr e133
                            refine T_if1 (by decide +kernel) ?_
                            refine T_get (by decide +kernel) (c := 3) (by decide +kernel) bdr_3 (by decide) c4 (fun x135 e136 b137 w138 => ?_)
                            have l139 : z_ln 2 = 9 := by decide +kernel
                            exact T_ret ⟨c4, f6, (Or.inr o9), Or.inl (⟨x135, rfl, by omega, by omega⟩)⟩
                          · refine T_ite (fun h140 => ?_) (fun h140 => ?_)
                            · refine T_if1 (by decide +kernel) ?_
                              refine T_let 33 (by decide +kernel) ?_
                              refine T_if1 (by decide +kernel) ?_
                              refine T_leq (fun x141 e142 => ?_)
                              have u143 := CI_b c4 (k := 33) (j := 2) bd_33_2
                              exact T_ret ⟨c4, f6, (Or.inr o9), Or.inl (⟨x141, rfl, by omega, by omega⟩)⟩
                            · refine T_ite (fun h144 => ?_) (fun h144 => ?_)
                              · refine T_if1 (by decide +kernel) ?_
                                refine T_leq (fun x145 e146 => ?_)
                                have u147 := CI_b c4 (k := 1) (j := 12) bd_1_12
                                exact T_ret ⟨c4, f6, (Or.inr o9), Or.inl (⟨x145, rfl, by omega, by omega⟩)⟩
                              · refine T_ite (fun h148 => ?_) (fun h148 => ?_)
                                · refine T_if1 (by decide +kernel) ?_
                                  refine T_let 240 (by decide +kernel) ?_
                                  refine T_if1 (by decide +kernel) ?_
                                  refine T_let 2 (by decide +kernel) ?_
                                  refine T_if1 (by decide +kernel) ?_
                                  refine T_get (by decide +kernel) (c := 3) (by decide +kernel) bdr_3 (by decide) c4 (fun x149 e150 b151 w152 => ?_)
                                  have l153 : z_ln 2 = 9 := by decide +kernel
                                  refine T_if1 (by decide +kernel) ?_
                                  refine T_useI (sf_X1_tooLong_240 hfu s3 c4 x149 (by omega)) (fun v159 s154 hq => ?_)
                                  obtain ⟨c155, f156, ⟨x158, rfl, b160, b161⟩⟩ := hq
                                  refine T_vI ?_
                                  have f157 := z_Fr.tr (R := R_X11_told_1) f6 f156 rs_X1_tooLong_240__X11_told_1
                                  have t162 : s154 1 12 = s3 1 12 := f156 1 12 (by decide)
                                  have t163 : s154 6 6 = s3 6 6 := f156 6 6 (by decide)
                                  have t164 : s154 6 7 = s3 6 7 := f156 6 7 (by decide)
                                  have t165 : s154 33 2 = s3 33 2 := f156 33 2 (by decide)
                                  have t166 : s154 191 16 = s3 191 16 := f156 191 16 (by decide)
                                  have t167 : s154 191 17 = s3 191 17 := f156 191 17 (by decide)
                                  have t168 : s154 191 18 = s3 191 18 := f156 191 18 (by decide)
                                  have t169 : s154 240 6 = s3 240 6 := f156 240 6 (by decide)
                                  have r170 := y_Uu.fr o9 (f156 191 16 (by decide)) (f156 6 6 (by decide)) (fun b => f156 195 b (nr_X1_tooLong_240__195 b)) (fun b => f156 197 b (nr_X1_tooLong_240__197 b)) (fun b => f156 193 b (nr_X1_tooLong_240__193 b)) (fun b => f156 215 b (nr_X1_tooLong_240__215 b)) (fun b => f156 8 b (nr_X1_tooLong_240__8 b)) (fun b => f156 12 b (nr_X1_tooLong_240__12 b)) (fun b => f156 14 b (nr_X1_tooLong_240__14 b))
                                  exact T_ret ⟨c155, f157, (Or.inr r170), Or.inl (⟨x158, rfl, by omega, by omega⟩)⟩
                                · refine T_ite (fun h171 => ?_) (fun h171 => ?_)
                                  · refine T_if1 (by decide +kernel) ?_
                                    refine T_let 2 (by decide +kernel) ?_
                                    refine T_if1 (by decide +kernel) ?_
                                    refine T_get (by decide +kernel) (c := 3) (by decide +kernel) bdr_3 (by decide) c4 (fun x172 e173 b174 w175 => ?_)
                                    have l176 : z_ln 2 = 9 := by decide +kernel
                                    exact T_ret ⟨c4, f6, (Or.inr o9), Or.inl (⟨x172, rfl, by omega, by omega⟩)⟩
                                  · refine T_ite (fun h177 => ?_) (fun h177 => ?_)
                                    · refine T_if1 (by decide +kernel) ?_
                                      refine T_let 2 (by decide +kernel) ?_
                                      refine T_if1 (by decide +kernel) ?_
                                      refine T_get (by decide +kernel) (c := 3) (by decide +kernel) bdr_3 (by decide) c4 (fun x178 e179 b180 w181 => ?_)
                                      have l182 : z_ln 2 = 9 := by decide +kernel
                                      exact T_ret ⟨c4, f6, (Or.inr o9), Or.inl (⟨x178, rfl, by omega, by omega⟩)⟩
                                    · refine T_ite (fun h183 => ?_) (fun h183 => ?_)
                                      · refine T_if1 (by decide +kernel) ?_
                                        refine T_let 191 (by decide +kernel) ?_
                                        refine T_if1 (by decide +kernel) ?_
                                        refine T_leq (fun x184 e185 => ?_)
                                        have u186 := CI_b c4 (k := 191) (j := 17) bd_191_17
                                        exact T_ret ⟨c4, f6, (Or.inr o9), Or.inl (⟨x184, rfl, by omega, by omega⟩)⟩
                                      · refine T_ite (fun h187 => ?_) (fun h187 => ?_)
                                        · refine T_if1 (by decide +kernel) ?_
                                          refine T_let 191 (by decide +kernel) ?_
                                          refine T_if1 (by decide +kernel) ?_
                                          refine T_leq (fun x188 e189 => ?_)
                                          have u190 := CI_b c4 (k := 191) (j := 18) bd_191_18
                                          exact T_ret ⟨c4, f6, (Or.inr o9), Or.inl (⟨x188, rfl, by omega, by omega⟩)⟩
                                        · refine T_if1 (by decide +kernel) ?_
                                          refine T_let 2 (by decide +kernel) ?_
                                          refine T_leq (fun x191 e192 => ?_)
                                          have w193 := z_wr e192
                                          refine T_if1 (by decide +kernel) ?_
                                          refine T_get (by decide +kernel) (c := 3) (by decide +kernel) bdr_3 (by decide) c4 (fun x194 e195 b196 w197 => ?_)
                                          have l198 : z_ln 2 = 9 := by decide +kernel
                                          exact T_ret ⟨c4, f6, (Or.inr o9), Or.inl (⟨x194, rfl, by omega, by omega⟩)⟩
abbrev P_X11_unit_1T (r0 : z_M) : z_V → z_M → Prop := fun v s' => z_CI s' ∧ z_Fr R_X11_unit_1 r0 s' ∧ (y_V16 s') ∧ ((∃ x, v = vI x ∧ -2147483648 ≤ x ∧ x ≤ 2147483647) ∨ v = vX 0 ∨ v = vX 1)
theorem sf_X11_unit_1T {fu : Nat} (hfu : 8589934592 ≤ fu) (r0 : z_M) (c0 : z_CI r0) (a1 : Int) (a2 : Int) (b1 : -2147483648 ≤ a1 ∧ a1 ≤ 2147483647) (b2 : -2147483648 ≤ a2 ∧ a2 ≤ 2147483647) (p0 : y_V16 r0) : z_T (fX11_unit fu r0 1 a1 a2) (P_X11_unit_1T r0) := by
  refine T_of (fX11_unit.eq_1 ..) ?_
  refine T_if1 (by decide +kernel) ?_
  refine T_useN (sf_X11_refresh_1T hfu r0 c0 p0) (fun v6 s1 hq => ?_)
  obtain ⟨c2, f3, o7, rfl⟩ := hq
  refine T_vN ?_
  have f4 := z_Fr.tr (R := R_X11_unit_1) z_Fr.rf f3 rs_X11_refresh_1__X11_unit_1
  have u10 := CI_b c2 (k := 191) (j := 16) bd_191_16
  refine T_if1 (by decide +kernel) ?_
  refine T_let 191 (by decide +kernel) ?_
  refine T_if1 (by decide +kernel) ?_
  refine T_leq (fun x11 e12 => ?_)
  have u13 := CI_b c2 (k := 191) (j := 16) bd_191_16
  refine T_if1 (by decide +kernel) ?_
  refine T_ne ?_ (fun h14 h15 => ?_)
  · exact T_ret ⟨CI_up c2 bd_1_14 (z_wb rfl).1, z_Fr.upf (R := R_X11_unit_1) f4 (fun a b h => z_up_k h) (fun b h => z_up_j h) (Or.inr (Or.inr (Or.inr (Or.inr (Or.inr (Or.inr (Or.inr (Or.inl (⟨rfl, by decide⟩))))))))), Or.inr (y_Uu.fr o7 (z_up_k (by decide)) (z_up_k (by decide)) (fun _ => z_up_k (by decide)) (fun _ => z_up_k (by decide)) (fun _ => z_up_k (by decide)) (fun _ => z_up_k (by decide)) (fun _ => z_up_k (by decide)) (fun _ => z_up_k (by decide)) (fun _ => z_up_k (by decide))), Or.inr (Or.inl rfl)⟩
  refine T_if1 (by decide +kernel) ?_
  refine T_nw ?_ (fun h16 h17 => ?_)
  · exact T_ret ⟨CI_up c2 bd_1_15 (z_wb rfl).1, z_Fr.upf (R := R_X11_unit_1) f4 (fun a b h => z_up_k h) (fun b h => z_up_j h) (Or.inr (Or.inr (Or.inr (Or.inr (Or.inr (Or.inr (Or.inr (Or.inl (⟨rfl, by decide⟩))))))))), Or.inr (y_Uu.fr o7 (z_up_k (by decide)) (z_up_k (by decide)) (fun _ => z_up_k (by decide)) (fun _ => z_up_k (by decide)) (fun _ => z_up_k (by decide)) (fun _ => z_up_k (by decide)) (fun _ => z_up_k (by decide)) (fun _ => z_up_k (by decide)) (fun _ => z_up_k (by decide))), Or.inr (Or.inr rfl)⟩
  refine T_ite (fun h18 => ?_) (fun h18 => ?_)
  · refine T_if1 (by decide +kernel) ?_
    refine T_let 191 (by decide +kernel) ?_
    refine T_if1 (by decide +kernel) ?_
    refine T_let 192 (by decide +kernel) ?_
    refine T_if1 (by decide +kernel) ?_
    refine T_get (by decide +kernel) (c := 193) (by decide +kernel) bdr_193 (by decide) c2 (fun x19 e20 b21 w22 => ?_)
    have l23 : z_ln 192 = 200 := by decide +kernel
    exact T_ret ⟨c2, f4, (Or.inr o7), Or.inl (⟨x19, rfl, by omega, by omega⟩)⟩
  · refine T_ite (fun h24 => ?_) (fun h24 => ?_)
    · refine T_if1 (by decide +kernel) ?_
      refine T_let 191 (by decide +kernel) ?_
      refine T_if1 (by decide +kernel) ?_
      refine T_let 194 (by decide +kernel) ?_
      refine T_if1 (by decide +kernel) ?_
      refine T_get (by decide +kernel) (c := 195) (by decide +kernel) bdr_195 (by decide) c2 (fun x25 e26 b27 w28 => ?_)
      have l29 : z_ln 194 = 200 := by decide +kernel
      exact T_ret ⟨c2, f4, (Or.inr o7), Or.inl (⟨x25, rfl, by omega, by omega⟩)⟩
    · refine T_ite (fun h30 => ?_) (fun h30 => ?_)
      · refine T_if1 (by decide +kernel) ?_
        refine T_let 191 (by decide +kernel) ?_
        refine T_if1 (by decide +kernel) ?_
        refine T_let 196 (by decide +kernel) ?_
        refine T_if1 (by decide +kernel) ?_
        refine T_get (by decide +kernel) (c := 197) (by decide +kernel) bdr_197 (by decide) c2 (fun x31 e32 b33 w34 => ?_)
        have l35 : z_ln 196 = 200 := by decide +kernel
        exact T_ret ⟨c2, f4, (Or.inr o7), Or.inl (⟨x31, rfl, by omega, by omega⟩)⟩
      · refine T_ite (fun h36 => ?_) (fun h36 => ?_)
        · refine T_if1 (by decide +kernel) ?_
          refine T_let 258 (by decide +kernel) ?_
          refine T_if1 (by decide +kernel) ?_
          refine T_let 263 (by decide +kernel) ?_
          refine T_if1 (by decide +kernel) ?_
          refine T_get (by decide +kernel) (c := 264) (by decide +kernel) bdr_264 (by decide) c2 (fun x37 e38 b39 w40 => ?_)
          have l41 : z_ln 263 = 200 := by decide +kernel
          exact T_ret ⟨c2, f4, (Or.inr o7), Or.inl (⟨x37, rfl, by omega, by omega⟩)⟩
        · refine T_ite (fun h42 => ?_) (fun h42 => ?_)
          · refine T_if1 (by decide +kernel) ?_
            refine T_let 258 (by decide +kernel) ?_
            refine T_if1 (by decide +kernel) ?_
            refine T_let 259 (by decide +kernel) ?_
            refine T_if1 (by decide +kernel) ?_
            refine T_get (by decide +kernel) (c := 260) (by decide +kernel) bdr_260 (by decide) c2 (fun x43 e44 b45 w46 => ?_)
            have l47 : z_ln 259 = 200 := by decide +kernel
            exact T_ret ⟨c2, f4, (Or.inr o7), Or.inl (⟨x43, rfl, by omega, by omega⟩)⟩
          · refine T_ite (fun h48 => ?_) (fun h48 => ?_)
            · refine T_if1 (by decide +kernel) ?_
              refine T_let 258 (by decide +kernel) ?_
              refine T_if1 (by decide +kernel) ?_
              refine T_let 261 (by decide +kernel) ?_
              refine T_if1 (by decide +kernel) ?_
              refine T_get (by decide +kernel) (c := 262) (by decide +kernel) bdr_262 (by decide) c2 (fun x49 e50 b51 w52 => ?_)
              have l53 : z_ln 261 = 200 := by decide +kernel
              exact T_ret ⟨c2, f4, (Or.inr o7), Or.inl (⟨x49, rfl, by omega, by omega⟩)⟩
            · refine T_ite (fun h54 => ?_) (fun h54 => ?_)
              · refine T_if1 (by decide +kernel) ?_
                refine T_let 191 (by decide +kernel) ?_
                refine T_if1 (by decide +kernel) ?_
                refine T_let 200 (by decide +kernel) ?_
                refine T_if1 (by decide +kernel) ?_
                refine T_get (by decide +kernel) (c := 201) (by decide +kernel) bdr_201 (by decide) c2 (fun x55 e56 b57 w58 => ?_)
                have l59 : z_ln 200 = 200 := by decide +kernel
                exact T_ret ⟨c2, f4, (Or.inr o7), Or.inl (⟨x55, rfl, by omega, by omega⟩)⟩
              · refine T_if1 (by decide +kernel) ?_
                refine T_let 258 (by decide +kernel) ?_
                refine T_if1 (by decide +kernel) ?_
                refine T_let 265 (by decide +kernel) ?_
                refine T_if1 (by decide +kernel) ?_
                refine T_get (by decide +kernel) (c := 266) (by decide +kernel) bdr_266 (by decide) c2 (fun x60 e61 b62 w63 => ?_)
                have l64 : z_ln 265 = 200 := by decide +kernel
                exact T_ret ⟨c2, f4, (Or.inr o7), Or.inl (⟨x60, rfl, by omega, by omega⟩)⟩
abbrev P_X11_sign_1T (r0 : z_M) : z_V → z_M → Prop := fun v s' => z_CI s' ∧ z_Fr R_X11_sign_1 r0 s' ∧ (y_V16 s') ∧ ((∃ x, v = vI x ∧ -2147483648 ≤ x ∧ x ≤ 2147483647) ∨ v = vX 0 ∨ v = vX 1)
theorem nr_X10_markOf_191__193 (b : Int) : ¬ R_X10_markOf_191 193 b := not_false
theorem nr_X10_markOf_191__215 (b : Int) : ¬ R_X10_markOf_191 215 b := not_false
theorem nr_X10_markOf_191__8 (b : Int) : ¬ R_X10_markOf_191 8 b := not_false
theorem nr_X10_markOf_191__12 (b : Int) : ¬ R_X10_markOf_191 12 b := not_false
theorem nr_X10_markOf_191__14 (b : Int) : ¬ R_X10_markOf_191 14 b := not_false
theorem sf_X11_sign_1T {fu : Nat} (hfu : 8589934592 ≤ fu) (r0 : z_M) (c0 : z_CI r0) (a1 : Int) (a2 : Int) (b1 : -2147483648 ≤ a1 ∧ a1 ≤ 2147483647) (b2 : -2147483648 ≤ a2 ∧ a2 ≤ 2147483647) (p0 : y_V16 r0) : z_T (fX11_sign fu r0 1 a1 a2) (P_X11_sign_1T r0) := by
  refine T_of (fX11_sign.eq_1 ..) ?_
  refine T_if1 (by decide +kernel) ?_
  refine T_useN (sf_X11_refresh_1T hfu r0 c0 p0) (fun v6 s1 hq => ?_)
  obtain ⟨c2, f3, o7, rfl⟩ := hq
  refine T_vN ?_
  have f4 := z_Fr.tr (R := R_X11_sign_1) z_Fr.rf f3 rs_X11_refresh_1__X11_sign_1
  have t10 : s1 6 6 = r0 6 6 := f3 6 6 (by decide)
  refine T_if1 (by decide +kernel) ?_
  refine T_let 6 (by decide +kernel) ?_
  refine T_if1 (by decide +kernel) ?_
  refine T_leq (fun x11 e12 => ?_)
  have u13 := CI_b c2 (k := 6) (j := 6) bd_6_6
  refine T_if1 (by decide +kernel) ?_
  refine T_ne ?_ (fun h14 h15 => ?_)
  · exact T_ret ⟨CI_up c2 bd_1_14 (z_wb rfl).1, z_Fr.upf (R := R_X11_sign_1) f4 (fun a b h => z_up_k h) (fun b h => z_up_j h) (Or.inr (Or.inr (Or.inr (Or.inr (Or.inr (Or.inr (Or.inr (Or.inl (⟨rfl, by decide⟩))))))))), Or.inr (y_Uu.fr o7 (z_up_k (by decide)) (z_up_k (by decide)) (fun _ => z_up_k (by decide)) (fun _ => z_up_k (by decide)) (fun _ => z_up_k (by decide)) (fun _ => z_up_k (by decide)) (fun _ => z_up_k (by decide)) (fun _ => z_up_k (by decide)) (fun _ => z_up_k (by decide))), Or.inr (Or.inl rfl)⟩
  refine T_if1 (by decide +kernel) ?_
  refine T_nw ?_ (fun h16 h17 => ?_)
  · exact T_ret ⟨CI_up c2 bd_1_15 (z_wb rfl).1, z_Fr.upf (R := R_X11_sign_1) f4 (fun a b h => z_up_k h) (fun b h => z_up_j h) (Or.inr (Or.inr (Or.inr (Or.inr (Or.inr (Or.inr (Or.inr (Or.inl (⟨rfl, by decide⟩))))))))), Or.inr (y_Uu.fr o7 (z_up_k (by decide)) (z_up_k (by decide)) (fun _ => z_up_k (by decide)) (fun _ => z_up_k (by decide)) (fun _ => z_up_k (by decide)) (fun _ => z_up_k (by decide)) (fun _ => z_up_k (by decide)) (fun _ => z_up_k (by decide)) (fun _ => z_up_k (by decide))), Or.inr (Or.inr rfl)⟩
  refine T_ite (fun h18 => ?_) (fun h18 => ?_)
  · refine T_if1 (by decide +kernel) ?_
    refine T_let 6 (by decide +kernel) ?_
    refine T_if1 (by decide +kernel) ?_
    refine T_let 7 (by decide +kernel) ?_
    refine T_if1 (by decide +kernel) ?_
    refine T_get (by decide +kernel) (c := 8) (by decide +kernel) bdr_8 (by decide) c2 (fun x19 e20 b21 w22 => ?_)
    have l23 : z_ln 7 = 200 := by decide +kernel
    exact T_ret ⟨c2, f4, (Or.inr o7), Or.inl (⟨x19, rfl, by omega, by omega⟩)⟩
  · refine T_ite (fun h24 => ?_) (fun h24 => ?_)
    · refine T_if1 (by decide +kernel) ?_
      refine T_let 191 (by decide +kernel) ?_
      refine T_if1 (by decide +kernel) ?_
      refine T_let 214 (by decide +kernel) ?_
      refine T_if1 (by decide +kernel) ?_
      refine T_get (by decide +kernel) (c := 215) (by decide +kernel) bdr_215 (by decide) c2 (fun x25 e26 b27 w28 => ?_)
      have l29 : z_ln 214 = 200 := by decide +kernel
      exact T_ret ⟨c2, f4, (Or.inr o7), Or.inl (⟨x25, rfl, by omega, by omega⟩)⟩
    · refine T_ite (fun h30 => ?_) (fun h30 => ?_)
      · refine T_if1 (by decide +kernel) ?_
        refine T_let 258 (by decide +kernel) ?_
        refine T_if1 (by decide +kernel) ?_
        refine T_let 259 (by decide +kernel) ?_
        refine T_if1 (by decide +kernel) ?_
        refine T_let 191 (by decide +kernel) ?_
        refine T_if1 (by decide +kernel) ?_
        refine T_let 214 (by decide +kernel) ?_
        refine T_if1 (by decide +kernel) ?_
        refine T_get (by decide +kernel) (c := 215) (by decide +kernel) bdr_215 (by decide) c2 (fun x31 e32 b33 w34 => ?_)
        have l35 : z_ln 214 = 200 := by decide +kernel
        refine T_if1 (by decide +kernel) ?_
        refine T_get (by decide +kernel) (c := 260) (by decide +kernel) bdr_260 (by decide) c2 (fun x36 e37 b38 w39 => ?_)
        have l40 : z_ln 259 = 200 := by decide +kernel
        exact T_ret ⟨c2, f4, (Or.inr o7), Or.inl (⟨x36, rfl, by omega, by omega⟩)⟩
      · refine T_ite (fun h41 => ?_) (fun h41 => ?_)
        · refine T_if1 (by decide +kernel) ?_
          refine T_let 258 (by decide +kernel) ?_
          refine T_if1 (by decide +kernel) ?_
          refine T_let 267 (by decide +kernel) ?_
          refine T_if1 (by decide +kernel) ?_
          refine T_get (by decide +kernel) (c := 268) (by decide +kernel) bdr_268 (by decide) c2 (fun x42 e43 b44 w45 => ?_)
          have l46 : z_ln 267 = 200 := by decide +kernel
          exact T_ret ⟨c2, f4, (Or.inr o7), Or.inl (⟨x42, rfl, by omega, by omega⟩)⟩
        · refine T_ite (fun h47 => ?_) (fun h47 => ?_)
          · refine T_if1 (by decide +kernel) ?_
            refine T_let 191 (by decide +kernel) ?_
            refine T_if1 (by decide +kernel) ?_
            refine T_let 218 (by decide +kernel) ?_
            refine T_if1 (by decide +kernel) ?_
            refine T_get (by decide +kernel) (c := 219) (by decide +kernel) bdr_219 (by decide) c2 (fun x48 e49 b50 w51 => ?_)
            have l52 : z_ln 218 = 200 := by decide +kernel
            exact T_ret ⟨c2, f4, (Or.inr o7), Or.inl (⟨x48, rfl, by omega, by omega⟩)⟩
          · refine T_ite (fun h53 => ?_) (fun h53 => ?_)
            · refine T_if1 (by decide +kernel) ?_
              refine T_let 191 (by decide +kernel) ?_
              refine T_if1 (by decide +kernel) ?_
              refine T_useI (sf_X10_markOf_191 hfu s1 c2 a1 0 (by omega) (by omega)) (fun v59 s54 hq => ?_)
              obtain ⟨c55, f56, ⟨x58, rfl, b60, b61⟩⟩ := hq
              refine T_vI ?_
              have f57 := z_Fr.tr (R := R_X11_sign_1) f4 f56 (fun a b h => absurd h not_false)
              have t62 : s54 6 6 = s1 6 6 := f56 6 6 (by decide)
              have r63 := y_Uu.fr o7 (f56 191 16 (by decide)) (f56 6 6 (by decide)) (fun b => f56 195 b (nr_X10_markOf_191__195 b)) (fun b => f56 197 b (nr_X10_markOf_191__197 b)) (fun b => f56 193 b (nr_X10_markOf_191__193 b)) (fun b => f56 215 b (nr_X10_markOf_191__215 b)) (fun b => f56 8 b (nr_X10_markOf_191__8 b)) (fun b => f56 12 b (nr_X10_markOf_191__12 b)) (fun b => f56 14 b (nr_X10_markOf_191__14 b))
              exact T_ret ⟨c55, f57, (Or.inr r63), Or.inl (⟨x58, rfl, by omega, by omega⟩)⟩
            · refine T_if1 (by decide +kernel) ?_
              refine T_let 191 (by decide +kernel) ?_
              refine T_if1 (by decide +kernel) ?_
              refine T_useI (sf_X10_markOf_191 hfu s1 c2 a1 1 (by omega) (by omega)) (fun v69 s64 hq => ?_)
              obtain ⟨c65, f66, ⟨x68, rfl, b70, b71⟩⟩ := hq
              refine T_vI ?_
              have f67 := z_Fr.tr (R := R_X11_sign_1) f4 f66 (fun a b h => absurd h not_false)
              have t72 : s64 6 6 = s1 6 6 := f66 6 6 (by decide)
              have r73 := y_Uu.fr o7 (f66 191 16 (by decide)) (f66 6 6 (by decide)) (fun b => f66 195 b (nr_X10_markOf_191__195 b)) (fun b => f66 197 b (nr_X10_markOf_191__197 b)) (fun b => f66 193 b (nr_X10_markOf_191__193 b)) (fun b => f66 215 b (nr_X10_markOf_191__215 b)) (fun b => f66 8 b (nr_X10_markOf_191__8 b)) (fun b => f66 12 b (nr_X10_markOf_191__12 b)) (fun b => f66 14 b (nr_X10_markOf_191__14 b))
              exact T_ret ⟨c65, f67, (Or.inr r73), Or.inl (⟨x68, rfl, by omega, by omega⟩)⟩
abbrev P_X11_line_1T (r0 : z_M) : z_V → z_M → Prop := fun v s' => z_CI s' ∧ z_Fr R_X11_line_1 r0 s' ∧ (y_V16 s') ∧ ((∃ x, v = vI x ∧ -2147483648 ≤ x ∧ x ≤ 2147483647) ∨ v = vX 0 ∨ v = vX 1)
theorem sf_X11_line_1T {fu : Nat} (hfu : 8589934592 ≤ fu) (r0 : z_M) (c0 : z_CI r0) (a1 : Int) (a2 : Int) (b1 : -2147483648 ≤ a1 ∧ a1 ≤ 2147483647) (b2 : -2147483648 ≤ a2 ∧ a2 ≤ 2147483647) (p0 : y_V16 r0) : z_T (fX11_line fu r0 1 a1 a2) (P_X11_line_1T r0) := by
  refine T_of (fX11_line.eq_1 ..) ?_
  refine T_if1 (by decide +kernel) ?_
  refine T_useN (sf_X11_refresh_1T hfu r0 c0 p0) (fun v6 s1 hq => ?_)
  obtain ⟨c2, f3, o7, rfl⟩ := hq
  refine T_vN ?_
  have f4 := z_Fr.tr (R := R_X11_line_1) z_Fr.rf f3 rs_X11_refresh_1__X11_line_1
  have u10 := CI_b c2 (k := 240) (j := 6) bd_240_6
  refine T_if1 (by decide +kernel) ?_
  refine T_let 240 (by decide +kernel) ?_
  refine T_if1 (by decide +kernel) ?_
  refine T_leq (fun x11 e12 => ?_)
  have u13 := CI_b c2 (k := 240) (j := 6) bd_240_6
  refine T_if1 (by decide +kernel) ?_
  refine T_ne ?_ (fun h14 h15 => ?_)
  · exact T_ret ⟨CI_up c2 bd_1_14 (z_wb rfl).1, z_Fr.upf (R := R_X11_line_1) f4 (fun a b h => z_up_k h) (fun b h => z_up_j h) (Or.inr (Or.inr (Or.inr (Or.inr (Or.inr (Or.inr (Or.inr (Or.inl (⟨rfl, by decide⟩))))))))), Or.inr (y_Uu.fr o7 (z_up_k (by decide)) (z_up_k (by decide)) (fun _ => z_up_k (by decide)) (fun _ => z_up_k (by decide)) (fun _ => z_up_k (by decide)) (fun _ => z_up_k (by decide)) (fun _ => z_up_k (by decide)) (fun _ => z_up_k (by decide)) (fun _ => z_up_k (by decide))), Or.inr (Or.inl rfl)⟩
  refine T_if1 (by decide +kernel) ?_
  refine T_nw ?_ (fun h16 h17 => ?_)
  · exact T_ret ⟨CI_up c2 bd_1_15 (z_wb rfl).1, z_Fr.upf (R := R_X11_line_1) f4 (fun a b h => z_up_k h) (fun b h => z_up_j h) (Or.inr (Or.inr (Or.inr (Or.inr (Or.inr (Or.inr (Or.inr (Or.inl (⟨rfl, by decide⟩))))))))), Or.inr (y_Uu.fr o7 (z_up_k (by decide)) (z_up_k (by decide)) (fun _ => z_up_k (by decide)) (fun _ => z_up_k (by decide)) (fun _ => z_up_k (by decide)) (fun _ => z_up_k (by decide)) (fun _ => z_up_k (by decide)) (fun _ => z_up_k (by decide)) (fun _ => z_up_k (by decide))), Or.inr (Or.inr rfl)⟩
  refine T_ite (fun h18 => ?_) (fun h18 => ?_)
  · refine T_if1 (by decide +kernel) ?_
    refine T_let 240 (by decide +kernel) ?_
    refine T_if1 (by decide +kernel) ?_
    refine T_let 247 (by decide +kernel) ?_
    refine T_if1 (by decide +kernel) ?_
    refine T_get (by decide +kernel) (c := 248) (by decide +kernel) bdr_248 (by decide) c2 (fun x19 e20 b21 w22 => ?_)
    have l23 : z_ln 247 = 201 := by decide +kernel
    exact T_ret ⟨c2, f4, (Or.inr o7), Or.inl (⟨x19, rfl, by omega, by omega⟩)⟩
  · refine T_ite (fun h24 => ?_) (fun h24 => ?_)
    · refine T_if1 (by decide +kernel) ?_
      refine T_let 240 (by decide +kernel) ?_
      refine T_if1 (by decide +kernel) ?_
      refine T_let 247 (by decide +kernel) ?_
      refine T_leq (fun x25 e26 => ?_)
      have w27 := z_wr e26
      refine T_if1 (by decide +kernel) ?_
      refine T_get (by decide +kernel) (c := 248) (by decide +kernel) bdr_248 (by decide) c2 (fun x28 e29 b30 w31 => ?_)
      have l32 : z_ln 247 = 201 := by decide +kernel
      refine T_if1 (by decide +kernel) ?_
      refine T_let 240 (by decide +kernel) ?_
      refine T_if1 (by decide +kernel) ?_
      refine T_let 247 (by decide +kernel) ?_
      refine T_if1 (by decide +kernel) ?_
      refine T_get (by decide +kernel) (c := 248) (by decide +kernel) bdr_248 (by decide) c2 (fun x33 e34 b35 w36 => ?_)
      have l37 : z_ln 247 = 201 := by decide +kernel
      refine T_leq (fun x38 e39 => ?_)
      have w40 := z_wr e39
      exact T_ret ⟨c2, f4, (Or.inr o7), Or.inl (⟨x38, rfl, by omega, by omega⟩)⟩
    · refine T_ite (fun h41 => ?_) (fun h41 => ?_)
      · refine T_if1 (by decide +kernel) ?_
        refine T_let 258 (by decide +kernel) ?_
        refine T_if1 (by decide +kernel) ?_
        refine T_let 269 (by decide +kernel) ?_
        refine T_if1 (by decide +kernel) ?_
        refine T_get (by decide +kernel) (c := 270) (by decide +kernel) bdr_270 (by decide) c2 (fun x42 e43 b44 w45 => ?_)
        have l46 : z_ln 269 = 200 := by decide +kernel
        exact T_ret ⟨c2, f4, (Or.inr o7), Or.inl (⟨x42, rfl, by omega, by omega⟩)⟩
      · refine T_ite (fun h47 => ?_) (fun h47 => ?_)
        · refine T_if1 (by decide +kernel) ?_
          refine T_let 2 (by decide +kernel) ?_
          refine T_if1 (by decide +kernel) ?_
          refine T_get (by decide +kernel) (c := 3) (by decide +kernel) bdr_3 (by decide) c2 (fun x48 e49 b50 w51 => ?_)
          have l52 : z_ln 2 = 9 := by decide +kernel
          refine T_if1 (by decide +kernel) ?_
          refine T_let 258 (by decide +kernel) ?_
          refine T_if1 (by decide +kernel) ?_
          refine T_let 269 (by decide +kernel) ?_
          refine T_if1 (by decide +kernel) ?_
          refine T_get (by decide +kernel) (c := 270) (by decide +kernel) bdr_270 (by decide) c2 (fun x53 e54 b55 w56 => ?_)
          have l57 : z_ln 269 = 200 := by decide +kernel
          refine T_leq (fun x58 e59 => ?_)
          have w60 := z_wr e59
          exact T_ret ⟨c2, f4, (Or.inr o7), Or.inl (⟨x58, rfl, by omega, by omega⟩)⟩
        · refine T_ite (fun h61 => ?_) (fun h61 => ?_)
          · refine T_if1 (by decide +kernel) ?_
            refine T_let 258 (by decide +kernel) ?_
            refine T_if1 (by decide +kernel) ?_
            refine T_let 271 (by decide +kernel) ?_
            refine T_if1 (by decide +kernel) ?_
            refine T_get (by decide +kernel) (c := 272) (by decide +kernel) bdr_272 (by decide) c2 (fun x62 e63 b64 w65 => ?_)
            have l66 : z_ln 271 = 200 := by decide +kernel
            exact T_ret ⟨c2, f4, (Or.inr o7), Or.inl (⟨x62, rfl, by omega, by omega⟩)⟩
          · refine T_ite (fun h67 => ?_) (fun h67 => ?_)
            · refine T_if1 (by decide +kernel) ?_
              refine T_let 258 (by decide +kernel) ?_
              refine T_if1 (by decide +kernel) ?_
              refine T_let 277 (by decide +kernel) ?_
              refine T_leq (fun x68 e69 => ?_)
              have w70 := z_wr e69
              refine T_if1 (by decide +kernel) ?_
              refine T_get (by decide +kernel) (c := 278) (by decide +kernel) bdr_278 (by decide) c2 (fun x71 e72 b73 w74 => ?_)
              have l75 : z_ln 277 = 201 := by decide +kernel
              refine T_if1 (by decide +kernel) ?_
              refine T_let 258 (by decide +kernel) ?_
              refine T_if1 (by decide +kernel) ?_
              refine T_let 277 (by decide +kernel) ?_
              refine T_if1 (by decide +kernel) ?_
              refine T_get (by decide +kernel) (c := 278) (by decide +kernel) bdr_278 (by decide) c2 (fun x76 e77 b78 w79 => ?_)
              have l80 : z_ln 277 = 201 := by decide +kernel
              refine T_leq (fun x81 e82 => ?_)
              have w83 := z_wr e82
              exact T_ret ⟨c2, f4, (Or.inr o7), Or.inl (⟨x81, rfl, by omega, by omega⟩)⟩
            · refine T_ite (fun h84 => ?_) (fun h84 => ?_)
              · refine T_if1 (by decide +kernel) ?_
                refine T_let 258 (by decide +kernel) ?_
                refine T_if1 (by decide +kernel) ?_
                refine T_let 273 (by decide +kernel) ?_
                refine T_if1 (by decide +kernel) ?_
                refine T_get (by decide +kernel) (c := 274) (by decide +kernel) bdr_274 (by decide) c2 (fun x85 e86 b87 w88 => ?_)
                have l89 : z_ln 273 = 200 := by decide +kernel
                exact T_ret ⟨c2, f4, (Or.inr o7), Or.inl (⟨x85, rfl, by omega, by omega⟩)⟩
              · refine T_if1 (by decide +kernel) ?_
                refine T_let 258 (by decide +kernel) ?_
                refine T_if1 (by decide +kernel) ?_
                refine T_let 275 (by decide +kernel) ?_
                refine T_if1 (by decide +kernel) ?_
                refine T_get (by decide +kernel) (c := 276) (by decide +kernel) bdr_276 (by decide) c2 (fun x90 e91 b92 w93 => ?_)
                have l94 : z_ln 275 = 200 := by decide +kernel
                exact T_ret ⟨c2, f4, (Or.inr o7), Or.inl (⟨x90, rfl, by omega, by omega⟩)⟩
abbrev P_X11_block_1T (r0 : z_M) : z_V → z_M → Prop := fun v s' => z_CI s' ∧ z_Fr R_X11_block_1 r0 s' ∧ (y_V16 s') ∧ ((∃ x, v = vI x ∧ -2147483648 ≤ x ∧ x ≤ 2147483647) ∨ v = vX 0 ∨ v = vX 1)
theorem nr_X0_padAhead_279__193 (b : Int) : ¬ R_X0_padAhead_279 193 b := not_false
theorem nr_X0_padAhead_279__215 (b : Int) : ¬ R_X0_padAhead_279 215 b := not_false
theorem nr_X0_padAhead_279__8 (b : Int) : ¬ R_X0_padAhead_279 8 b := not_false
theorem nr_X0_padAhead_279__12 (b : Int) : ¬ R_X0_padAhead_279 12 b := not_false
theorem nr_X0_padAhead_279__14 (b : Int) : ¬ R_X0_padAhead_279 14 b := not_false
theorem nr_X0_padBehind_279__193 (b : Int) : ¬ R_X0_padBehind_279 193 b := not_false
theorem nr_X0_padBehind_279__215 (b : Int) : ¬ R_X0_padBehind_279 215 b := not_false
theorem nr_X0_padBehind_279__8 (b : Int) : ¬ R_X0_padBehind_279 8 b := not_false
theorem nr_X0_padBehind_279__12 (b : Int) : ¬ R_X0_padBehind_279 12 b := not_false
theorem nr_X0_padBehind_279__14 (b : Int) : ¬ R_X0_padBehind_279 14 b := not_false
theorem sf_X11_block_1T {fu : Nat} (hfu : 8589934592 ≤ fu) (r0 : z_M) (c0 : z_CI r0) (a1 : Int) (a2 : Int) (b1 : -2147483648 ≤ a1 ∧ a1 ≤ 2147483647) (b2 : -2147483648 ≤ a2 ∧ a2 ≤ 2147483647) (p0 : y_V16 r0) : z_T (fX11_block fu r0 1 a1 a2) (P_X11_block_1T r0) := by
  refine T_of (fX11_block.eq_1 ..) ?_
  refine T_if1 (by decide +kernel) ?_
  refine T_useN (sf_X11_refresh_1T hfu r0 c0 p0) (fun v6 s1 hq => ?_)
  obtain ⟨c2, f3, o7, rfl⟩ := hq
  refine T_vN ?_
  have f4 := z_Fr.tr (R := R_X11_block_1) z_Fr.rf f3 rs_X11_refresh_1__X11_block_1
  have u10 := CI_b c2 (k := 279) (j := 9) bd_279_9
  refine T_if1 (by decide +kernel) ?_
  refine T_let 258 (by decide +kernel) ?_
  refine T_if1 (by decide +kernel) ?_
  refine T_let 279 (by decide +kernel) ?_
  refine T_if1 (by decide +kernel) ?_
  refine T_leq (fun x11 e12 => ?_)
  have u13 := CI_b c2 (k := 279) (j := 9) bd_279_9
  refine T_if1 (by decide +kernel) ?_
  refine T_ne ?_ (fun h14 h15 => ?_)
  · exact T_ret ⟨CI_up c2 bd_1_14 (z_wb rfl).1, z_Fr.upf (R := R_X11_block_1) f4 (fun a b h => z_up_k h) (fun b h => z_up_j h) (Or.inr (Or.inr (Or.inr (Or.inr (Or.inr (Or.inr (Or.inr (Or.inl (⟨rfl, by decide⟩))))))))), Or.inr (y_Uu.fr o7 (z_up_k (by decide)) (z_up_k (by decide)) (fun _ => z_up_k (by decide)) (fun _ => z_up_k (by decide)) (fun _ => z_up_k (by decide)) (fun _ => z_up_k (by decide)) (fun _ => z_up_k (by decide)) (fun _ => z_up_k (by decide)) (fun _ => z_up_k (by decide))), Or.inr (Or.inl rfl)⟩
  refine T_if1 (by decide +kernel) ?_
  refine T_nw ?_ (fun h16 h17 => ?_)
  · exact T_ret ⟨CI_up c2 bd_1_15 (z_wb rfl).1, z_Fr.upf (R := R_X11_block_1) f4 (fun a b h => z_up_k h) (fun b h => z_up_j h) (Or.inr (Or.inr (Or.inr (Or.inr (Or.inr (Or.inr (Or.inr (Or.inl (⟨rfl, by decide⟩))))))))), Or.inr (y_Uu.fr o7 (z_up_k (by decide)) (z_up_k (by decide)) (fun _ => z_up_k (by decide)) (fun _ => z_up_k (by decide)) (fun _ => z_up_k (by decide)) (fun _ => z_up_k (by decide)) (fun _ => z_up_k (by decide)) (fun _ => z_up_k (by decide)) (fun _ => z_up_k (by decide))), Or.inr (Or.inr rfl)⟩
  refine T_ite (fun h18 => ?_) (fun h18 => ?_)
  · refine T_if1 (by decide +kernel) ?_
    refine T_let 280 (by decide +kernel) ?_
    refine T_if1 (by decide +kernel) ?_
    refine T_get (by decide +kernel) (c := 281) (by decide +kernel) bdr_281 (by decide) c2 (fun x19 e20 b21 w22 => ?_)
    have l23 : z_ln 280 = 200 := by decide +kernel
    exact T_ret ⟨c2, f4, (Or.inr o7), Or.inl (⟨x19, rfl, by omega, by omega⟩)⟩
  · refine T_ite (fun h24 => ?_) (fun h24 => ?_)
    · refine T_if1 (by decide +kernel) ?_
      refine T_let 282 (by decide +kernel) ?_
      refine T_if1 (by decide +kernel) ?_
      refine T_get (by decide +kernel) (c := 283) (by decide +kernel) bdr_283 (by decide) c2 (fun x25 e26 b27 w28 => ?_)
      have l29 : z_ln 282 = 200 := by decide +kernel
      refine T_if1 (by decide +kernel) ?_
      refine T_let 280 (by decide +kernel) ?_
      refine T_if1 (by decide +kernel) ?_
      refine T_get (by decide +kernel) (c := 281) (by decide +kernel) bdr_281 (by decide) c2 (fun x30 e31 b32 w33 => ?_)
      have l34 : z_ln 280 = 200 := by decide +kernel
      refine T_leq (fun x35 e36 => ?_)
      have w37 := z_wr e36
      refine T_leq (fun x38 e39 => ?_)
      have w40 := z_wr e39
      exact T_ret ⟨c2, f4, (Or.inr o7), Or.inl (⟨x38, rfl, by omega, by omega⟩)⟩
    · refine T_ite (fun h41 => ?_) (fun h41 => ?_)
      · refine T_if1 (by decide +kernel) ?_
        refine T_let 284 (by decide +kernel) ?_
        refine T_if1 (by decide +kernel) ?_
        refine T_get (by decide +kernel) (c := 285) (by decide +kernel) bdr_285 (by decide) c2 (fun x42 e43 b44 w45 => ?_)
        have l46 : z_ln 284 = 200 := by decide +kernel
        exact T_ret ⟨c2, f4, (Or.inr o7), Or.inl (⟨x42, rfl, by omega, by omega⟩)⟩
      · refine T_ite (fun h47 => ?_) (fun h47 => ?_)
        · refine T_if1 (by decide +kernel) ?_
          refine T_let 286 (by decide +kernel) ?_
          refine T_if1 (by decide +kernel) ?_
          refine T_get (by decide +kernel) (c := 287) (by decide +kernel) bdr_287 (by decide) c2 (fun x48 e49 b50 w51 => ?_)
          have l52 : z_ln 286 = 200 := by decide +kernel
          exact T_ret ⟨c2, f4, (Or.inr o7), Or.inl (⟨x48, rfl, by omega, by omega⟩)⟩
        · refine T_ite (fun h53 => ?_) (fun h53 => ?_)
          · refine T_if1 (by decide +kernel) ?_
            refine T_let 288 (by decide +kernel) ?_
            refine T_if1 (by decide +kernel) ?_
            refine T_get (by decide +kernel) (c := 289) (by decide +kernel) bdr_289 (by decide) c2 (fun x54 e55 b56 w57 => ?_)
            have l58 : z_ln 288 = 200 := by decide +kernel
            exact T_ret ⟨c2, f4, (Or.inr o7), Or.inl (⟨x54, rfl, by omega, by omega⟩)⟩
          · refine T_ite (fun h59 => ?_) (fun h59 => ?_)
            · refine T_if1 (by decide +kernel) ?_
              refine T_let 290 (by decide +kernel) ?_
              refine T_if1 (by decide +kernel) ?_
              refine T_get (by decide +kernel) (c := 291) (by decide +kernel) bdr_291 (by decide) c2 (fun x60 e61 b62 w63 => ?_)
              have l64 : z_ln 290 = 200 := by decide +kernel
              exact T_ret ⟨c2, f4, (Or.inr o7), Or.inl (⟨x60, rfl, by omega, by omega⟩)⟩
            · refine T_ite (fun h65 => ?_) (fun h65 => ?_)
              · refine T_if1 (by decide +kernel) ?_
                refine T_useI (sf_X0_padAhead_279 hfu s1 c2 a1 (by omega)) (fun v71 s66 hq => ?_)
                obtain ⟨c67, f68, ⟨x70, rfl, b72, b73⟩⟩ := hq
                refine T_vI ?_
                have f69 := z_Fr.tr (R := R_X11_block_1) f4 f68 (fun a b h => absurd h not_false)
                have t74 : s66 279 9 = s1 279 9 := f68 279 9 (by decide)
                have r75 := y_Uu.fr o7 (f68 191 16 (by decide)) (f68 6 6 (by decide)) (fun b => f68 195 b (nr_X0_padAhead_279__195 b)) (fun b => f68 197 b (nr_X0_padAhead_279__197 b)) (fun b => f68 193 b (nr_X0_padAhead_279__193 b)) (fun b => f68 215 b (nr_X0_padAhead_279__215 b)) (fun b => f68 8 b (nr_X0_padAhead_279__8 b)) (fun b => f68 12 b (nr_X0_padAhead_279__12 b)) (fun b => f68 14 b (nr_X0_padAhead_279__14 b))
                exact T_ret ⟨c67, f69, (Or.inr r75), Or.inl (⟨x70, rfl, by omega, by omega⟩)⟩
              · refine T_if1 (by decide +kernel) ?_
                refine T_useI (sf_X0_padBehind_279 hfu s1 c2 a1 (by omega)) (fun v81 s76 hq => ?_)
                obtain ⟨c77, f78, ⟨x80, rfl, b82, b83⟩⟩ := hq
                refine T_vI ?_
                have f79 := z_Fr.tr (R := R_X11_block_1) f4 f78 (fun a b h => absurd h not_false)
                have t84 : s76 279 9 = s1 279 9 := f78 279 9 (by decide)
                have r85 := y_Uu.fr o7 (f78 191 16 (by decide)) (f78 6 6 (by decide)) (fun b => f78 195 b (nr_X0_padBehind_279__195 b)) (fun b => f78 197 b (nr_X0_padBehind_279__197 b)) (fun b => f78 193 b (nr_X0_padBehind_279__193 b)) (fun b => f78 215 b (nr_X0_padBehind_279__215 b)) (fun b => f78 8 b (nr_X0_padBehind_279__8 b)) (fun b => f78 12 b (nr_X0_padBehind_279__12 b)) (fun b => f78 14 b (nr_X0_padBehind_279__14 b))
                exact T_ret ⟨c77, f79, (Or.inr r85), Or.inl (⟨x80, rfl, by omega, by omega⟩)⟩
abbrev P_X11_reading_1T (r0 : z_M) : z_V → z_M → Prop := fun v s' => z_CI s' ∧ z_Fr R_X11_reading_1 r0 s' ∧ (y_V16 s') ∧ ((∃ x, v = vI x ∧ -2147483648 ≤ x ∧ x ≤ 2147483647) ∨ v = vX 0 ∨ v = vX 1)
theorem nr_X0_letters_279__193 (b : Int) : ¬ R_X0_letters_279 193 b := not_false
theorem nr_X0_letters_279__215 (b : Int) : ¬ R_X0_letters_279 215 b := not_false
theorem nr_X0_letters_279__8 (b : Int) : ¬ R_X0_letters_279 8 b := not_false
theorem nr_X0_letters_279__12 (b : Int) : ¬ R_X0_letters_279 12 b := not_false
theorem nr_X0_letters_279__14 (b : Int) : ¬ R_X0_letters_279 14 b := not_false
theorem nr_X3_letterPlace_258__193 (b : Int) : ¬ R_X3_letterPlace_258 193 b := not_false
theorem nr_X3_letterPlace_258__215 (b : Int) : ¬ R_X3_letterPlace_258 215 b := not_false
theorem nr_X3_letterPlace_258__8 (b : Int) : ¬ R_X3_letterPlace_258 8 b := not_false
theorem nr_X3_letterPlace_258__12 (b : Int) : ¬ R_X3_letterPlace_258 12 b := not_false
theorem nr_X3_letterPlace_258__14 (b : Int) : ¬ R_X3_letterPlace_258 14 b := not_false
theorem sj_X11_reading_1T_J112 {fu : Nat} (hfu : 8589934592 ≤ fu) (r0 s : z_M) (c : z_CI s) (f : z_Fr R_X11_reading_1 r0 s) (t0 : Int) (d0 : -2147483648 ≤ t0 ∧ t0 ≤ 2147483647) (p0 : y_V16 s) : z_T (fX11_reading_J112 fu s t0) (P_X11_reading_1T r0) := by
  refine T_of (fX11_reading_J112.eq_1 ..) ?_
  have u1 := CI_b c (k := 279) (j := 9) bd_279_9
  exact T_ret ⟨c, f, p0, Or.inl (⟨t0, rfl, by omega, by omega⟩)⟩
theorem nr_X3_letterCode_258__193 (b : Int) : ¬ R_X3_letterCode_258 193 b := not_false
theorem nr_X3_letterCode_258__215 (b : Int) : ¬ R_X3_letterCode_258 215 b := not_false
theorem nr_X3_letterCode_258__8 (b : Int) : ¬ R_X3_letterCode_258 8 b := not_false
theorem nr_X3_letterCode_258__12 (b : Int) : ¬ R_X3_letterCode_258 12 b := not_false
theorem nr_X3_letterCode_258__14 (b : Int) : ¬ R_X3_letterCode_258 14 b := not_false
theorem sj_X11_reading_1T_J90 {fu : Nat} (hfu : 8589934592 ≤ fu) (r0 s : z_M) (c : z_CI s) (f : z_Fr R_X11_reading_1 r0 s) (t0 : Int) (d0 : -2147483648 ≤ t0 ∧ t0 ≤ 2147483647) (p0 : y_V16 s) : z_T (fX11_reading_J90 fu s t0) (P_X11_reading_1T r0) := by
  refine T_of (fX11_reading_J90.eq_1 ..) ?_
  have u1 := CI_b c (k := 279) (j := 9) bd_279_9
  exact T_ret ⟨c, f, p0, Or.inl (⟨t0, rfl, by omega, by omega⟩)⟩
theorem sj_X11_reading_1T_J64 {fu : Nat} (hfu : 8589934592 ≤ fu) (r0 s : z_M) (c : z_CI s) (f : z_Fr R_X11_reading_1 r0 s) (a1 : Int) (a2 : Int) (a3 : Int) (a4 : Int) (t0 : Int) (b1 : -2147483648 ≤ a1 ∧ a1 ≤ 2147483647) (b2 : -2147483648 ≤ a2 ∧ a2 ≤ 2147483647) (b3 : -2147483648 ≤ a3 ∧ a3 ≤ 2147483647) (b4 : -2147483648 ≤ a4 ∧ a4 ≤ 2147483647) (d0 : 0 ≤ t0 ∧ t0 ≤ 1) (p0 : y_V16 s) : z_T (fX11_reading_J64 fu s 1 a1 a2 a3 a4 t0) (P_X11_reading_1T r0) := by
  refine T_of (fX11_reading_J64.eq_1 ..) ?_
  have u1 := CI_b c (k := 279) (j := 9) bd_279_9
  refine T_ite (fun h2 => ?_) (fun h2 => ?_)
  · refine T_ite (fun h3 => ?_) (fun h3 => ?_)
    · refine T_if1 (by decide +kernel) ?_
      refine T_let 258 (by decide +kernel) ?_
      refine T_if1 (by decide +kernel) ?_
      refine T_useI (sf_X3_letterPlace_258 hfu s c a1 a2 a3 (by omega) (by omega) (by omega)) (fun v9 s4 hq => ?_)
      obtain ⟨c5, f6, ⟨x8, rfl, b10, b11⟩⟩ := hq
      refine T_vI ?_
      have f7 := z_Fr.tr (R := R_X11_reading_1) f f6 (fun a b h => absurd h not_false)
      have t12 : s4 279 9 = s 279 9 := f6 279 9 (by decide)
      have r13 := y_V16.fr p0 (f6 1 16 (by decide)) (f6 191 16 (by decide)) (f6 6 6 (by decide)) (fun b => f6 195 b (nr_X3_letterPlace_258__195 b)) (fun b => f6 197 b (nr_X3_letterPlace_258__197 b)) (fun b => f6 193 b (nr_X3_letterPlace_258__193 b)) (fun b => f6 215 b (nr_X3_letterPlace_258__215 b)) (fun b => f6 8 b (nr_X3_letterPlace_258__8 b)) (fun b => f6 12 b (nr_X3_letterPlace_258__12 b)) (fun b => f6 14 b (nr_X3_letterPlace_258__14 b))
      exact sj_X11_reading_1T_J112 hfu r0 s4 c5 f7 x8 (by omega) r13
    · exact sj_X11_reading_1T_J112 hfu r0 s c f (-1000) (by omega) p0
  · refine T_ite (fun h14 => ?_) (fun h14 => ?_)
    · refine T_if1 (by decide +kernel) ?_
      refine T_let 258 (by decide +kernel) ?_
      refine T_if1 (by decide +kernel) ?_
      refine T_useI (sf_X3_letterCode_258 hfu s c a1 a2 a3 (by omega) (by omega) (by omega)) (fun v20 s15 hq => ?_)
      obtain ⟨c16, f17, ⟨x19, rfl, b21, b22⟩⟩ := hq
      refine T_vI ?_
      have f18 := z_Fr.tr (R := R_X11_reading_1) f f17 (fun a b h => absurd h not_false)
      have t23 : s15 279 9 = s 279 9 := f17 279 9 (by decide)
      have r24 := y_V16.fr p0 (f17 1 16 (by decide)) (f17 191 16 (by decide)) (f17 6 6 (by decide)) (fun b => f17 195 b (nr_X3_letterCode_258__195 b)) (fun b => f17 197 b (nr_X3_letterCode_258__197 b)) (fun b => f17 193 b (nr_X3_letterCode_258__193 b)) (fun b => f17 215 b (nr_X3_letterCode_258__215 b)) (fun b => f17 8 b (nr_X3_letterCode_258__8 b)) (fun b => f17 12 b (nr_X3_letterCode_258__12 b)) (fun b => f17 14 b (nr_X3_letterCode_258__14 b))
      exact sj_X11_reading_1T_J90 hfu r0 s15 c16 f18 x19 (by omega) r24
    · exact sj_X11_reading_1T_J90 hfu r0 s c f (-1) (by omega) p0
theorem sf_X11_reading_1T {fu : Nat} (hfu : 8589934592 ≤ fu) (r0 : z_M) (c0 : z_CI r0) (a1 : Int) (a2 : Int) (a3 : Int) (a4 : Int) (b1 : -2147483648 ≤ a1 ∧ a1 ≤ 2147483647) (b2 : -2147483648 ≤ a2 ∧ a2 ≤ 2147483647) (b3 : -2147483648 ≤ a3 ∧ a3 ≤ 2147483647) (b4 : -2147483648 ≤ a4 ∧ a4 ≤ 2147483647) (p0 : y_V16 r0) : z_T (fX11_reading fu r0 1 a1 a2 a3 a4) (P_X11_reading_1T r0) := by
  refine T_of (fX11_reading.eq_1 ..) ?_
  refine T_if1 (by decide +kernel) ?_
  refine T_useN (sf_X11_refresh_1T hfu r0 c0 p0) (fun v6 s1 hq => ?_)
  obtain ⟨c2, f3, o7, rfl⟩ := hq
  refine T_vN ?_
  have f4 := z_Fr.tr (R := R_X11_reading_1) z_Fr.rf f3 rs_X11_refresh_1__X11_reading_1
  have u10 := CI_b c2 (k := 279) (j := 9) bd_279_9
  refine T_if1 (by decide +kernel) ?_
  refine T_let 258 (by decide +kernel) ?_
  refine T_if1 (by decide +kernel) ?_
  refine T_let 279 (by decide +kernel) ?_
  refine T_if1 (by decide +kernel) ?_
  refine T_leq (fun x11 e12 => ?_)
  have u13 := CI_b c2 (k := 279) (j := 9) bd_279_9
  refine T_if1 (by decide +kernel) ?_
  refine T_ne ?_ (fun h14 h15 => ?_)
  · exact T_ret ⟨CI_up c2 bd_1_14 (z_wb rfl).1, z_Fr.upf (R := R_X11_reading_1) f4 (fun a b h => z_up_k h) (fun b h => z_up_j h) (Or.inr (Or.inr (Or.inr (Or.inr (Or.inr (Or.inr (Or.inr (Or.inl (⟨rfl, by decide⟩))))))))), Or.inr (y_Uu.fr o7 (z_up_k (by decide)) (z_up_k (by decide)) (fun _ => z_up_k (by decide)) (fun _ => z_up_k (by decide)) (fun _ => z_up_k (by decide)) (fun _ => z_up_k (by decide)) (fun _ => z_up_k (by decide)) (fun _ => z_up_k (by decide)) (fun _ => z_up_k (by decide))), Or.inr (Or.inl rfl)⟩
  refine T_if1 (by decide +kernel) ?_
  refine T_nw ?_ (fun h16 h17 => ?_)
  · exact T_ret ⟨CI_up c2 bd_1_15 (z_wb rfl).1, z_Fr.upf (R := R_X11_reading_1) f4 (fun a b h => z_up_k h) (fun b h => z_up_j h) (Or.inr (Or.inr (Or.inr (Or.inr (Or.inr (Or.inr (Or.inr (Or.inl (⟨rfl, by decide⟩))))))))), Or.inr (y_Uu.fr o7 (z_up_k (by decide)) (z_up_k (by decide)) (fun _ => z_up_k (by decide)) (fun _ => z_up_k (by decide)) (fun _ => z_up_k (by decide)) (fun _ => z_up_k (by decide)) (fun _ => z_up_k (by decide)) (fun _ => z_up_k (by decide)) (fun _ => z_up_k (by decide))), Or.inr (Or.inr rfl)⟩
  refine T_if1 (by decide +kernel) ?_
  refine T_nw ?_ (fun h18 h19 => ?_)
  · exact T_ret ⟨CI_up c2 bd_1_15 (z_wb rfl).1, z_Fr.upf (R := R_X11_reading_1) f4 (fun a b h => z_up_k h) (fun b h => z_up_j h) (Or.inr (Or.inr (Or.inr (Or.inr (Or.inr (Or.inr (Or.inr (Or.inl (⟨rfl, by decide⟩))))))))), Or.inr (y_Uu.fr o7 (z_up_k (by decide)) (z_up_k (by decide)) (fun _ => z_up_k (by decide)) (fun _ => z_up_k (by decide)) (fun _ => z_up_k (by decide)) (fun _ => z_up_k (by decide)) (fun _ => z_up_k (by decide)) (fun _ => z_up_k (by decide)) (fun _ => z_up_k (by decide))), Or.inr (Or.inr rfl)⟩
  refine T_if1 (by decide +kernel) ?_
  refine T_nw ?_ (fun h20 h21 => ?_)
  · exact T_ret ⟨CI_up c2 bd_1_15 (z_wb rfl).1, z_Fr.upf (R := R_X11_reading_1) f4 (fun a b h => z_up_k h) (fun b h => z_up_j h) (Or.inr (Or.inr (Or.inr (Or.inr (Or.inr (Or.inr (Or.inr (Or.inl (⟨rfl, by decide⟩))))))))), Or.inr (y_Uu.fr o7 (z_up_k (by decide)) (z_up_k (by decide)) (fun _ => z_up_k (by decide)) (fun _ => z_up_k (by decide)) (fun _ => z_up_k (by decide)) (fun _ => z_up_k (by decide)) (fun _ => z_up_k (by decide)) (fun _ => z_up_k (by decide)) (fun _ => z_up_k (by decide))), Or.inr (Or.inr rfl)⟩
  refine T_if1 (by decide +kernel) ?_
  refine T_let 258 (by decide +kernel) ?_
  refine T_if1 (by decide +kernel) ?_
  refine T_let 279 (by decide +kernel) ?_
  refine T_if1 (by decide +kernel) ?_
  refine T_useI (sf_X0_letters_279 hfu s1 c2 a1 a2 (by omega) (by omega)) (fun v27 s22 hq => ?_)
  obtain ⟨c23, f24, ⟨x26, rfl, b28, b29⟩⟩ := hq
  refine T_vI ?_
  have f25 := z_Fr.tr (R := R_X11_reading_1) f4 f24 (fun a b h => absurd h not_false)
  have t30 : s22 279 9 = s1 279 9 := f24 279 9 (by decide)
  have r31 := y_Uu.fr o7 (f24 191 16 (by decide)) (f24 6 6 (by decide)) (fun b => f24 195 b (nr_X0_letters_279__195 b)) (fun b => f24 197 b (nr_X0_letters_279__197 b)) (fun b => f24 193 b (nr_X0_letters_279__193 b)) (fun b => f24 215 b (nr_X0_letters_279__215 b)) (fun b => f24 8 b (nr_X0_letters_279__8 b)) (fun b => f24 12 b (nr_X0_letters_279__12 b)) (fun b => f24 14 b (nr_X0_letters_279__14 b))
  refine T_ite (fun h32 => ?_) (fun h32 => ?_)
  · exact sj_X11_reading_1T_J64 hfu r0 s22 c23 f25 a1 a2 a3 a4 0 (by omega) (by omega) (by omega) (by omega) (by omega) (Or.inr r31)
  · exact sj_X11_reading_1T_J64 hfu r0 s22 c23 f25 a1 a2 a3 a4 1 (by omega) (by omega) (by omega) (by omega) (by omega) (Or.inr r31)
abbrev P_X11_run_1T (r0 : z_M) : z_V → z_M → Prop := fun v s' => z_CI s' ∧ z_Fr R_X11_run_1 r0 s' ∧ (y_V16 s') ∧ ((∃ x, v = vI x ∧ -2147483648 ≤ x ∧ x ≤ 2147483647) ∨ v = vX 1)
theorem sj_X11_run_1T_J111 {fu : Nat} (hfu : 8589934592 ≤ fu) (r0 s : z_M) (c : z_CI s) (f : z_Fr R_X11_run_1 r0 s) (a1 : Int) (a2 : Int) (a3 : Int) (a4 : Int) (a5 : Int) (b1 : -2147483648 ≤ a1 ∧ a1 ≤ 2147483647) (b2 : -2147483648 ≤ a2 ∧ a2 ≤ 2147483647) (b3 : -2147483648 ≤ a3 ∧ a3 ≤ 2147483647) (b4 : -2147483648 ≤ a4 ∧ a4 ≤ 2147483647) (b5 : -2147483648 ≤ a5 ∧ a5 ≤ 2147483646) (p0 : y_V16 s) (M : Int) (pm : 2147483647 - a5 ≤ M) {r : z_M → Int → Int → Int → z_O} {k : z_M → z_O} (hr : ∀ (s' : z_M) (v3 : Int) (v4 : Int) (v5 : Int), z_CI s' → z_Fr R_X11_run_1 r0 s' → (-2147483648 ≤ v3 ∧ v3 ≤ 2147483647) → (-2147483648 ≤ v4 ∧ v4 ≤ 2147483647) → (-2147483648 ≤ v5 ∧ v5 ≤ 2147483647) → (y_V16 s') → (2147483647 - v5 < M) → z_T (r s' v3 v4 v5) (P_X11_run_1T r0)) (hk : ∀ (s' : z_M), z_CI s' → z_Fr R_X11_run_1 r0 s' → (y_V16 s') → z_T (k s') (P_X11_run_1T r0)) : z_T (fX11_run_J111 fu s 1 a1 a2 a3 a4 a5 r k) (P_X11_run_1T r0) := by
  refine T_of (fX11_run_J111.eq_1 ..) ?_
  have u1 := CI_b c (k := 6) (j := 6) bd_6_6
  refine T_leq (fun x2 e3 => ?_)
  have w4 := z_wb e3
  exact hr s a3 a4 x2 c f (by omega) (by omega) (by omega) p0 (by omega)
theorem sj_X11_run_1T_J103 {fu : Nat} (hfu : 8589934592 ≤ fu) (r0 s : z_M) (c : z_CI s) (f : z_Fr R_X11_run_1 r0 s) (t0 : Int) (a1 : Int) (a2 : Int) (d0 : -2147483648 ≤ t0 ∧ t0 ≤ 2147483647) (e1 : -2147483648 ≤ a1 ∧ a1 ≤ 2147483647) (e2 : -2147483648 ≤ a2 ∧ a2 ≤ 2147483647) (p0 : y_V16 s) (M : Int) (pm : (0 : Int) ≤ 0) {r : z_M → Int → Int → Int → z_O} {k : z_M → z_O} (hr : ∀ (s' : z_M) (v3 : Int) (v4 : Int) (v5 : Int), z_CI s' → z_Fr R_X11_run_1 r0 s' → (-2147483648 ≤ v3 ∧ v3 ≤ 2147483647) → (-2147483648 ≤ v4 ∧ v4 ≤ 2147483647) → (-2147483648 ≤ v5 ∧ v5 ≤ 2147483647) → (y_V16 s') → (2147483647 - v5 < M) → z_T (r s' v3 v4 v5) (P_X11_run_1T r0)) (hk : ∀ (s' : z_M), z_CI s' → z_Fr R_X11_run_1 r0 s' → (y_V16 s') → z_T (k s') (P_X11_run_1T r0)) : z_T (fX11_run_J103 fu s t0 r k) (P_X11_run_1T r0) := by
  refine T_of (fX11_run_J103.eq_1 ..) ?_
  have u1 := CI_b c (k := 6) (j := 6) bd_6_6
  exact T_ret ⟨c, f, p0, Or.inl (⟨t0, rfl, by omega, by omega⟩)⟩
theorem sj_X11_run_1T_J74 {fu : Nat} (hfu : 8589934592 ≤ fu) (r0 s : z_M) (c : z_CI s) (f : z_Fr R_X11_run_1 r0 s) (a1 : Int) (a2 : Int) (a3 : Int) (a4 : Int) (a5 : Int) (a6 : Int) (b1 : -2147483648 ≤ a1 ∧ a1 ≤ 2147483647) (b2 : -2147483648 ≤ a2 ∧ a2 ≤ 2147483647) (b3 : -2147483648 ≤ a3 ∧ a3 ≤ 2147483647) (b4 : -2147483648 ≤ a4 ∧ a4 ≤ 2147483647) (b5 : -2147483648 ≤ a5 ∧ a5 ≤ 2147483646) (b6 : -2147483648 ≤ a6 ∧ a6 ≤ 2147483647) (p0 : y_V16 s) (M : Int) (pm : 2147483647 - a5 ≤ M) {r : z_M → Int → Int → Int → z_O} {k : z_M → z_O} (hr : ∀ (s' : z_M) (v3 : Int) (v4 : Int) (v5 : Int), z_CI s' → z_Fr R_X11_run_1 r0 s' → (-2147483648 ≤ v3 ∧ v3 ≤ 2147483647) → (-2147483648 ≤ v4 ∧ v4 ≤ 2147483647) → (-2147483648 ≤ v5 ∧ v5 ≤ 2147483647) → (y_V16 s') → (2147483647 - v5 < M) → z_T (r s' v3 v4 v5) (P_X11_run_1T r0)) (hk : ∀ (s' : z_M), z_CI s' → z_Fr R_X11_run_1 r0 s' → (y_V16 s') → z_T (k s') (P_X11_run_1T r0)) : z_T (fX11_run_J74 fu s 1 a1 a2 a3 a4 a5 a6 r k) (P_X11_run_1T r0) := by
  refine T_of (fX11_run_J74.eq_1 ..) ?_
  have u1 := CI_b c (k := 6) (j := 6) bd_6_6
  refine T_ite (fun h2 => ?_) (fun h2 => ?_)
  · refine T_leq (fun x3 e4 => ?_)
    have w5 := z_wb e4
    exact sj_X11_run_1T_J111 hfu r0 s c f a1 a2 x3 a5 a5 (by omega) (by omega) (by omega) (by omega) (by omega) p0 M (by omega) (fun s' v3 v4 v5 c' f' w3 w4 w5 z0 pg => hr s' v3 v4 v5 c' f' w3 w4 w5 z0 (by omega)) hk
  · refine T_ite (fun h6 => ?_) (fun h6 => ?_)
    · refine T_ite (fun h7 => ?_) (fun h7 => ?_)
      · exact sj_X11_run_1T_J103 hfu r0 s c f a6 a1 a2 (by omega) (by omega) (by omega) p0 M (by omega) (fun s' v3 v4 v5 c' f' w3 w4 w5 z0 pg => hr s' v3 v4 v5 c' f' w3 w4 w5 z0 (by omega)) hk
      · refine T_leq (fun x8 e9 => ?_)
        have w10 := z_wr e9
        exact sj_X11_run_1T_J103 hfu r0 s c f x8 a1 a2 (by omega) (by omega) (by omega) p0 M (by omega) (fun s' v3 v4 v5 c' f' w3 w4 w5 z0 pg => hr s' v3 v4 v5 c' f' w3 w4 w5 z0 (by omega)) hk
    · exact sj_X11_run_1T_J103 hfu r0 s c f a4 a1 a2 (by omega) (by omega) (by omega) p0 M (by omega) (fun s' v3 v4 v5 c' f' w3 w4 w5 z0 pg => hr s' v3 v4 v5 c' f' w3 w4 w5 z0 (by omega)) hk
theorem sl_X11_run_1T_L19 {fu : Nat} (hfu : 8589934592 ≤ fu) (r0 : z_M) (a1 : Int) (a2 : Int) (b1 : -2147483648 ≤ a1 ∧ a1 ≤ 2147483647) (b2 : -2147483648 ≤ a2 ∧ a2 ≤ 2147483647) {k : z_M → z_O} (hk : ∀ (s' : z_M), z_CI s' → z_Fr R_X11_run_1 r0 s' → (y_V16 s') → z_T (k s') (P_X11_run_1T r0)) : ∀ (F : Nat) (s : z_M) (a3 : Int) (a4 : Int) (a5 : Int), z_CI s → z_Fr R_X11_run_1 r0 s → (-2147483648 ≤ a3 ∧ a3 ≤ 2147483647) → (-2147483648 ≤ a4 ∧ a4 ≤ 2147483647) → (-2147483648 ≤ a5 ∧ a5 ≤ 2147483647) → (y_V16 s) → (2147483647 - a5 < (F : Int)) → z_T (fX11_run_L19 fu 1 a1 a2 F s a3 a4 a5 k) (P_X11_run_1T r0) := by
  intro F
  induction F with
  | zero =>
    intro s a3 a4 a5 c f b3 b4 b5 i0 hm
    have u21 := CI_b c (k := 6) (j := 6) bd_6_6
    exfalso; omega
  | succ F ih =>
    intro s a3 a4 a5 c f b3 b4 b5 i0 hm
    refine T_of (fX11_run_L19.eq_2 ..) ?_
    have u1 := CI_b c (k := 6) (j := 6) bd_6_6
    refine T_if1 (by decide +kernel) ?_
    refine T_let 6 (by decide +kernel) ?_
    refine T_if1 (by decide +kernel) ?_
    refine T_leq (fun x2 e3 => ?_)
    have u4 := CI_b c (k := 6) (j := 6) bd_6_6
    refine T_ite (fun h5 => ?_) (fun h5 => ?_)
    · exact hk s c f i0
    · refine T_if1 (by decide +kernel) ?_
      refine T_let 191 (by decide +kernel) ?_
      refine T_if1 (by decide +kernel) ?_
      refine T_let 218 (by decide +kernel) ?_
      refine T_if1 (by decide +kernel) ?_
      refine T_get (by decide +kernel) (c := 219) (by decide +kernel) bdr_219 (by decide) c (fun x6 e7 b8 w9 => ?_)
      have l10 : z_ln 218 = 200 := by decide +kernel
      refine T_if1 (by decide +kernel) ?_
      refine T_let 6 (by decide +kernel) ?_
      refine T_if1 (by decide +kernel) ?_
      refine T_leq (fun x11 e12 => ?_)
      have u13 := CI_b c (k := 6) (j := 6) bd_6_6
      refine T_ite (fun h14 => ?_) (fun h14 => ?_)
      · exact sj_X11_run_1T_J74 hfu r0 s c f a1 a2 a3 a4 a5 x6 (by omega) (by omega) (by omega) (by omega) (by omega) (by omega) i0 (2147483647 - a5) (by omega) (fun s' v3 v4 v5 c' f' w3 w4 w5 z0 pg => ih s' v3 v4 v5 c' f' w3 w4 w5 z0 (by omega)) hk
      · refine T_if1 (by decide +kernel) ?_
        refine T_let 191 (by decide +kernel) ?_
        refine T_if1 (by decide +kernel) ?_
        refine T_let 218 (by decide +kernel) ?_
        refine T_if1 (by decide +kernel) ?_
        refine T_get (by decide +kernel) (c := 219) (by decide +kernel) bdr_219 (by decide) c (fun x15 e16 b17 w18 => ?_)
        have l19 : z_ln 218 = 200 := by decide +kernel
        refine T_ite (fun h20 => ?_) (fun h20 => ?_)
        · exact sj_X11_run_1T_J111 hfu r0 s c f a1 a2 a3 a4 a5 (by omega) (by omega) (by omega) (by omega) (by omega) i0 (2147483647 - a5) (by omega) (fun s' v3 v4 v5 c' f' w3 w4 w5 z0 pg => ih s' v3 v4 v5 c' f' w3 w4 w5 z0 (by omega)) hk
        · exact sj_X11_run_1T_J74 hfu r0 s c f a1 a2 a3 a4 a5 x6 (by omega) (by omega) (by omega) (by omega) (by omega) (by omega) i0 (2147483647 - a5) (by omega) (fun s' v3 v4 v5 c' f' w3 w4 w5 z0 pg => ih s' v3 v4 v5 c' f' w3 w4 w5 z0 (by omega)) hk
theorem sf_X11_run_1T {fu : Nat} (hfu : 8589934592 ≤ fu) (r0 : z_M) (c0 : z_CI r0) (a1 : Int) (a2 : Int) (b1 : -2147483648 ≤ a1 ∧ a1 ≤ 2147483647) (b2 : -2147483648 ≤ a2 ∧ a2 ≤ 2147483647) (p0 : y_V16 r0) : z_T (fX11_run fu r0 1 a1 a2) (P_X11_run_1T r0) := by
  refine T_of (fX11_run.eq_1 ..) ?_
  refine T_if1 (by decide +kernel) ?_
  refine T_nw ?_ (fun h1 h2 => ?_)
  · exact T_ret ⟨CI_up c0 bd_1_15 (z_wb rfl).1, z_Fr.upf (R := R_X11_run_1) z_Fr.rf (fun a b h => z_up_k h) (fun b h => z_up_j h) (Or.inr (Or.inr (Or.inr (Or.inr (Or.inr (Or.inr (Or.inr (Or.inl (⟨rfl, by decide⟩))))))))), y_V16.fr p0 (z_up_j (by decide)) (z_up_k (by decide)) (z_up_k (by decide)) (fun _ => z_up_k (by decide)) (fun _ => z_up_k (by decide)) (fun _ => z_up_k (by decide)) (fun _ => z_up_k (by decide)) (fun _ => z_up_k (by decide)) (fun _ => z_up_k (by decide)) (fun _ => z_up_k (by decide)), Or.inr rfl⟩
  refine T_if1 (by decide +kernel) ?_
  refine T_useN (sf_X11_refresh_1T hfu r0 c0 p0) (fun v8 s3 hq => ?_)
  obtain ⟨c4, f5, o9, rfl⟩ := hq
  refine T_vN ?_
  have f6 := z_Fr.tr (R := R_X11_run_1) z_Fr.rf f5 rs_X11_refresh_1__X11_run_1
  have t12 : s3 6 6 = r0 6 6 := f5 6 6 (by decide)
  refine sl_X11_run_1T_L19 hfu r0 a1 a2 (by omega) (by omega) (fun s13 c14 f15 g16 => ?_) fu s3 0 0 1 c4 f6 (by omega) (by omega) (by omega) (Or.inr o9) (by omega)
  have u17 := CI_b c14 (k := 6) (j := 6) bd_6_6
  exact T_ret ⟨c14, f15, g16, Or.inl (⟨(-1), rfl, by omega, by omega⟩)⟩
abbrev P_X11_at_1T (r0 : z_M) : z_V → z_M → Prop := fun v s' => z_CI s' ∧ z_Fr R_X11_at_1 r0 s' ∧ (y_V16 s') ∧ ((∃ x, v = vI x ∧ -2147483648 ≤ x ∧ x ≤ 2147483647) ∨ v = vX 0)
theorem nr_X3_standingAt_258__193 (b : Int) : ¬ R_X3_standingAt_258 193 b := by
  unfold R_X3_standingAt_258; omega
theorem nr_X3_standingAt_258__215 (b : Int) : ¬ R_X3_standingAt_258 215 b := by
  unfold R_X3_standingAt_258; omega
theorem nr_X3_standingAt_258__8 (b : Int) : ¬ R_X3_standingAt_258 8 b := by
  unfold R_X3_standingAt_258; omega
theorem nr_X3_standingAt_258__12 (b : Int) : ¬ R_X3_standingAt_258 12 b := by
  unfold R_X3_standingAt_258; omega
theorem nr_X3_standingAt_258__14 (b : Int) : ¬ R_X3_standingAt_258 14 b := by
  unfold R_X3_standingAt_258; omega
theorem sf_X11_at_1T {fu : Nat} (hfu : 8589934592 ≤ fu) (r0 : z_M) (c0 : z_CI r0) (a1 : Int) (a2 : Int) (b1 : -2147483648 ≤ a1 ∧ a1 ≤ 2147483647) (b2 : -2147483648 ≤ a2 ∧ a2 ≤ 2147483647) (p0 : y_V16 r0) : z_T (fX11_at fu r0 1 a1 a2) (P_X11_at_1T r0) := by
  refine T_of (fX11_at.eq_1 ..) ?_
  refine T_if1 (by decide +kernel) ?_
  refine T_useN (sf_X11_refresh_1T hfu r0 c0 p0) (fun v6 s1 hq => ?_)
  obtain ⟨c2, f3, o7, rfl⟩ := hq
  refine T_vN ?_
  have f4 := z_Fr.tr (R := R_X11_at_1) z_Fr.rf f3 rs_X11_refresh_1__X11_at_1
  have u10 := CI_b c2 (k := 240) (j := 6) bd_240_6
  refine T_if1 (by decide +kernel) ?_
  refine T_let 240 (by decide +kernel) ?_
  refine T_if1 (by decide +kernel) ?_
  refine T_leq (fun x11 e12 => ?_)
  have u13 := CI_b c2 (k := 240) (j := 6) bd_240_6
  refine T_if1 (by decide +kernel) ?_
  refine T_ne ?_ (fun h14 h15 => ?_)
  · exact T_ret ⟨CI_up c2 bd_1_14 (z_wb rfl).1, z_Fr.upf (R := R_X11_at_1) f4 (fun a b h => z_up_k h) (fun b h => z_up_j h) (Or.inr (Or.inr (Or.inr (Or.inr (Or.inr (Or.inr (Or.inr (Or.inl (⟨rfl, by decide⟩))))))))), Or.inr (y_Uu.fr o7 (z_up_k (by decide)) (z_up_k (by decide)) (fun _ => z_up_k (by decide)) (fun _ => z_up_k (by decide)) (fun _ => z_up_k (by decide)) (fun _ => z_up_k (by decide)) (fun _ => z_up_k (by decide)) (fun _ => z_up_k (by decide)) (fun _ => z_up_k (by decide))), Or.inr rfl⟩
  refine T_if1 (by decide +kernel) ?_
  refine T_let 258 (by decide +kernel) ?_
  refine T_if1 (by decide +kernel) ?_
  refine T_useI (sf_X3_standingAt_258 hfu s1 c2 a1 a2 (by omega) (by omega)) (fun v21 s16 hq => ?_)
  obtain ⟨c17, f18, ⟨x20, rfl, b22, b23⟩⟩ := hq
  refine T_vI ?_
  have f19 := z_Fr.tr (R := R_X11_at_1) f4 f18 rs_X3_standingAt_258__X11_at_1
  have t24 : s16 240 6 = s1 240 6 := f18 240 6 (by decide)
  have r25 := y_Uu.fr o7 (f18 191 16 (by decide)) (f18 6 6 (by decide)) (fun b => f18 195 b (nr_X3_standingAt_258__195 b)) (fun b => f18 197 b (nr_X3_standingAt_258__197 b)) (fun b => f18 193 b (nr_X3_standingAt_258__193 b)) (fun b => f18 215 b (nr_X3_standingAt_258__215 b)) (fun b => f18 8 b (nr_X3_standingAt_258__8 b)) (fun b => f18 12 b (nr_X3_standingAt_258__12 b)) (fun b => f18 14 b (nr_X3_standingAt_258__14 b))
  exact T_ret ⟨c17, f19, (Or.inr r25), Or.inl (⟨x20, rfl, by omega, by omega⟩)⟩
abbrev P_X11_ends_1T (r0 : z_M) : z_V → z_M → Prop := fun v s' => z_CI s' ∧ z_Fr R_X11_ends_1 r0 s' ∧ (y_V16 s') ∧ ((∃ x, v = vI x ∧ 0 ≤ x ∧ x ≤ 1) ∨ v = vX 0)
theorem sj_X11_ends_1T_J36 {fu : Nat} (hfu : 8589934592 ≤ fu) (r0 s : z_M) (c : z_CI s) (f : z_Fr R_X11_ends_1 r0 s) (t0 : Int) (d0 : 0 ≤ t0 ∧ t0 ≤ 1) (p0 : y_V16 s) : z_T (fX11_ends_J36 fu s t0) (P_X11_ends_1T r0) := by
  refine T_of (fX11_ends_J36.eq_1 ..) ?_
  have u1 := CI_b c (k := 191) (j := 16) bd_191_16
  refine T_if1 (by unfold z_bl; omega) ?_
  exact T_ret ⟨c, f, p0, Or.inl (⟨t0, rfl, by omega, by omega⟩)⟩
theorem sf_X11_ends_1T {fu : Nat} (hfu : 8589934592 ≤ fu) (r0 : z_M) (c0 : z_CI r0) (a1 : Int) (b1 : -2147483648 ≤ a1 ∧ a1 ≤ 2147483647) (p0 : y_V16 r0) : z_T (fX11_ends fu r0 1 a1) (P_X11_ends_1T r0) := by
  refine T_of (fX11_ends.eq_1 ..) ?_
  refine T_if1 (by decide +kernel) ?_
  refine T_useN (sf_X11_refresh_1T hfu r0 c0 p0) (fun v6 s1 hq => ?_)
  obtain ⟨c2, f3, o7, rfl⟩ := hq
  refine T_vN ?_
  have f4 := z_Fr.tr (R := R_X11_ends_1) z_Fr.rf f3 rs_X11_refresh_1__X11_ends_1
  have u10 := CI_b c2 (k := 191) (j := 16) bd_191_16
  refine T_if1 (by decide +kernel) ?_
  refine T_let 191 (by decide +kernel) ?_
  refine T_if1 (by decide +kernel) ?_
  refine T_leq (fun x11 e12 => ?_)
  have u13 := CI_b c2 (k := 191) (j := 16) bd_191_16
  refine T_if1 (by decide +kernel) ?_
  refine T_ne ?_ (fun h14 h15 => ?_)
  · exact T_ret ⟨CI_up c2 bd_1_14 (z_wb rfl).1, z_Fr.upf (R := R_X11_ends_1) f4 (fun a b h => z_up_k h) (fun b h => z_up_j h) (Or.inr (Or.inr (Or.inr (Or.inr (Or.inr (Or.inr (Or.inr (Or.inl (⟨rfl, by decide⟩))))))))), Or.inr (y_Uu.fr o7 (z_up_k (by decide)) (z_up_k (by decide)) (fun _ => z_up_k (by decide)) (fun _ => z_up_k (by decide)) (fun _ => z_up_k (by decide)) (fun _ => z_up_k (by decide)) (fun _ => z_up_k (by decide)) (fun _ => z_up_k (by decide)) (fun _ => z_up_k (by decide))), Or.inr rfl⟩
  refine T_if1 (by decide +kernel) ?_
  refine T_let 191 (by decide +kernel) ?_
  refine T_if1 (by decide +kernel) ?_
  refine T_let 208 (by decide +kernel) ?_
  refine T_if1 (by decide +kernel) ?_
  refine T_get (by decide +kernel) (c := 209) (by decide +kernel) bdr_209 (by decide) c2 (fun x16 e17 b18 w19 => ?_)
  have l20 : z_ln 208 = 200 := by decide +kernel
  refine T_ite (fun h21 => ?_) (fun h21 => ?_)
  · exact sj_X11_ends_1T_J36 hfu r0 s1 c2 f4 0 (by omega) (Or.inr o7)
  · exact sj_X11_ends_1T_J36 hfu r0 s1 c2 f4 1 (by omega) (Or.inr o7)
abbrev P_X11_longOf_1T (r0 : z_M) : z_V → z_M → Prop := fun v s' => z_CI s' ∧ z_Fr R_X11_longOf_1 r0 s' ∧ (y_V16 s') ∧ ((∃ x, v = vI x ∧ -2147483648 ≤ x ∧ x ≤ 2147483647) ∨ v = vX 0 ∨ v = vX 1)
theorem nr_X5_lengthOf_220__193 (b : Int) : ¬ R_X5_lengthOf_220 193 b := by
  unfold R_X5_lengthOf_220; omega
theorem nr_X5_lengthOf_220__215 (b : Int) : ¬ R_X5_lengthOf_220 215 b := by
  unfold R_X5_lengthOf_220; omega
theorem nr_X5_lengthOf_220__8 (b : Int) : ¬ R_X5_lengthOf_220 8 b := by
  unfold R_X5_lengthOf_220; omega
theorem nr_X5_lengthOf_220__12 (b : Int) : ¬ R_X5_lengthOf_220 12 b := by
  unfold R_X5_lengthOf_220; omega
theorem nr_X5_lengthOf_220__14 (b : Int) : ¬ R_X5_lengthOf_220 14 b := by
  unfold R_X5_lengthOf_220; omega
theorem sf_X11_longOf_1T {fu : Nat} (hfu : 8589934592 ≤ fu) (r0 : z_M) (c0 : z_CI r0) (a1 : Int) (a2 : Int) (b1 : -2147483648 ≤ a1 ∧ a1 ≤ 2147483647) (b2 : -2147483648 ≤ a2 ∧ a2 ≤ 2147483647) (p0 : y_V16 r0) : z_T (fX11_longOf fu r0 1 a1 a2) (P_X11_longOf_1T r0) := by
  refine T_of (fX11_longOf.eq_1 ..) ?_
  refine T_if1 (by decide +kernel) ?_
  refine T_useN (sf_X11_refresh_1T hfu r0 c0 p0) (fun v6 s1 hq => ?_)
  obtain ⟨c2, f3, o7, rfl⟩ := hq
  refine T_vN ?_
  have f4 := z_Fr.tr (R := R_X11_longOf_1) z_Fr.rf f3 rs_X11_refresh_1__X11_longOf_1
  have u10 := CI_b c2 (k := 191) (j := 16) bd_191_16
  refine T_if1 (by decide +kernel) ?_
  refine T_let 191 (by decide +kernel) ?_
  refine T_if1 (by decide +kernel) ?_
  refine T_leq (fun x11 e12 => ?_)
  have u13 := CI_b c2 (k := 191) (j := 16) bd_191_16
  refine T_if1 (by decide +kernel) ?_
  refine T_ne ?_ (fun h14 h15 => ?_)
  · exact T_ret ⟨CI_up c2 bd_1_14 (z_wb rfl).1, z_Fr.upf (R := R_X11_longOf_1) f4 (fun a b h => z_up_k h) (fun b h => z_up_j h) (Or.inr (Or.inr (Or.inr (Or.inr (Or.inr (Or.inr (Or.inr (Or.inl (⟨rfl, by decide⟩))))))))), Or.inr (y_Uu.fr o7 (z_up_k (by decide)) (z_up_k (by decide)) (fun _ => z_up_k (by decide)) (fun _ => z_up_k (by decide)) (fun _ => z_up_k (by decide)) (fun _ => z_up_k (by decide)) (fun _ => z_up_k (by decide)) (fun _ => z_up_k (by decide)) (fun _ => z_up_k (by decide))), Or.inr (Or.inl rfl)⟩
  refine T_if1 (by decide +kernel) ?_
  refine T_let 191 (by decide +kernel) ?_
  refine T_if1 (by decide +kernel) ?_
  refine T_leq (fun x16 e17 => ?_)
  have u18 := CI_b c2 (k := 191) (j := 16) bd_191_16
  refine T_if1 (by decide +kernel) ?_
  refine T_ne ?_ (fun h19 h20 => ?_)
  · exact T_ret ⟨CI_up c2 bd_1_14 (z_wb rfl).1, z_Fr.upf (R := R_X11_longOf_1) f4 (fun a b h => z_up_k h) (fun b h => z_up_j h) (Or.inr (Or.inr (Or.inr (Or.inr (Or.inr (Or.inr (Or.inr (Or.inl (⟨rfl, by decide⟩))))))))), Or.inr (y_Uu.fr o7 (z_up_k (by decide)) (z_up_k (by decide)) (fun _ => z_up_k (by decide)) (fun _ => z_up_k (by decide)) (fun _ => z_up_k (by decide)) (fun _ => z_up_k (by decide)) (fun _ => z_up_k (by decide)) (fun _ => z_up_k (by decide)) (fun _ => z_up_k (by decide))), Or.inr (Or.inl rfl)⟩
  refine T_if1 (by decide +kernel) ?_
  refine T_let 191 (by decide +kernel) ?_
  refine T_if1 (by decide +kernel) ?_
  refine T_leq (fun x21 e22 => ?_)
  have u23 := CI_b c2 (k := 191) (j := 16) bd_191_16
  refine T_if1 (by decide +kernel) ?_
  refine T_nw ?_ (fun h24 h25 => ?_)
  · exact T_ret ⟨CI_up c2 bd_1_15 (z_wb rfl).1, z_Fr.upf (R := R_X11_longOf_1) f4 (fun a b h => z_up_k h) (fun b h => z_up_j h) (Or.inr (Or.inr (Or.inr (Or.inr (Or.inr (Or.inr (Or.inr (Or.inl (⟨rfl, by decide⟩))))))))), Or.inr (y_Uu.fr o7 (z_up_k (by decide)) (z_up_k (by decide)) (fun _ => z_up_k (by decide)) (fun _ => z_up_k (by decide)) (fun _ => z_up_k (by decide)) (fun _ => z_up_k (by decide)) (fun _ => z_up_k (by decide)) (fun _ => z_up_k (by decide)) (fun _ => z_up_k (by decide))), Or.inr (Or.inr rfl)⟩
  refine T_if1 (by decide +kernel) ?_
  refine T_let 220 (by decide +kernel) ?_
  refine T_if1 (by decide +kernel) ?_
  refine T_useI (sf_X5_lengthOf_220 hfu s1 c2 a1 a2 (by omega) (by omega)) (fun v31 s26 hq => ?_)
  obtain ⟨c27, f28, ⟨x30, rfl, b32, b33⟩⟩ := hq
  refine T_vI ?_
  have f29 := z_Fr.tr (R := R_X11_longOf_1) f4 f28 rs_X5_lengthOf_220__X11_longOf_1
  have t34 : s26 191 16 = s1 191 16 := f28 191 16 (by decide)
  have r35 := y_Uu.fr o7 (f28 191 16 (by decide)) (f28 6 6 (by decide)) (fun b => f28 195 b (nr_X5_lengthOf_220__195 b)) (fun b => f28 197 b (nr_X5_lengthOf_220__197 b)) (fun b => f28 193 b (nr_X5_lengthOf_220__193 b)) (fun b => f28 215 b (nr_X5_lengthOf_220__215 b)) (fun b => f28 8 b (nr_X5_lengthOf_220__8 b)) (fun b => f28 12 b (nr_X5_lengthOf_220__12 b)) (fun b => f28 14 b (nr_X5_lengthOf_220__14 b))
  exact T_ret ⟨c27, f29, (Or.inr r35), Or.inl (⟨x30, rfl, by omega, by omega⟩)⟩
abbrev P_X11_lines_1T (r0 : z_M) : z_V → z_M → Prop := fun v s' => z_CI s' ∧ z_Fr R_X11_lines_1 r0 s' ∧ (y_V16 s') ∧ ((∃ x, v = vI x ∧ -2147483648 ≤ x ∧ x ≤ 2147483647) ∨ v = vX 1)
theorem nr_X1_go_249__193 (b : Int) : ¬ R_X1_go_249 193 b := by
  unfold R_X1_go_249; omega
theorem nr_X1_go_249__215 (b : Int) : ¬ R_X1_go_249 215 b := by
  unfold R_X1_go_249; omega
theorem nr_X1_go_249__8 (b : Int) : ¬ R_X1_go_249 8 b := by
  unfold R_X1_go_249; omega
theorem nr_X1_go_249__12 (b : Int) : ¬ R_X1_go_249 12 b := by
  unfold R_X1_go_249; omega
theorem nr_X1_go_249__14 (b : Int) : ¬ R_X1_go_249 14 b := by
  unfold R_X1_go_249; omega
theorem sf_X11_lines_1T {fu : Nat} (hfu : 8589934592 ≤ fu) (r0 : z_M) (c0 : z_CI r0) (a1 : Int) (a2 : Int) (b1 : -2147483648 ≤ a1 ∧ a1 ≤ 2147483647) (b2 : -2147483648 ≤ a2 ∧ a2 ≤ 2147483647) (p0 : y_V16 r0) : z_T (fX11_lines fu r0 1 a1 a2) (P_X11_lines_1T r0) := by
  refine T_of (fX11_lines.eq_1 ..) ?_
  refine T_pick (by decide) (fun x1 e2 b3 => ?_)
  have b4 : x1 = (12 : Int) := by rw [← e2]; decide +kernel
  refine T_pick (by decide) (fun x5 e6 b7 => ?_)
  have b8 : x5 = (999 : Int) := by rw [← e6]; decide +kernel
  refine T_if1 (by decide +kernel) ?_
  refine T_nw ?_ (fun h9 h10 => ?_)
  · exact T_ret ⟨CI_up c0 bd_1_15 (z_wb rfl).1, z_Fr.upf (R := R_X11_lines_1) z_Fr.rf (fun a b h => z_up_k h) (fun b h => z_up_j h) (Or.inr (Or.inr (Or.inr (Or.inr (Or.inr (Or.inr (Or.inr (Or.inr (Or.inr (Or.inl (⟨rfl, by decide⟩))))))))))), y_V16.fr p0 (z_up_j (by decide)) (z_up_k (by decide)) (z_up_k (by decide)) (fun _ => z_up_k (by decide)) (fun _ => z_up_k (by decide)) (fun _ => z_up_k (by decide)) (fun _ => z_up_k (by decide)) (fun _ => z_up_k (by decide)) (fun _ => z_up_k (by decide)) (fun _ => z_up_k (by decide)), Or.inr rfl⟩
  refine T_if1 (by decide +kernel) ?_
  refine T_nw ?_ (fun h11 h12 => ?_)
  · exact T_ret ⟨CI_up c0 bd_1_15 (z_wb rfl).1, z_Fr.upf (R := R_X11_lines_1) z_Fr.rf (fun a b h => z_up_k h) (fun b h => z_up_j h) (Or.inr (Or.inr (Or.inr (Or.inr (Or.inr (Or.inr (Or.inr (Or.inr (Or.inr (Or.inl (⟨rfl, by decide⟩))))))))))), y_V16.fr p0 (z_up_j (by decide)) (z_up_k (by decide)) (z_up_k (by decide)) (fun _ => z_up_k (by decide)) (fun _ => z_up_k (by decide)) (fun _ => z_up_k (by decide)) (fun _ => z_up_k (by decide)) (fun _ => z_up_k (by decide)) (fun _ => z_up_k (by decide)) (fun _ => z_up_k (by decide)), Or.inr rfl⟩
  refine T_if1 (by decide +kernel) ?_
  refine T_useN (sf_X11_refresh_1T hfu r0 c0 p0) (fun v18 s13 hq => ?_)
  obtain ⟨c14, f15, o19, rfl⟩ := hq
  refine T_vN ?_
  have f16 := z_Fr.tr (R := R_X11_lines_1) z_Fr.rf f15 rs_X11_refresh_1__X11_lines_1
  have t22 : s13 249 6 = r0 249 6 := f15 249 6 (by decide)
  refine T_if1 (by decide +kernel) ?_
  refine T_let 249 (by decide +kernel) ?_
  refine T_if1 (by decide +kernel) ?_
  refine T_useN (sf_X1_go_249 hfu s13 c14 a1 a2 (by omega) (by omega)) (fun v28 s23 hq => ?_)
  obtain ⟨c24, f25, rfl⟩ := hq
  refine T_vN ?_
  have f26 := z_Fr.tr (R := R_X11_lines_1) f16 f25 rs_X1_go_249__X11_lines_1
  have u31 := CI_b c24 (k := 249) (j := 6) bd_249_6
  have r32 := y_Uu.fr o19 (f25 191 16 (by decide)) (f25 6 6 (by decide)) (fun b => f25 195 b (nr_X1_go_249__195 b)) (fun b => f25 197 b (nr_X1_go_249__197 b)) (fun b => f25 193 b (nr_X1_go_249__193 b)) (fun b => f25 215 b (nr_X1_go_249__215 b)) (fun b => f25 8 b (nr_X1_go_249__8 b)) (fun b => f25 12 b (nr_X1_go_249__12 b)) (fun b => f25 14 b (nr_X1_go_249__14 b))
  refine T_if1 (by decide +kernel) ?_
  refine T_let 249 (by decide +kernel) ?_
  refine T_if1 (by decide +kernel) ?_
  refine T_leq (fun x33 e34 => ?_)
  have u35 := CI_b c24 (k := 249) (j := 6) bd_249_6
  exact T_ret ⟨c24, f26, (Or.inr r32), Or.inl (⟨x33, rfl, by omega, by omega⟩)⟩
abbrev P_X11_shortestFor_1T (r0 : z_M) : z_V → z_M → Prop := fun v s' => z_CI s' ∧ z_Fr R_X11_shortestFor_1 r0 s' ∧ (y_V16 s') ∧ (∃ x, v = vI x ∧ -2147483648 ≤ x ∧ x ≤ 2147483647)
theorem nr_X1_fewest_249__193 (b : Int) : ¬ R_X1_fewest_249 193 b := by
  unfold R_X1_fewest_249; omega
theorem nr_X1_fewest_249__215 (b : Int) : ¬ R_X1_fewest_249 215 b := by
  unfold R_X1_fewest_249; omega
theorem nr_X1_fewest_249__8 (b : Int) : ¬ R_X1_fewest_249 8 b := by
  unfold R_X1_fewest_249; omega
theorem nr_X1_fewest_249__12 (b : Int) : ¬ R_X1_fewest_249 12 b := by
  unfold R_X1_fewest_249; omega
theorem nr_X1_fewest_249__14 (b : Int) : ¬ R_X1_fewest_249 14 b := by
  unfold R_X1_fewest_249; omega
theorem sj_X11_shortestFor_1T_J59 {fu : Nat} (hfu : 8589934592 ≤ fu) (r0 s : z_M) (c : z_CI s) (f : z_Fr R_X11_shortestFor_1 r0 s) (a1 : Int) (a2 : Int) (a3 : Int) (a4 : Int) (b1 : -2147483648 ≤ a1 ∧ a1 ≤ 2147483647) (b2 : -2147483648 ≤ a2 ∧ a2 ≤ 2147483647) (b3 : 12 ≤ a3 ∧ a3 ≤ 1000) (b4 : 12 ≤ a4 ∧ a4 ≤ 1000) (p0 : a3 ≤ a4) (p1 : y_V16 s) (M : Int) (pm : a4 - a3 < M) {r : z_M → Int → Int → z_O} {k : z_M → Int → z_O} (hr : ∀ (s' : z_M) (v3 : Int) (v4 : Int), z_CI s' → z_Fr R_X11_shortestFor_1 r0 s' → (12 ≤ v3 ∧ v3 ≤ 1000) → (12 ≤ v4 ∧ v4 ≤ 1000) → (v3 ≤ v4) → (y_V16 s') → (v4 - v3 < M) → z_T (r s' v3 v4) (P_X11_shortestFor_1T r0)) (hk : ∀ (s' : z_M) (v3 : Int), z_CI s' → z_Fr R_X11_shortestFor_1 r0 s' → (12 ≤ v3 ∧ v3 ≤ 1000) → (y_V16 s') → z_T (k s' v3) (P_X11_shortestFor_1T r0)) : z_T (fX11_shortestFor_J59 fu s 1 a1 a2 a3 a4 r k) (P_X11_shortestFor_1T r0) := by
  refine T_of (fX11_shortestFor_J59.eq_1 ..) ?_
  exact hr s a3 a4 c f (by omega) (by omega) (by omega) p1 (by omega)
theorem sl_X11_shortestFor_1T_L19 {fu : Nat} (hfu : 8589934592 ≤ fu) (r0 : z_M) (a1 : Int) (a2 : Int) (b1 : -2147483648 ≤ a1 ∧ a1 ≤ 2147483647) (b2 : -2147483648 ≤ a2 ∧ a2 ≤ 2147483647) {k : z_M → Int → z_O} (hk : ∀ (s' : z_M) (v3 : Int), z_CI s' → z_Fr R_X11_shortestFor_1 r0 s' → (12 ≤ v3 ∧ v3 ≤ 1000) → (y_V16 s') → z_T (k s' v3) (P_X11_shortestFor_1T r0)) : ∀ (F : Nat) (s : z_M) (a3 : Int) (a4 : Int), z_CI s → z_Fr R_X11_shortestFor_1 r0 s → (12 ≤ a3 ∧ a3 ≤ 1000) → (12 ≤ a4 ∧ a4 ≤ 1000) → (a3 ≤ a4) → (y_V16 s) → (a4 - a3 < (F : Int)) → z_T (fX11_shortestFor_L19 fu 1 a1 a2 F s a3 a4 k) (P_X11_shortestFor_1T r0) := by
  intro F
  induction F with
  | zero =>
    intro s a3 a4 c f b3 b4 i0 i1 hm
    exfalso; omega
  | succ F ih =>
    intro s a3 a4 c f b3 b4 i0 i1 hm
    refine T_of (fX11_shortestFor_L19.eq_2 ..) ?_
    refine T_ite (fun h1 => ?_) (fun h1 => ?_)
    · exact hk s a3 c f (by omega) i1
    · refine T_leq (fun x2 e3 => ?_)
      have w4 := z_wb e3
      refine T_if1 (by omega) ?_
      refine T_leq (fun x5 e6 => ?_)
      have w7 := z_wb e6
      have w8 := z_td2 (e := x2)
      refine T_if1 (by decide +kernel) ?_
      refine T_let 249 (by decide +kernel) ?_
      refine T_if1 (by decide +kernel) ?_
      refine T_useI (sf_X1_fewest_249 hfu s c x5 a2 (by omega) (by omega)) (fun v14 s9 hq => ?_)
      obtain ⟨c10, f11, ⟨x13, rfl, b15, b16⟩⟩ := hq
      refine T_vI ?_
      have f12 := z_Fr.tr (R := R_X11_shortestFor_1) f f11 rs_X1_fewest_249__X11_shortestFor_1
      have r17 := y_V16.fr i1 (f11 1 16 (by decide)) (f11 191 16 (by decide)) (f11 6 6 (by decide)) (fun b => f11 195 b (nr_X1_fewest_249__195 b)) (fun b => f11 197 b (nr_X1_fewest_249__197 b)) (fun b => f11 193 b (nr_X1_fewest_249__193 b)) (fun b => f11 215 b (nr_X1_fewest_249__215 b)) (fun b => f11 8 b (nr_X1_fewest_249__8 b)) (fun b => f11 12 b (nr_X1_fewest_249__12 b)) (fun b => f11 14 b (nr_X1_fewest_249__14 b))
      refine T_ite (fun h18 => ?_) (fun h18 => ?_)
      · refine T_leq (fun x19 e20 => ?_)
        have w21 := z_wb e20
        exact sj_X11_shortestFor_1T_J59 hfu r0 s9 c10 f12 a1 a2 x19 a4 (by omega) (by omega) (by omega) (by omega) (by omega) r17 (a4 - a3) (by omega) (fun s' v3 v4 c' f' w3 w4 z0 z1 pg => ih s' v3 v4 c' f' w3 w4 z0 z1 (by omega)) hk
      · exact sj_X11_shortestFor_1T_J59 hfu r0 s9 c10 f12 a1 a2 a3 x5 (by omega) (by omega) (by omega) (by omega) (by omega) r17 (a4 - a3) (by omega) (fun s' v3 v4 c' f' w3 w4 z0 z1 pg => ih s' v3 v4 c' f' w3 w4 z0 z1 (by omega)) hk
theorem sf_X11_shortestFor_1T {fu : Nat} (hfu : 8589934592 ≤ fu) (r0 : z_M) (c0 : z_CI r0) (a1 : Int) (a2 : Int) (b1 : -2147483648 ≤ a1 ∧ a1 ≤ 2147483647) (b2 : -2147483648 ≤ a2 ∧ a2 ≤ 2147483647) (p0 : y_V16 r0) : z_T (fX11_shortestFor fu r0 1 a1 a2) (P_X11_shortestFor_1T r0) := by
  refine T_of (fX11_shortestFor.eq_1 ..) ?_
  refine T_pick (by decide) (fun x1 e2 b3 => ?_)
  have b4 : x1 = (12 : Int) := by rw [← e2]; decide +kernel
  refine T_pick (by decide) (fun x5 e6 b7 => ?_)
  have b8 : x5 = (999 : Int) := by rw [← e6]; decide +kernel
  refine T_leq (fun x9 e10 => ?_)
  have w11 := z_wb e10
  refine sl_X11_shortestFor_1T_L19 hfu r0 a1 a2 (by omega) (by omega) (fun s12 y15 c13 f14 b16 g17 => ?_) fu r0 x1 x9 c0 z_Fr.rf (by omega) (by omega) (by omega) p0 (by omega)
  exact T_ret ⟨c13, f14, g17, ⟨y15, rfl, by omega, by omega⟩⟩
abbrev P_X11_least_1T (r0 : z_M) : z_V → z_M → Prop := fun v s' => z_CI s' ∧ z_Fr R_X11_least_1 r0 s' ∧ (y_V16 s') ∧ ((∃ x, v = vI x ∧ -2147483648 ≤ x ∧ x ≤ 2147483647) ∨ v = vX 1)
theorem nr_X11_shortestFor_1__193 (b : Int) : ¬ R_X11_shortestFor_1 193 b := by
  unfold R_X11_shortestFor_1; omega
theorem nr_X11_shortestFor_1__215 (b : Int) : ¬ R_X11_shortestFor_1 215 b := by
  unfold R_X11_shortestFor_1; omega
theorem nr_X11_shortestFor_1__8 (b : Int) : ¬ R_X11_shortestFor_1 8 b := by
  unfold R_X11_shortestFor_1; omega
theorem nr_X11_shortestFor_1__12 (b : Int) : ¬ R_X11_shortestFor_1 12 b := by
  unfold R_X11_shortestFor_1; omega
theorem nr_X11_shortestFor_1__14 (b : Int) : ¬ R_X11_shortestFor_1 14 b := by
  unfold R_X11_shortestFor_1; omega
theorem sj_X11_least_1T_J80 {fu : Nat} (hfu : 8589934592 ≤ fu) (r0 s : z_M) (c : z_CI s) (f : z_Fr R_X11_least_1 r0 s) (a1 : Int) (a2 : Int) (a3 : Int) (a4 : Int) (b1 : -2147483648 ≤ a1 ∧ a1 ≤ 2147483647) (b2 : -2147483648 ≤ a2 ∧ a2 ≤ 2147483647) (b3 : 999 ≤ a3 ∧ a3 ≤ 999) (b4 : -2147483648 ≤ a4 ∧ a4 ≤ 2147483646) (p0 : y_V16 s) (M : Int) (pm : 2147483647 - a4 ≤ M) {r : z_M → Int → z_O} {k : z_M → z_O} (hr : ∀ (s' : z_M) (v4 : Int), z_CI s' → z_Fr R_X11_least_1 r0 s' → (-2147483648 ≤ v4 ∧ v4 ≤ 2147483647) → (y_V16 s') → (2147483647 - v4 < M) → z_T (r s' v4) (P_X11_least_1T r0)) (hk : ∀ (s' : z_M), z_CI s' → z_Fr R_X11_least_1 r0 s' → (y_V16 s') → z_T (k s') (P_X11_least_1T r0)) : z_T (fX11_least_J80 fu s 1 a1 a2 a3 a4 r k) (P_X11_least_1T r0) := by
  refine T_of (fX11_least_J80.eq_1 ..) ?_
  have u1 := CI_b c (k := 249) (j := 6) bd_249_6
  refine T_leq (fun x2 e3 => ?_)
  have w4 := z_wb e3
  exact hr s x2 c f (by omega) p0 (by omega)
theorem nr_X1_tooLong_249__193 (b : Int) : ¬ R_X1_tooLong_249 193 b := by
  unfold R_X1_tooLong_249; omega
theorem nr_X1_tooLong_249__215 (b : Int) : ¬ R_X1_tooLong_249 215 b := by
  unfold R_X1_tooLong_249; omega
theorem nr_X1_tooLong_249__8 (b : Int) : ¬ R_X1_tooLong_249 8 b := by
  unfold R_X1_tooLong_249; omega
theorem nr_X1_tooLong_249__12 (b : Int) : ¬ R_X1_tooLong_249 12 b := by
  unfold R_X1_tooLong_249; omega
theorem nr_X1_tooLong_249__14 (b : Int) : ¬ R_X1_tooLong_249 14 b := by
  unfold R_X1_tooLong_249; omega
theorem sl_X11_least_1T_L38 {fu : Nat} (hfu : 8589934592 ≤ fu) (r0 : z_M) (a1 : Int) (a2 : Int) (a3 : Int) (b1 : -2147483648 ≤ a1 ∧ a1 ≤ 2147483647) (b2 : -2147483648 ≤ a2 ∧ a2 ≤ 2147483647) (b3 : 999 ≤ a3 ∧ a3 ≤ 999) {k : z_M → z_O} (hk : ∀ (s' : z_M), z_CI s' → z_Fr R_X11_least_1 r0 s' → (y_V16 s') → z_T (k s') (P_X11_least_1T r0)) : ∀ (F : Nat) (s : z_M) (a4 : Int), z_CI s → z_Fr R_X11_least_1 r0 s → (-2147483648 ≤ a4 ∧ a4 ≤ 2147483647) → (y_V16 s) → (2147483647 - a4 < (F : Int)) → z_T (fX11_least_L38 fu 1 a1 a2 a3 F s a4 k) (P_X11_least_1T r0) := by
  intro F
  induction F with
  | zero =>
    intro s a4 c f b4 i0 hm
    have u28 := CI_b c (k := 249) (j := 6) bd_249_6
    exfalso; omega
  | succ F ih =>
    intro s a4 c f b4 i0 hm
    refine T_of (fX11_least_L38.eq_2 ..) ?_
    have u1 := CI_b c (k := 249) (j := 6) bd_249_6
    refine T_ite (fun h2 => ?_) (fun h2 => ?_)
    · exact hk s c f i0
    · refine T_if1 (by decide +kernel) ?_
      refine T_let 249 (by decide +kernel) ?_
      refine T_if1 (by decide +kernel) ?_
      refine T_useN (sf_X1_go_249 hfu s c a4 a2 (by omega) (by omega)) (fun v8 s3 hq => ?_)
      obtain ⟨c4, f5, rfl⟩ := hq
      refine T_vN ?_
      have f6 := z_Fr.tr (R := R_X11_least_1) f f5 rs_X1_go_249__X11_least_1
      have u11 := CI_b c4 (k := 249) (j := 6) bd_249_6
      have r12 := y_V16.fr i0 (f5 1 16 (by decide)) (f5 191 16 (by decide)) (f5 6 6 (by decide)) (fun b => f5 195 b (nr_X1_go_249__195 b)) (fun b => f5 197 b (nr_X1_go_249__197 b)) (fun b => f5 193 b (nr_X1_go_249__193 b)) (fun b => f5 215 b (nr_X1_go_249__215 b)) (fun b => f5 8 b (nr_X1_go_249__8 b)) (fun b => f5 12 b (nr_X1_go_249__12 b)) (fun b => f5 14 b (nr_X1_go_249__14 b))
      refine T_if1 (by decide +kernel) ?_
      refine T_let 249 (by decide +kernel) ?_
      refine T_if1 (by decide +kernel) ?_
      refine T_leq (fun x13 e14 => ?_)
      have u15 := CI_b c4 (k := 249) (j := 6) bd_249_6
      refine T_ite (fun h16 => ?_) (fun h16 => ?_)
      · exact sj_X11_least_1T_J80 hfu r0 s3 c4 f6 a1 a2 a3 a4 (by omega) (by omega) (by omega) (by omega) r12 (2147483647 - a4) (by omega) (fun s' v4 c' f' w4 z0 pg => ih s' v4 c' f' w4 z0 (by omega)) hk
      · refine T_if1 (by decide +kernel) ?_
        refine T_let 249 (by decide +kernel) ?_
        refine T_if1 (by decide +kernel) ?_
        refine T_useI (sf_X1_tooLong_249 hfu s3 c4 a4 (by omega)) (fun v22 s17 hq => ?_)
        obtain ⟨c18, f19, ⟨x21, rfl, b23, b24⟩⟩ := hq
        refine T_vI ?_
        have f20 := z_Fr.tr (R := R_X11_least_1) f6 f19 rs_X1_tooLong_249__X11_least_1
        have t25 : s17 249 6 = s3 249 6 := f19 249 6 (by decide)
        have r26 := y_V16.fr r12 (f19 1 16 (by decide)) (f19 191 16 (by decide)) (f19 6 6 (by decide)) (fun b => f19 195 b (nr_X1_tooLong_249__195 b)) (fun b => f19 197 b (nr_X1_tooLong_249__197 b)) (fun b => f19 193 b (nr_X1_tooLong_249__193 b)) (fun b => f19 215 b (nr_X1_tooLong_249__215 b)) (fun b => f19 8 b (nr_X1_tooLong_249__8 b)) (fun b => f19 12 b (nr_X1_tooLong_249__12 b)) (fun b => f19 14 b (nr_X1_tooLong_249__14 b))
        refine T_ite (fun h27 => ?_) (fun h27 => ?_)
        · exact sj_X11_least_1T_J80 hfu r0 s17 c18 f20 a1 a2 a3 a4 (by omega) (by omega) (by omega) (by omega) r26 (2147483647 - a4) (by omega) (fun s' v4 c' f' w4 z0 pg => ih s' v4 c' f' w4 z0 (by omega)) hk
        · exact T_ret ⟨c18, f20, r26, Or.inl (⟨a4, rfl, by omega, by omega⟩)⟩
theorem sf_X11_least_1T {fu : Nat} (hfu : 8589934592 ≤ fu) (r0 : z_M) (c0 : z_CI r0) (a1 : Int) (b1 : -2147483648 ≤ a1 ∧ a1 ≤ 2147483647) (p0 : y_V16 r0) : z_T (fX11_least fu r0 1 a1) (P_X11_least_1T r0) := by
  refine T_of (fX11_least.eq_1 ..) ?_
  refine T_if1 (by decide +kernel) ?_
  refine T_nw ?_ (fun h1 h2 => ?_)
  · exact T_ret ⟨CI_up c0 bd_1_15 (z_wb rfl).1, z_Fr.upf (R := R_X11_least_1) z_Fr.rf (fun a b h => z_up_k h) (fun b h => z_up_j h) (Or.inr (Or.inr (Or.inr (Or.inr (Or.inr (Or.inr (Or.inr (Or.inr (Or.inl (⟨rfl, by decide⟩)))))))))), y_V16.fr p0 (z_up_j (by decide)) (z_up_k (by decide)) (z_up_k (by decide)) (fun _ => z_up_k (by decide)) (fun _ => z_up_k (by decide)) (fun _ => z_up_k (by decide)) (fun _ => z_up_k (by decide)) (fun _ => z_up_k (by decide)) (fun _ => z_up_k (by decide)) (fun _ => z_up_k (by decide)), Or.inr rfl⟩
  refine T_if1 (by decide +kernel) ?_
  refine T_useN (sf_X11_refresh_1T hfu r0 c0 p0) (fun v8 s3 hq => ?_)
  obtain ⟨c4, f5, o9, rfl⟩ := hq
  refine T_vN ?_
  have f6 := z_Fr.tr (R := R_X11_least_1) z_Fr.rf f5 rs_X11_refresh_1__X11_least_1
  have t12 : s3 249 6 = r0 249 6 := f5 249 6 (by decide)
  refine T_if1 (by decide +kernel) ?_
  refine T_let 2 (by decide +kernel) ?_
  refine T_if1 (by decide +kernel) ?_
  refine T_get (by decide +kernel) (c := 3) (by decide +kernel) bdr_3 (by decide) c4 (fun x13 e14 b15 w16 => ?_)
  have l17 : z_ln 2 = 9 := by decide +kernel
  refine T_pick (by decide) (fun x18 e19 b20 => ?_)
  have b21 : x18 = (999 : Int) := by rw [← e19]; decide +kernel
  refine T_if1 (by decide +kernel) ?_
  refine T_useI (sf_X11_shortestFor_1T hfu s3 c4 a1 x13 (by omega) (by omega) (Or.inr o9)) (fun v27 s22 hq => ?_)
  obtain ⟨c23, f24, o28, ⟨x26, rfl, b29, b30⟩⟩ := hq
  refine T_vI ?_
  have f25 := z_Fr.tr (R := R_X11_least_1) f6 f24 rs_X11_shortestFor_1__X11_least_1
  have t31 : s22 249 6 = s3 249 6 := f24 249 6 (by decide)
  have r32 := y_Uu.fr o9 (f24 191 16 (by decide)) (f24 6 6 (by decide)) (fun b => f24 195 b (nr_X11_shortestFor_1__195 b)) (fun b => f24 197 b (nr_X11_shortestFor_1__197 b)) (fun b => f24 193 b (nr_X11_shortestFor_1__193 b)) (fun b => f24 215 b (nr_X11_shortestFor_1__215 b)) (fun b => f24 8 b (nr_X11_shortestFor_1__8 b)) (fun b => f24 12 b (nr_X11_shortestFor_1__12 b)) (fun b => f24 14 b (nr_X11_shortestFor_1__14 b))
  refine sl_X11_least_1T_L38 hfu r0 a1 x13 x18 (by omega) (by omega) (by omega) (fun s33 c34 f35 g36 => ?_) fu s22 x26 c23 f25 (by omega) o28 (by omega)
  have u37 := CI_b c34 (k := 249) (j := 6) bd_249_6
  exact T_ret ⟨c34, f35, g36, Or.inl (⟨(-1), rfl, by omega, by omega⟩)⟩
abbrev P_X11_better_1T (r0 : z_M) : z_V → z_M → Prop := fun v s' => z_CI s' ∧ z_Fr R_X11_better_1 r0 s' ∧ (y_V16 s') ∧ (∃ x, v = vL x ∧ -9223372036854775808 ≤ x ∧ x ≤ 9223372036854775807)
theorem nr_X1_costs_249__193 (b : Int) : ¬ R_X1_costs_249 193 b := by
  unfold R_X1_costs_249; omega
theorem nr_X1_costs_249__215 (b : Int) : ¬ R_X1_costs_249 215 b := by
  unfold R_X1_costs_249; omega
theorem nr_X1_costs_249__8 (b : Int) : ¬ R_X1_costs_249 8 b := by
  unfold R_X1_costs_249; omega
theorem nr_X1_costs_249__12 (b : Int) : ¬ R_X1_costs_249 12 b := by
  unfold R_X1_costs_249; omega
theorem nr_X1_costs_249__14 (b : Int) : ¬ R_X1_costs_249 14 b := by
  unfold R_X1_costs_249; omega
theorem sf_X11_better_1T {fu : Nat} (hfu : 8589934592 ≤ fu) (r0 : z_M) (c0 : z_CI r0) (p0 : y_V16 r0) : z_T (fX11_better fu r0 1) (P_X11_better_1T r0) := by
  refine T_of (fX11_better.eq_1 ..) ?_
  refine T_if1 (by decide +kernel) ?_
  refine T_useN (sf_X11_refresh_1T hfu r0 c0 p0) (fun v6 s1 hq => ?_)
  obtain ⟨c2, f3, o7, rfl⟩ := hq
  refine T_vN ?_
  have f4 := z_Fr.tr (R := R_X11_better_1) z_Fr.rf f3 rs_X11_refresh_1__X11_better_1
  refine T_if1 (by decide +kernel) ?_
  refine T_let 2 (by decide +kernel) ?_
  refine T_if1 (by decide +kernel) ?_
  refine T_get (by decide +kernel) (c := 3) (by decide +kernel) bdr_3 (by decide) c2 (fun x10 e11 b12 w13 => ?_)
  have l14 : z_ln 2 = 9 := by decide +kernel
  refine T_if1 (by decide +kernel) ?_
  refine T_let 249 (by decide +kernel) ?_
  refine T_if1 (by decide +kernel) ?_
  refine T_useN (sf_X1_go_249 hfu s1 c2 x10 0 (by omega) (by omega)) (fun v20 s15 hq => ?_)
  obtain ⟨c16, f17, rfl⟩ := hq
  refine T_vN ?_
  have f18 := z_Fr.tr (R := R_X11_better_1) f4 f17 rs_X1_go_249__X11_better_1
  have r23 := y_Uu.fr o7 (f17 191 16 (by decide)) (f17 6 6 (by decide)) (fun b => f17 195 b (nr_X1_go_249__195 b)) (fun b => f17 197 b (nr_X1_go_249__197 b)) (fun b => f17 193 b (nr_X1_go_249__193 b)) (fun b => f17 215 b (nr_X1_go_249__215 b)) (fun b => f17 8 b (nr_X1_go_249__8 b)) (fun b => f17 12 b (nr_X1_go_249__12 b)) (fun b => f17 14 b (nr_X1_go_249__14 b))
  refine T_if1 (by decide +kernel) ?_
  refine T_let 249 (by decide +kernel) ?_
  refine T_if1 (by decide +kernel) ?_
  refine T_useL (sf_X1_costs_249 hfu s15 c16 x10 (by omega)) (fun v29 s24 hq => ?_)
  obtain ⟨c25, f26, ⟨x28, rfl, b30, b31⟩⟩ := hq
  refine T_vL ?_
  have f27 := z_Fr.tr (R := R_X11_better_1) f18 f26 rs_X1_costs_249__X11_better_1
  have r32 := y_Uu.fr r23 (f26 191 16 (by decide)) (f26 6 6 (by decide)) (fun b => f26 195 b (nr_X1_costs_249__195 b)) (fun b => f26 197 b (nr_X1_costs_249__197 b)) (fun b => f26 193 b (nr_X1_costs_249__193 b)) (fun b => f26 215 b (nr_X1_costs_249__215 b)) (fun b => f26 8 b (nr_X1_costs_249__8 b)) (fun b => f26 12 b (nr_X1_costs_249__12 b)) (fun b => f26 14 b (nr_X1_costs_249__14 b))
  refine T_if1 (by decide +kernel) ?_
  refine T_let 249 (by decide +kernel) ?_
  refine T_if1 (by decide +kernel) ?_
  refine T_useN (sf_X1_go_249 hfu s24 c25 x10 1 (by omega) (by omega)) (fun v38 s33 hq => ?_)
  obtain ⟨c34, f35, rfl⟩ := hq
  refine T_vN ?_
  have f36 := z_Fr.tr (R := R_X11_better_1) f27 f35 rs_X1_go_249__X11_better_1
  have r41 := y_Uu.fr r32 (f35 191 16 (by decide)) (f35 6 6 (by decide)) (fun b => f35 195 b (nr_X1_go_249__195 b)) (fun b => f35 197 b (nr_X1_go_249__197 b)) (fun b => f35 193 b (nr_X1_go_249__193 b)) (fun b => f35 215 b (nr_X1_go_249__215 b)) (fun b => f35 8 b (nr_X1_go_249__8 b)) (fun b => f35 12 b (nr_X1_go_249__12 b)) (fun b => f35 14 b (nr_X1_go_249__14 b))
  refine T_if1 (by decide +kernel) ?_
  refine T_let 249 (by decide +kernel) ?_
  refine T_if1 (by decide +kernel) ?_
  refine T_useL (sf_X1_costs_249 hfu s33 c34 x10 (by omega)) (fun v47 s42 hq => ?_)
  obtain ⟨c43, f44, ⟨x46, rfl, b48, b49⟩⟩ := hq
  refine T_vL ?_
  have f45 := z_Fr.tr (R := R_X11_better_1) f36 f44 rs_X1_costs_249__X11_better_1
  have r50 := y_Uu.fr r41 (f44 191 16 (by decide)) (f44 6 6 (by decide)) (fun b => f44 195 b (nr_X1_costs_249__195 b)) (fun b => f44 197 b (nr_X1_costs_249__197 b)) (fun b => f44 193 b (nr_X1_costs_249__193 b)) (fun b => f44 215 b (nr_X1_costs_249__215 b)) (fun b => f44 8 b (nr_X1_costs_249__8 b)) (fun b => f44 12 b (nr_X1_costs_249__12 b)) (fun b => f44 14 b (nr_X1_costs_249__14 b))
  refine T_leq (fun x51 e52 => ?_)
  have w53 := z_wlr e52
  exact T_ret ⟨c43, f45, (Or.inr r50), ⟨x51, rfl, by omega, by omega⟩⟩
abbrev P_X11_marks_1T (r0 : z_M) : z_V → z_M → Prop := fun v s' => z_CI s' ∧ z_Fr R_X11_marks_1 r0 s' ∧ (y_V16 s') ∧ ((∃ x, v = vI x ∧ -2147483648 ≤ x ∧ x ≤ 2147483647) ∨ v = vX 1)
theorem nr_X10_marksOf_191__193 (b : Int) : ¬ R_X10_marksOf_191 193 b := not_false
theorem nr_X10_marksOf_191__215 (b : Int) : ¬ R_X10_marksOf_191 215 b := not_false
theorem nr_X10_marksOf_191__8 (b : Int) : ¬ R_X10_marksOf_191 8 b := not_false
theorem nr_X10_marksOf_191__12 (b : Int) : ¬ R_X10_marksOf_191 12 b := not_false
theorem nr_X10_marksOf_191__14 (b : Int) : ¬ R_X10_marksOf_191 14 b := not_false
theorem sf_X11_marks_1T {fu : Nat} (hfu : 8589934592 ≤ fu) (r0 : z_M) (c0 : z_CI r0) (a1 : Int) (b1 : -2147483648 ≤ a1 ∧ a1 ≤ 2147483647) (p0 : y_V16 r0) : z_T (fX11_marks fu r0 1 a1) (P_X11_marks_1T r0) := by
  refine T_of (fX11_marks.eq_1 ..) ?_
  refine T_if1 (by decide +kernel) ?_
  refine T_nw ?_ (fun h1 h2 => ?_)
  · exact T_ret ⟨CI_up c0 bd_1_15 (z_wb rfl).1, z_Fr.upf (R := R_X11_marks_1) z_Fr.rf (fun a b h => z_up_k h) (fun b h => z_up_j h) (Or.inr (Or.inr (Or.inr (Or.inr (Or.inr (Or.inr (Or.inr (Or.inl (⟨rfl, by decide⟩))))))))), y_V16.fr p0 (z_up_j (by decide)) (z_up_k (by decide)) (z_up_k (by decide)) (fun _ => z_up_k (by decide)) (fun _ => z_up_k (by decide)) (fun _ => z_up_k (by decide)) (fun _ => z_up_k (by decide)) (fun _ => z_up_k (by decide)) (fun _ => z_up_k (by decide)) (fun _ => z_up_k (by decide)), Or.inr rfl⟩
  refine T_if1 (by decide +kernel) ?_
  refine T_useN (sf_X11_refresh_1T hfu r0 c0 p0) (fun v8 s3 hq => ?_)
  obtain ⟨c4, f5, o9, rfl⟩ := hq
  refine T_vN ?_
  have f6 := z_Fr.tr (R := R_X11_marks_1) z_Fr.rf f5 rs_X11_refresh_1__X11_marks_1
  have t12 : s3 6 6 = r0 6 6 := f5 6 6 (by decide)
  refine T_if1 (by decide +kernel) ?_
  refine T_let 191 (by decide +kernel) ?_
  refine T_if1 (by decide +kernel) ?_
  refine T_let 6 (by decide +kernel) ?_
  refine T_if1 (by decide +kernel) ?_
  refine T_leq (fun x13 e14 => ?_)
  have u15 := CI_b c4 (k := 6) (j := 6) bd_6_6
  refine T_leq (fun x16 e17 => ?_)
  have w18 := z_wb e17
  refine T_if1 (by decide +kernel) ?_
  refine T_useI (sf_X10_marksOf_191 hfu s3 c4 0 x16 a1 (by omega) (by omega) (by omega)) (fun v24 s19 hq => ?_)
  obtain ⟨c20, f21, ⟨x23, rfl, b25, b26⟩⟩ := hq
  refine T_vI ?_
  have f22 := z_Fr.tr (R := R_X11_marks_1) f6 f21 (fun a b h => absurd h not_false)
  have t27 : s19 6 6 = s3 6 6 := f21 6 6 (by decide)
  have r28 := y_Uu.fr o9 (f21 191 16 (by decide)) (f21 6 6 (by decide)) (fun b => f21 195 b (nr_X10_marksOf_191__195 b)) (fun b => f21 197 b (nr_X10_marksOf_191__197 b)) (fun b => f21 193 b (nr_X10_marksOf_191__193 b)) (fun b => f21 215 b (nr_X10_marksOf_191__215 b)) (fun b => f21 8 b (nr_X10_marksOf_191__8 b)) (fun b => f21 12 b (nr_X10_marksOf_191__12 b)) (fun b => f21 14 b (nr_X10_marksOf_191__14 b))
  exact T_ret ⟨c20, f22, (Or.inr r28), Or.inl (⟨x23, rfl, by omega, by omega⟩)⟩
abbrev P_X11_moves_1T (r0 : z_M) : z_V → z_M → Prop := fun v s' => z_CI s' ∧ z_Fr R_X11_moves_1 r0 s' ∧ (y_V16 s') ∧ (∃ x, v = vI x ∧ -2147483648 ≤ x ∧ x ≤ 2147483647)
theorem nr_X1_movedFrom_249_259__193 (b : Int) : ¬ R_X1_movedFrom_249_259 193 b := not_false
theorem nr_X1_movedFrom_249_259__215 (b : Int) : ¬ R_X1_movedFrom_249_259 215 b := not_false
theorem nr_X1_movedFrom_249_259__8 (b : Int) : ¬ R_X1_movedFrom_249_259 8 b := not_false
theorem nr_X1_movedFrom_249_259__12 (b : Int) : ¬ R_X1_movedFrom_249_259 12 b := not_false
theorem nr_X1_movedFrom_249_259__14 (b : Int) : ¬ R_X1_movedFrom_249_259 14 b := not_false
theorem sf_X11_moves_1T {fu : Nat} (hfu : 8589934592 ≤ fu) (r0 : z_M) (c0 : z_CI r0) (p0 : y_V16 r0) : z_T (fX11_moves fu r0 1) (P_X11_moves_1T r0) := by
  refine T_of (fX11_moves.eq_1 ..) ?_
  refine T_if1 (by decide +kernel) ?_
  refine T_useN (sf_X11_refresh_1T hfu r0 c0 p0) (fun v6 s1 hq => ?_)
  obtain ⟨c2, f3, o7, rfl⟩ := hq
  refine T_vN ?_
  have f4 := z_Fr.tr (R := R_X11_moves_1) z_Fr.rf f3 rs_X11_refresh_1__X11_moves_1
  refine T_if1 (by decide +kernel) ?_
  refine T_let 2 (by decide +kernel) ?_
  refine T_if1 (by decide +kernel) ?_
  refine T_let 2 (by decide +kernel) ?_
  refine T_if1 (by decide +kernel) ?_
  refine T_get (by decide +kernel) (c := 3) (by decide +kernel) bdr_3 (by decide) c2 (fun x10 e11 b12 w13 => ?_)
  have l14 : z_ln 2 = 9 := by decide +kernel
  refine T_leq (fun x15 e16 => ?_)
  have w17 := z_wb e16
  refine T_if1 (by decide +kernel) ?_
  refine T_put (by decide +kernel) (c := 3) (by decide +kernel) bdr_3 (by omega) c2 (fun s18 e21 c19 g22 => ?_)
  have f20 := z_Fr.up (R := R_X11_moves_1) f4 g22 (fun _ => (Or.inl (⟨by decide, by decide⟩)))
  have r23 := y_Uu.fr o7 (g22 191 16 (by decide)) (g22 6 6 (by decide)) (fun b => g22 195 b (by decide)) (fun b => g22 197 b (by decide)) (fun b => g22 193 b (by decide)) (fun b => g22 215 b (by decide)) (fun b => g22 8 b (by decide)) (fun b => g22 12 b (by decide)) (fun b => g22 14 b (by decide))
  refine T_if1 (by decide +kernel) ?_
  refine T_let 191 (by decide +kernel) ?_
  refine T_if1 (by decide +kernel) ?_
  refine T_useN (sf_X10_build_191T hfu s18 c19) (fun v29 s24 hq => ?_)
  obtain ⟨c25, f26, o30, rfl⟩ := hq
  refine T_vN ?_
  have f27 := z_Fr.tr (R := R_X11_moves_1) f20 f26 rs_X10_build_191__X11_moves_1
  refine T_if1 (by decide +kernel) ?_
  refine T_let 220 (by decide +kernel) ?_
  refine T_if1 (by decide +kernel) ?_
  refine T_useN (sf_X5_forget_220 hfu s24 c25) (fun v38 s33 hq => ?_)
  obtain ⟨c34, f35, rfl⟩ := hq
  refine T_vN ?_
  have f36 := z_Fr.tr (R := R_X11_moves_1) f27 f35 rs_X5_forget_220__X11_moves_1
  have r41 := y_Uu.fr o30 (f35 191 16 (by decide)) (f35 6 6 (by decide)) (fun b => f35 195 b (nr_X5_forget_220__195 b)) (fun b => f35 197 b (nr_X5_forget_220__197 b)) (fun b => f35 193 b (nr_X5_forget_220__193 b)) (fun b => f35 215 b (nr_X5_forget_220__215 b)) (fun b => f35 8 b (nr_X5_forget_220__8 b)) (fun b => f35 12 b (nr_X5_forget_220__12 b)) (fun b => f35 14 b (nr_X5_forget_220__14 b))
  refine T_if1 (by decide +kernel) ?_
  refine T_let 249 (by decide +kernel) ?_
  refine T_if1 (by decide +kernel) ?_
  refine T_let 2 (by decide +kernel) ?_
  refine T_if1 (by decide +kernel) ?_
  refine T_get (by decide +kernel) (c := 3) (by decide +kernel) bdr_3 (by decide) c34 (fun x42 e43 b44 w45 => ?_)
  have l46 : z_ln 2 = 9 := by decide +kernel
  refine T_if1 (by decide +kernel) ?_
  refine T_let 2 (by decide +kernel) ?_
  refine T_if1 (by decide +kernel) ?_
  refine T_get (by decide +kernel) (c := 3) (by decide +kernel) bdr_3 (by decide) c34 (fun x47 e48 b49 w50 => ?_)
  have l51 : z_ln 2 = 9 := by decide +kernel
  refine T_if1 (by decide +kernel) ?_
  refine T_useN (sf_X1_go_249 hfu s33 c34 x42 x47 (by omega) (by omega)) (fun v57 s52 hq => ?_)
  obtain ⟨c53, f54, rfl⟩ := hq
  refine T_vN ?_
  have f55 := z_Fr.tr (R := R_X11_moves_1) f36 f54 rs_X1_go_249__X11_moves_1
  have r60 := y_Uu.fr r41 (f54 191 16 (by decide)) (f54 6 6 (by decide)) (fun b => f54 195 b (nr_X1_go_249__195 b)) (fun b => f54 197 b (nr_X1_go_249__197 b)) (fun b => f54 193 b (nr_X1_go_249__193 b)) (fun b => f54 215 b (nr_X1_go_249__215 b)) (fun b => f54 8 b (nr_X1_go_249__8 b)) (fun b => f54 12 b (nr_X1_go_249__12 b)) (fun b => f54 14 b (nr_X1_go_249__14 b))
  refine T_if1 (by decide +kernel) ?_
  refine T_let 249 (by decide +kernel) ?_
  refine T_if1 (by decide +kernel) ?_
  refine T_let 258 (by decide +kernel) ?_
  refine T_if1 (by decide +kernel) ?_
  refine T_let 259 (by decide +kernel) ?_
  refine T_if1 (by decide +kernel) ?_
  refine T_useI (sf_X1_movedFrom_249_259 hfu s52 c53) (fun v66 s61 hq => ?_)
  obtain ⟨c62, f63, ⟨x65, rfl, b67, b68⟩⟩ := hq
  refine T_vI ?_
  have f64 := z_Fr.tr (R := R_X11_moves_1) f55 f63 (fun a b h => absurd h not_false)
  have r69 := y_Uu.fr r60 (f63 191 16 (by decide)) (f63 6 6 (by decide)) (fun b => f63 195 b (nr_X1_movedFrom_249_259__195 b)) (fun b => f63 197 b (nr_X1_movedFrom_249_259__197 b)) (fun b => f63 193 b (nr_X1_movedFrom_249_259__193 b)) (fun b => f63 215 b (nr_X1_movedFrom_249_259__215 b)) (fun b => f63 8 b (nr_X1_movedFrom_249_259__8 b)) (fun b => f63 12 b (nr_X1_movedFrom_249_259__12 b)) (fun b => f63 14 b (nr_X1_movedFrom_249_259__14 b))
  refine T_if1 (by decide +kernel) ?_
  refine T_let 2 (by decide +kernel) ?_
  refine T_if1 (by decide +kernel) ?_
  refine T_let 2 (by decide +kernel) ?_
  refine T_if1 (by decide +kernel) ?_
  refine T_get (by decide +kernel) (c := 3) (by decide +kernel) bdr_3 (by decide) c62 (fun x70 e71 b72 w73 => ?_)
  have l74 : z_ln 2 = 9 := by decide +kernel
  refine T_leq (fun x75 e76 => ?_)
  have w77 := z_wb e76
  refine T_if1 (by decide +kernel) ?_
  refine T_put (by decide +kernel) (c := 3) (by decide +kernel) bdr_3 (by omega) c62 (fun s78 e81 c79 g82 => ?_)
  have f80 := z_Fr.up (R := R_X11_moves_1) f64 g82 (fun _ => (Or.inl (⟨by decide, by decide⟩)))
  have r83 := y_Uu.fr r69 (g82 191 16 (by decide)) (g82 6 6 (by decide)) (fun b => g82 195 b (by decide)) (fun b => g82 197 b (by decide)) (fun b => g82 193 b (by decide)) (fun b => g82 215 b (by decide)) (fun b => g82 8 b (by decide)) (fun b => g82 12 b (by decide)) (fun b => g82 14 b (by decide))
  refine T_if1 ⟨(by decide +kernel), by unfold z_bl; omega⟩ ?_
  refine T_upg c79 bd_1_16 (by omega) (fun s84 c85 g87 g88 e89 => ?_)
  have f86 := z_Fr.upf (R := R_X11_moves_1) f80 g87 g88 (Or.inr (Or.inr (Or.inr (Or.inr (Or.inr (Or.inr (Or.inr (Or.inr (Or.inr (Or.inr (Or.inl (⟨rfl, by decide⟩))))))))))))
  have r90 := y_Uu.fr r83 (g87 191 16 (by decide)) (g87 6 6 (by decide)) (fun b => g87 195 b (by decide)) (fun b => g87 197 b (by decide)) (fun b => g87 193 b (by decide)) (fun b => g87 215 b (by decide)) (fun b => g87 8 b (by decide)) (fun b => g87 12 b (by decide)) (fun b => g87 14 b (by decide))
  exact T_ret ⟨c85, f86, (Or.inr r90), ⟨x65, rfl, by omega, by omega⟩⟩
abbrev P_X11_lend_1T (r0 : z_M) : z_V → z_M → Prop := fun v s' => z_CI s' ∧ z_Fr R_X11_lend_1 r0 s' ∧ (y_V16 s') ∧ ((∃ x, v = vI x ∧ -2147483648 ≤ x ∧ x ≤ 2147483647) ∨ v = vX 1)
theorem nr_X5_longWith_220__193 (b : Int) : ¬ R_X5_longWith_220 193 b := by
  unfold R_X5_longWith_220; omega
theorem nr_X5_longWith_220__215 (b : Int) : ¬ R_X5_longWith_220 215 b := by
  unfold R_X5_longWith_220; omega
theorem nr_X5_longWith_220__8 (b : Int) : ¬ R_X5_longWith_220 8 b := by
  unfold R_X5_longWith_220; omega
theorem nr_X5_longWith_220__12 (b : Int) : ¬ R_X5_longWith_220 12 b := by
  unfold R_X5_longWith_220; omega
theorem nr_X5_longWith_220__14 (b : Int) : ¬ R_X5_longWith_220 14 b := by
  unfold R_X5_longWith_220; omega
theorem sj_X11_lend_1T_J88 {fu : Nat} (hfu : 8589934592 ≤ fu) (r0 s : z_M) (c : z_CI s) (f : z_Fr R_X11_lend_1 r0 s) (a1 : Int) (a2 : Int) (a3 : Int) (a4 : Int) (b1 : -2147483648 ≤ a1 ∧ a1 ≤ 2147483647) (b2 : -2147483648 ≤ a2 ∧ a2 ≤ 2147483647) (b3 : -2147483648 ≤ a3 ∧ a3 ≤ 2147483647) (b4 : -2147483648 ≤ a4 ∧ a4 ≤ 2147483646) (p0 : y_V16 s) (M : Int) (pm : 2147483647 - a4 ≤ M) {r : z_M → Int → Int → Int → z_O} {k : z_M → Int → Int → z_O} (hr : ∀ (s' : z_M) (v2 : Int) (v3 : Int) (v4 : Int), z_CI s' → z_Fr R_X11_lend_1 r0 s' → (-2147483648 ≤ v2 ∧ v2 ≤ 2147483647) → (-2147483648 ≤ v3 ∧ v3 ≤ 2147483647) → (-2147483648 ≤ v4 ∧ v4 ≤ 2147483647) → (y_V16 s') → (2147483647 - v4 < M) → z_T (r s' v2 v3 v4) (P_X11_lend_1T r0)) (hk : ∀ (s' : z_M) (v2 : Int) (v3 : Int), z_CI s' → z_Fr R_X11_lend_1 r0 s' → (-2147483648 ≤ v2 ∧ v2 ≤ 2147483647) → (-2147483648 ≤ v3 ∧ v3 ≤ 2147483647) → (y_V16 s') → z_T (k s' v2 v3) (P_X11_lend_1T r0)) : z_T (fX11_lend_J88 fu s 1 a1 a2 a3 a4 r k) (P_X11_lend_1T r0) := by
  refine T_of (fX11_lend_J88.eq_1 ..) ?_
  have u1 := CI_b c (k := 191) (j := 16) bd_191_16
  refine T_leq (fun x2 e3 => ?_)
  have w4 := z_wb e3
  exact hr s a2 a3 x2 c f (by omega) (by omega) (by omega) p0 (by omega)
theorem sl_X11_lend_1T_L43 {fu : Nat} (hfu : 8589934592 ≤ fu) (r0 : z_M) (a1 : Int) (b1 : -2147483648 ≤ a1 ∧ a1 ≤ 2147483647) {k : z_M → Int → Int → z_O} (hk : ∀ (s' : z_M) (v2 : Int) (v3 : Int), z_CI s' → z_Fr R_X11_lend_1 r0 s' → (-2147483648 ≤ v2 ∧ v2 ≤ 2147483647) → (-2147483648 ≤ v3 ∧ v3 ≤ 2147483647) → (y_V16 s') → z_T (k s' v2 v3) (P_X11_lend_1T r0)) : ∀ (F : Nat) (s : z_M) (a2 : Int) (a3 : Int) (a4 : Int), z_CI s → z_Fr R_X11_lend_1 r0 s → (-2147483648 ≤ a2 ∧ a2 ≤ 2147483647) → (-2147483648 ≤ a3 ∧ a3 ≤ 2147483647) → (-2147483648 ≤ a4 ∧ a4 ≤ 2147483647) → (y_V16 s) → (2147483647 - a4 < (F : Int)) → z_T (fX11_lend_L43 fu 1 a1 F s a2 a3 a4 k) (P_X11_lend_1T r0) := by
  intro F
  induction F with
  | zero =>
    intro s a2 a3 a4 c f b2 b3 b4 i0 hm
    have u24 := CI_b c (k := 191) (j := 16) bd_191_16
    exfalso; omega
  | succ F ih =>
    intro s a2 a3 a4 c f b2 b3 b4 i0 hm
    refine T_of (fX11_lend_L43.eq_2 ..) ?_
    have u1 := CI_b c (k := 191) (j := 16) bd_191_16
    refine T_pick (by decide) (fun x2 e3 b4 => ?_)
    have b5 : x2 = (6 : Int) := by rw [← e3]; decide +kernel
    refine T_ite (fun h6 => ?_) (fun h6 => ?_)
    · exact hk s a2 a3 c f (by omega) (by omega) i0
    · refine T_if1 (by decide +kernel) ?_
      refine T_let 220 (by decide +kernel) ?_
      refine T_if1 (by decide +kernel) ?_
      refine T_let 191 (by decide +kernel) ?_
      refine T_if1 (by decide +kernel) ?_
      refine T_leq (fun x7 e8 => ?_)
      have u9 := CI_b c (k := 191) (j := 16) bd_191_16
      refine T_leq (fun x10 e11 => ?_)
      have w12 := z_wb e11
      refine T_if1 (by decide +kernel) ?_
      refine T_useI (sf_X5_longWith_220 hfu s c 0 x10 a4 (by omega) (by omega) (by omega)) (fun v18 s13 hq => ?_)
      obtain ⟨c14, f15, ⟨x17, rfl, b19, b20⟩⟩ := hq
      refine T_vI ?_
      have f16 := z_Fr.tr (R := R_X11_lend_1) f f15 rs_X5_longWith_220__X11_lend_1
      have t21 : s13 191 16 = s 191 16 := f15 191 16 (by decide)
      have r22 := y_V16.fr i0 (f15 1 16 (by decide)) (f15 191 16 (by decide)) (f15 6 6 (by decide)) (fun b => f15 195 b (nr_X5_longWith_220__195 b)) (fun b => f15 197 b (nr_X5_longWith_220__197 b)) (fun b => f15 193 b (nr_X5_longWith_220__193 b)) (fun b => f15 215 b (nr_X5_longWith_220__215 b)) (fun b => f15 8 b (nr_X5_longWith_220__8 b)) (fun b => f15 12 b (nr_X5_longWith_220__12 b)) (fun b => f15 14 b (nr_X5_longWith_220__14 b))
      refine T_ite (fun h23 => ?_) (fun h23 => ?_)
      · exact sj_X11_lend_1T_J88 hfu r0 s13 c14 f16 a1 a2 a3 a4 (by omega) (by omega) (by omega) (by omega) r22 (2147483647 - a4) (by omega) (fun s' v2 v3 v4 c' f' w2 w3 w4 z0 pg => ih s' v2 v3 v4 c' f' w2 w3 w4 z0 (by omega)) hk
      · exact sj_X11_lend_1T_J88 hfu r0 s13 c14 f16 a1 a4 x17 a4 (by omega) (by omega) (by omega) (by omega) r22 (2147483647 - a4) (by omega) (fun s' v2 v3 v4 c' f' w2 w3 w4 z0 pg => ih s' v2 v3 v4 c' f' w2 w3 w4 z0 (by omega)) hk
theorem sj_X11_lend_1T_J103 {fu : Nat} (hfu : 8589934592 ≤ fu) (r0 s : z_M) (c : z_CI s) (f : z_Fr R_X11_lend_1 r0 s) (t0 : Int) (d0 : -2147483648 ≤ t0 ∧ t0 ≤ 2147483647) (p0 : y_V16 s) : z_T (fX11_lend_J103 fu s t0) (P_X11_lend_1T r0) := by
  refine T_of (fX11_lend_J103.eq_1 ..) ?_
  have u1 := CI_b c (k := 191) (j := 16) bd_191_16
  exact T_ret ⟨c, f, p0, Or.inl (⟨t0, rfl, by omega, by omega⟩)⟩
theorem sf_X11_lend_1T {fu : Nat} (hfu : 8589934592 ≤ fu) (r0 : z_M) (c0 : z_CI r0) (a1 : Int) (b1 : -2147483648 ≤ a1 ∧ a1 ≤ 2147483647) (p0 : y_V16 r0) : z_T (fX11_lend fu r0 1 a1) (P_X11_lend_1T r0) := by
  refine T_of (fX11_lend.eq_1 ..) ?_
  refine T_if1 (by decide +kernel) ?_
  refine T_nw ?_ (fun h1 h2 => ?_)
  · exact T_ret ⟨CI_up c0 bd_1_15 (z_wb rfl).1, z_Fr.upf (R := R_X11_lend_1) z_Fr.rf (fun a b h => z_up_k h) (fun b h => z_up_j h) (Or.inr (Or.inr (Or.inr (Or.inr (Or.inr (Or.inr (Or.inr (Or.inl (⟨rfl, by decide⟩))))))))), y_V16.fr p0 (z_up_j (by decide)) (z_up_k (by decide)) (z_up_k (by decide)) (fun _ => z_up_k (by decide)) (fun _ => z_up_k (by decide)) (fun _ => z_up_k (by decide)) (fun _ => z_up_k (by decide)) (fun _ => z_up_k (by decide)) (fun _ => z_up_k (by decide)) (fun _ => z_up_k (by decide)), Or.inr rfl⟩
  refine T_if1 (by decide +kernel) ?_
  refine T_useN (sf_X11_refresh_1T hfu r0 c0 p0) (fun v8 s3 hq => ?_)
  obtain ⟨c4, f5, o9, rfl⟩ := hq
  refine T_vN ?_
  have f6 := z_Fr.tr (R := R_X11_lend_1) z_Fr.rf f5 rs_X11_refresh_1__X11_lend_1
  have u12 := CI_b c4 (k := 191) (j := 16) bd_191_16
  refine T_pick (by decide) (fun x13 e14 b15 => ?_)
  have b16 : x13 = (0 : Int) := by rw [← e14]; decide +kernel
  refine T_if1 (by decide +kernel) ?_
  refine T_let 220 (by decide +kernel) ?_
  refine T_if1 (by decide +kernel) ?_
  refine T_let 191 (by decide +kernel) ?_
  refine T_if1 (by decide +kernel) ?_
  refine T_leq (fun x17 e18 => ?_)
  have u19 := CI_b c4 (k := 191) (j := 16) bd_191_16
  refine T_leq (fun x20 e21 => ?_)
  have w22 := z_wb e21
  refine T_if1 (by decide +kernel) ?_
  refine T_useI (sf_X5_longWith_220 hfu s3 c4 0 x20 x13 (by omega) (by omega) (by omega)) (fun v28 s23 hq => ?_)
  obtain ⟨c24, f25, ⟨x27, rfl, b29, b30⟩⟩ := hq
  refine T_vI ?_
  have f26 := z_Fr.tr (R := R_X11_lend_1) f6 f25 rs_X5_longWith_220__X11_lend_1
  have t31 : s23 191 16 = s3 191 16 := f25 191 16 (by decide)
  have r32 := y_Uu.fr o9 (f25 191 16 (by decide)) (f25 6 6 (by decide)) (fun b => f25 195 b (nr_X5_longWith_220__195 b)) (fun b => f25 197 b (nr_X5_longWith_220__197 b)) (fun b => f25 193 b (nr_X5_longWith_220__193 b)) (fun b => f25 215 b (nr_X5_longWith_220__215 b)) (fun b => f25 8 b (nr_X5_longWith_220__8 b)) (fun b => f25 12 b (nr_X5_longWith_220__12 b)) (fun b => f25 14 b (nr_X5_longWith_220__14 b))
  refine T_leq (fun x33 e34 => ?_)
  have w35 := z_wb e34
  refine sl_X11_lend_1T_L43 hfu r0 a1 (by omega) (fun s36 y39 y40 c37 f38 b41 b42 g43 => ?_) fu s23 x13 x27 x33 c24 f26 (by omega) (by omega) (by omega) (Or.inr r32) (by omega)
  have u44 := CI_b c37 (k := 191) (j := 16) bd_191_16
  refine T_ite (fun h45 => ?_) (fun h45 => ?_)
  · exact sj_X11_lend_1T_J103 hfu r0 s36 c37 f38 y40 (by omega) g43
  · exact sj_X11_lend_1T_J103 hfu r0 s36 c37 f38 y39 (by omega) g43
abbrev P_X11_nearest_1T (r0 : z_M) : z_V → z_M → Prop := fun v s' => z_CI s' ∧ z_Fr R_X11_nearest_1 r0 s' ∧ (y_V16 s') ∧ ((∃ x, v = vI x ∧ -2147483648 ≤ x ∧ x ≤ 2147483647) ∨ v = vX 1)
theorem nr_X3_nearestOn_258__193 (b : Int) : ¬ R_X3_nearestOn_258 193 b := not_false
theorem nr_X3_nearestOn_258__215 (b : Int) : ¬ R_X3_nearestOn_258 215 b := not_false
theorem nr_X3_nearestOn_258__8 (b : Int) : ¬ R_X3_nearestOn_258 8 b := not_false
theorem nr_X3_nearestOn_258__12 (b : Int) : ¬ R_X3_nearestOn_258 12 b := not_false
theorem nr_X3_nearestOn_258__14 (b : Int) : ¬ R_X3_nearestOn_258 14 b := not_false
theorem sj_X11_nearest_1T_J69 {fu : Nat} (hfu : 8589934592 ≤ fu) (r0 s : z_M) (c : z_CI s) (f : z_Fr R_X11_nearest_1 r0 s) (a1 : Int) (a2 : Int) (a3 : Int) (a4 : Int) (b1 : -2147483648 ≤ a1 ∧ a1 ≤ 2147483647) (b2 : -2147483648 ≤ a2 ∧ a2 ≤ 2147483647) (b3 : -2147483648 ≤ a3 ∧ a3 ≤ 2147483647) (b4 : -2147483648 ≤ a4 ∧ a4 ≤ 2147483646) (p0 : y_V16 s) (M : Int) (pm : 2147483647 - a4 ≤ M) {r : z_M → Int → Int → Int → z_O} {k : z_M → Int → Int → z_O} (hr : ∀ (s' : z_M) (v2 : Int) (v3 : Int) (v4 : Int), z_CI s' → z_Fr R_X11_nearest_1 r0 s' → (-2147483648 ≤ v2 ∧ v2 ≤ 2147483647) → (-2147483648 ≤ v3 ∧ v3 ≤ 2147483647) → (-2147483648 ≤ v4 ∧ v4 ≤ 2147483647) → (y_V16 s') → (2147483647 - v4 < M) → z_T (r s' v2 v3 v4) (P_X11_nearest_1T r0)) (hk : ∀ (s' : z_M) (v2 : Int) (v3 : Int), z_CI s' → z_Fr R_X11_nearest_1 r0 s' → (-2147483648 ≤ v2 ∧ v2 ≤ 2147483647) → (-2147483648 ≤ v3 ∧ v3 ≤ 2147483647) → (y_V16 s') → z_T (k s' v2 v3) (P_X11_nearest_1T r0)) : z_T (fX11_nearest_J69 fu s 1 a1 a2 a3 a4 r k) (P_X11_nearest_1T r0) := by
  refine T_of (fX11_nearest_J69.eq_1 ..) ?_
  have u1 := CI_b c (k := 240) (j := 6) bd_240_6
  refine T_leq (fun x2 e3 => ?_)
  have w4 := z_wb e3
  exact hr s a2 a3 x2 c f (by omega) (by omega) (by omega) p0 (by omega)
theorem sl_X11_nearest_1T_L20 {fu : Nat} (hfu : 8589934592 ≤ fu) (r0 : z_M) (a1 : Int) (b1 : -2147483648 ≤ a1 ∧ a1 ≤ 2147483647) {k : z_M → Int → Int → z_O} (hk : ∀ (s' : z_M) (v2 : Int) (v3 : Int), z_CI s' → z_Fr R_X11_nearest_1 r0 s' → (-2147483648 ≤ v2 ∧ v2 ≤ 2147483647) → (-2147483648 ≤ v3 ∧ v3 ≤ 2147483647) → (y_V16 s') → z_T (k s' v2 v3) (P_X11_nearest_1T r0)) : ∀ (F : Nat) (s : z_M) (a2 : Int) (a3 : Int) (a4 : Int), z_CI s → z_Fr R_X11_nearest_1 r0 s → (-2147483648 ≤ a2 ∧ a2 ≤ 2147483647) → (-2147483648 ≤ a3 ∧ a3 ≤ 2147483647) → (-2147483648 ≤ a4 ∧ a4 ≤ 2147483647) → (y_V16 s) → (2147483647 - a4 < (F : Int)) → z_T (fX11_nearest_L20 fu 1 a1 F s a2 a3 a4 k) (P_X11_nearest_1T r0) := by
  intro F
  induction F with
  | zero =>
    intro s a2 a3 a4 c f b2 b3 b4 i0 hm
    have u30 := CI_b c (k := 240) (j := 6) bd_240_6
    exfalso; omega
  | succ F ih =>
    intro s a2 a3 a4 c f b2 b3 b4 i0 hm
    refine T_of (fX11_nearest_L20.eq_2 ..) ?_
    have u1 := CI_b c (k := 240) (j := 6) bd_240_6
    refine T_if1 (by decide +kernel) ?_
    refine T_let 240 (by decide +kernel) ?_
    refine T_if1 (by decide +kernel) ?_
    refine T_leq (fun x2 e3 => ?_)
    have u4 := CI_b c (k := 240) (j := 6) bd_240_6
    refine T_ite (fun h5 => ?_) (fun h5 => ?_)
    · exact hk s a2 a3 c f (by omega) (by omega) i0
    · refine T_if1 (by decide +kernel) ?_
      refine T_let 258 (by decide +kernel) ?_
      refine T_if1 (by decide +kernel) ?_
      refine T_useI (sf_X3_nearestOn_258 hfu s c a4 0 (by omega) (by omega)) (fun v11 s6 hq => ?_)
      obtain ⟨c7, f8, ⟨x10, rfl, b12, b13⟩⟩ := hq
      refine T_vI ?_
      have f9 := z_Fr.tr (R := R_X11_nearest_1) f f8 (fun a b h => absurd h not_false)
      have t14 : s6 240 6 = s 240 6 := f8 240 6 (by decide)
      have r15 := y_V16.fr i0 (f8 1 16 (by decide)) (f8 191 16 (by decide)) (f8 6 6 (by decide)) (fun b => f8 195 b (nr_X3_nearestOn_258__195 b)) (fun b => f8 197 b (nr_X3_nearestOn_258__197 b)) (fun b => f8 193 b (nr_X3_nearestOn_258__193 b)) (fun b => f8 215 b (nr_X3_nearestOn_258__215 b)) (fun b => f8 8 b (nr_X3_nearestOn_258__8 b)) (fun b => f8 12 b (nr_X3_nearestOn_258__12 b)) (fun b => f8 14 b (nr_X3_nearestOn_258__14 b))
      refine T_if1 (by decide +kernel) ?_
      refine T_let 258 (by decide +kernel) ?_
      refine T_if1 (by decide +kernel) ?_
      refine T_useI (sf_X3_nearestOn_258 hfu s6 c7 a4 1 (by omega) (by omega)) (fun v21 s16 hq => ?_)
      obtain ⟨c17, f18, ⟨x20, rfl, b22, b23⟩⟩ := hq
      refine T_vI ?_
      have f19 := z_Fr.tr (R := R_X11_nearest_1) f9 f18 (fun a b h => absurd h not_false)
      have t24 : s16 240 6 = s6 240 6 := f18 240 6 (by decide)
      have r25 := y_V16.fr r15 (f18 1 16 (by decide)) (f18 191 16 (by decide)) (f18 6 6 (by decide)) (fun b => f18 195 b (nr_X3_nearestOn_258__195 b)) (fun b => f18 197 b (nr_X3_nearestOn_258__197 b)) (fun b => f18 193 b (nr_X3_nearestOn_258__193 b)) (fun b => f18 215 b (nr_X3_nearestOn_258__215 b)) (fun b => f18 8 b (nr_X3_nearestOn_258__8 b)) (fun b => f18 12 b (nr_X3_nearestOn_258__12 b)) (fun b => f18 14 b (nr_X3_nearestOn_258__14 b))
      refine T_leq (fun x26 e27 => ?_)
      have w28 := z_minb x10 x20
      rw [e27] at w28
      refine T_ite (fun h29 => ?_) (fun h29 => ?_)
      · exact sj_X11_nearest_1T_J69 hfu r0 s16 c17 f19 a1 a2 a3 a4 (by omega) (by omega) (by omega) (by omega) r25 (2147483647 - a4) (by omega) (fun s' v2 v3 v4 c' f' w2 w3 w4 z0 pg => ih s' v2 v3 v4 c' f' w2 w3 w4 z0 (by omega)) hk
      · exact sj_X11_nearest_1T_J69 hfu r0 s16 c17 f19 a1 x26 a4 a4 (by omega) (by omega) (by omega) (by omega) r25 (2147483647 - a4) (by omega) (fun s' v2 v3 v4 c' f' w2 w3 w4 z0 pg => ih s' v2 v3 v4 c' f' w2 w3 w4 z0 (by omega)) hk
theorem sj_X11_nearest_1T_J94 {fu : Nat} (hfu : 8589934592 ≤ fu) (r0 s : z_M) (c : z_CI s) (f : z_Fr R_X11_nearest_1 r0 s) (t0 : Int) (d0 : -2147483648 ≤ t0 ∧ t0 ≤ 2147483647) (p0 : y_V16 s) : z_T (fX11_nearest_J94 fu s t0) (P_X11_nearest_1T r0) := by
  refine T_of (fX11_nearest_J94.eq_1 ..) ?_
  have u1 := CI_b c (k := 240) (j := 6) bd_240_6
  exact T_ret ⟨c, f, p0, Or.inl (⟨t0, rfl, by omega, by omega⟩)⟩
theorem sf_X11_nearest_1T {fu : Nat} (hfu : 8589934592 ≤ fu) (r0 : z_M) (c0 : z_CI r0) (a1 : Int) (b1 : -2147483648 ≤ a1 ∧ a1 ≤ 2147483647) (p0 : y_V16 r0) : z_T (fX11_nearest fu r0 1 a1) (P_X11_nearest_1T r0) := by
  refine T_of (fX11_nearest.eq_1 ..) ?_
  refine T_if1 (by decide +kernel) ?_
  refine T_nw ?_ (fun h1 h2 => ?_)
  · exact T_ret ⟨CI_up c0 bd_1_15 (z_wb rfl).1, z_Fr.upf (R := R_X11_nearest_1) z_Fr.rf (fun a b h => z_up_k h) (fun b h => z_up_j h) (Or.inr (Or.inr (Or.inr (Or.inr (Or.inr (Or.inr (Or.inr (Or.inl (⟨rfl, by decide⟩))))))))), y_V16.fr p0 (z_up_j (by decide)) (z_up_k (by decide)) (z_up_k (by decide)) (fun _ => z_up_k (by decide)) (fun _ => z_up_k (by decide)) (fun _ => z_up_k (by decide)) (fun _ => z_up_k (by decide)) (fun _ => z_up_k (by decide)) (fun _ => z_up_k (by decide)) (fun _ => z_up_k (by decide)), Or.inr rfl⟩
  refine T_if1 (by decide +kernel) ?_
  refine T_useN (sf_X11_refresh_1T hfu r0 c0 p0) (fun v8 s3 hq => ?_)
  obtain ⟨c4, f5, o9, rfl⟩ := hq
  refine T_vN ?_
  have f6 := z_Fr.tr (R := R_X11_nearest_1) z_Fr.rf f5 rs_X11_refresh_1__X11_nearest_1
  have u12 := CI_b c4 (k := 240) (j := 6) bd_240_6
  refine sl_X11_nearest_1T_L20 hfu r0 a1 (by omega) (fun s13 y16 y17 c14 f15 b18 b19 g20 => ?_) fu s3 2147483647 (-1) 0 c4 f6 (by omega) (by omega) (by omega) (Or.inr o9) (by omega)
  have u21 := CI_b c14 (k := 240) (j := 6) bd_240_6
  refine T_ite (fun h22 => ?_) (fun h22 => ?_)
  · refine T_ite (fun h23 => ?_) (fun h23 => ?_)
    · exact sj_X11_nearest_1T_J94 hfu r0 s13 c14 f15 y16 (by omega) g20
    · exact sj_X11_nearest_1T_J94 hfu r0 s13 c14 f15 999 (by omega) g20
  · exact T_ret ⟨c14, f15, g20, Or.inl (⟨y17, rfl, by omega, by omega⟩)⟩
abbrev P_X11_partner_1T (r0 : z_M) : z_V → z_M → Prop := fun v s' => z_CI s' ∧ z_Fr R_X11_partner_1 r0 s' ∧ (y_V16 s') ∧ ((∃ x, v = vI x ∧ -2147483648 ≤ x ∧ x ≤ 2147483647) ∨ v = vX 0)
theorem sf_X11_partner_1T {fu : Nat} (hfu : 8589934592 ≤ fu) (r0 : z_M) (c0 : z_CI r0) (a1 : Int) (b1 : -2147483648 ≤ a1 ∧ a1 ≤ 2147483647) (p0 : y_V16 r0) : z_T (fX11_partner fu r0 1 a1) (P_X11_partner_1T r0) := by
  refine T_of (fX11_partner.eq_1 ..) ?_
  refine T_if1 (by decide +kernel) ?_
  refine T_useN (sf_X11_refresh_1T hfu r0 c0 p0) (fun v6 s1 hq => ?_)
  obtain ⟨c2, f3, o7, rfl⟩ := hq
  refine T_vN ?_
  have f4 := z_Fr.tr (R := R_X11_partner_1) z_Fr.rf f3 rs_X11_refresh_1__X11_partner_1
  have u10 := CI_b c2 (k := 191) (j := 16) bd_191_16
  refine T_if1 (by decide +kernel) ?_
  refine T_let 191 (by decide +kernel) ?_
  refine T_if1 (by decide +kernel) ?_
  refine T_leq (fun x11 e12 => ?_)
  have u13 := CI_b c2 (k := 191) (j := 16) bd_191_16
  refine T_if1 (by decide +kernel) ?_
  refine T_ne ?_ (fun h14 h15 => ?_)
  · exact T_ret ⟨CI_up c2 bd_1_14 (z_wb rfl).1, z_Fr.upf (R := R_X11_partner_1) f4 (fun a b h => z_up_k h) (fun b h => z_up_j h) (Or.inr (Or.inr (Or.inr (Or.inr (Or.inr (Or.inr (Or.inr (Or.inl (⟨rfl, by decide⟩))))))))), Or.inr (y_Uu.fr o7 (z_up_k (by decide)) (z_up_k (by decide)) (fun _ => z_up_k (by decide)) (fun _ => z_up_k (by decide)) (fun _ => z_up_k (by decide)) (fun _ => z_up_k (by decide)) (fun _ => z_up_k (by decide)) (fun _ => z_up_k (by decide)) (fun _ => z_up_k (by decide))), Or.inr rfl⟩
  refine T_if1 (by decide +kernel) ?_
  refine T_let 191 (by decide +kernel) ?_
  refine T_if1 (by decide +kernel) ?_
  refine T_let 206 (by decide +kernel) ?_
  refine T_if1 (by decide +kernel) ?_
  refine T_get (by decide +kernel) (c := 207) (by decide +kernel) bdr_207 (by decide) c2 (fun x16 e17 b18 w19 => ?_)
  have l20 : z_ln 206 = 200 := by decide +kernel
  exact T_ret ⟨c2, f4, (Or.inr o7), Or.inl (⟨x16, rfl, by omega, by omega⟩)⟩
abbrev P_X11_side_1T (r0 : z_M) : z_V → z_M → Prop := fun v s' => z_CI s' ∧ z_Fr R_X11_side_1 r0 s' ∧ (y_V16 s') ∧ ((∃ x, v = vI x ∧ -2147483648 ≤ x ∧ x ≤ 2147483647) ∨ v = vX 0 ∨ v = vX 1)
theorem nr_X3_marksBeside_258__193 (b : Int) : ¬ R_X3_marksBeside_258 193 b := not_false
theorem nr_X3_marksBeside_258__215 (b : Int) : ¬ R_X3_marksBeside_258 215 b := not_false
theorem nr_X3_marksBeside_258__8 (b : Int) : ¬ R_X3_marksBeside_258 8 b := not_false
theorem nr_X3_marksBeside_258__12 (b : Int) : ¬ R_X3_marksBeside_258 12 b := not_false
theorem nr_X3_marksBeside_258__14 (b : Int) : ¬ R_X3_marksBeside_258 14 b := not_false
theorem sj_X11_side_1T_J55 {fu : Nat} (hfu : 8589934592 ≤ fu) (r0 s : z_M) (c : z_CI s) (f : z_Fr R_X11_side_1 r0 s) (t0 : Int) (d0 : -2147483648 ≤ t0 ∧ t0 ≤ 2147483647) (p0 : y_V16 s) : z_T (fX11_side_J55 fu s t0) (P_X11_side_1T r0) := by
  refine T_of (fX11_side_J55.eq_1 ..) ?_
  have u1 := CI_b c (k := 240) (j := 6) bd_240_6
  exact T_ret ⟨c, f, p0, Or.inl (⟨t0, rfl, by omega, by omega⟩)⟩
theorem nr_X3_lettersBeside_258__193 (b : Int) : ¬ R_X3_lettersBeside_258 193 b := not_false
theorem nr_X3_lettersBeside_258__215 (b : Int) : ¬ R_X3_lettersBeside_258 215 b := not_false
theorem nr_X3_lettersBeside_258__8 (b : Int) : ¬ R_X3_lettersBeside_258 8 b := not_false
theorem nr_X3_lettersBeside_258__12 (b : Int) : ¬ R_X3_lettersBeside_258 12 b := not_false
theorem nr_X3_lettersBeside_258__14 (b : Int) : ¬ R_X3_lettersBeside_258 14 b := not_false
theorem sf_X11_side_1T {fu : Nat} (hfu : 8589934592 ≤ fu) (r0 : z_M) (c0 : z_CI r0) (a1 : Int) (a2 : Int) (a3 : Int) (b1 : -2147483648 ≤ a1 ∧ a1 ≤ 2147483647) (b2 : -2147483648 ≤ a2 ∧ a2 ≤ 2147483647) (b3 : -2147483648 ≤ a3 ∧ a3 ≤ 2147483647) (p0 : y_V16 r0) : z_T (fX11_side fu r0 1 a1 a2 a3) (P_X11_side_1T r0) := by
  refine T_of (fX11_side.eq_1 ..) ?_
  refine T_if1 (by decide +kernel) ?_
  refine T_useN (sf_X11_refresh_1T hfu r0 c0 p0) (fun v6 s1 hq => ?_)
  obtain ⟨c2, f3, o7, rfl⟩ := hq
  refine T_vN ?_
  have f4 := z_Fr.tr (R := R_X11_side_1) z_Fr.rf f3 rs_X11_refresh_1__X11_side_1
  have u10 := CI_b c2 (k := 240) (j := 6) bd_240_6
  refine T_if1 (by decide +kernel) ?_
  refine T_let 240 (by decide +kernel) ?_
  refine T_if1 (by decide +kernel) ?_
  refine T_leq (fun x11 e12 => ?_)
  have u13 := CI_b c2 (k := 240) (j := 6) bd_240_6
  refine T_if1 (by decide +kernel) ?_
  refine T_ne ?_ (fun h14 h15 => ?_)
  · exact T_ret ⟨CI_up c2 bd_1_14 (z_wb rfl).1, z_Fr.upf (R := R_X11_side_1) f4 (fun a b h => z_up_k h) (fun b h => z_up_j h) (Or.inr (Or.inr (Or.inr (Or.inr (Or.inr (Or.inr (Or.inr (Or.inl (⟨rfl, by decide⟩))))))))), Or.inr (y_Uu.fr o7 (z_up_k (by decide)) (z_up_k (by decide)) (fun _ => z_up_k (by decide)) (fun _ => z_up_k (by decide)) (fun _ => z_up_k (by decide)) (fun _ => z_up_k (by decide)) (fun _ => z_up_k (by decide)) (fun _ => z_up_k (by decide)) (fun _ => z_up_k (by decide))), Or.inr (Or.inl rfl)⟩
  refine T_if1 (by decide +kernel) ?_
  refine T_nw ?_ (fun h16 h17 => ?_)
  · exact T_ret ⟨CI_up c2 bd_1_15 (z_wb rfl).1, z_Fr.upf (R := R_X11_side_1) f4 (fun a b h => z_up_k h) (fun b h => z_up_j h) (Or.inr (Or.inr (Or.inr (Or.inr (Or.inr (Or.inr (Or.inr (Or.inl (⟨rfl, by decide⟩))))))))), Or.inr (y_Uu.fr o7 (z_up_k (by decide)) (z_up_k (by decide)) (fun _ => z_up_k (by decide)) (fun _ => z_up_k (by decide)) (fun _ => z_up_k (by decide)) (fun _ => z_up_k (by decide)) (fun _ => z_up_k (by decide)) (fun _ => z_up_k (by decide)) (fun _ => z_up_k (by decide))), Or.inr (Or.inr rfl)⟩
  refine T_if1 (by decide +kernel) ?_
  refine T_nw ?_ (fun h18 h19 => ?_)
  · exact T_ret ⟨CI_up c2 bd_1_15 (z_wb rfl).1, z_Fr.upf (R := R_X11_side_1) f4 (fun a b h => z_up_k h) (fun b h => z_up_j h) (Or.inr (Or.inr (Or.inr (Or.inr (Or.inr (Or.inr (Or.inr (Or.inl (⟨rfl, by decide⟩))))))))), Or.inr (y_Uu.fr o7 (z_up_k (by decide)) (z_up_k (by decide)) (fun _ => z_up_k (by decide)) (fun _ => z_up_k (by decide)) (fun _ => z_up_k (by decide)) (fun _ => z_up_k (by decide)) (fun _ => z_up_k (by decide)) (fun _ => z_up_k (by decide)) (fun _ => z_up_k (by decide))), Or.inr (Or.inr rfl)⟩
  refine T_ite (fun h20 => ?_) (fun h20 => ?_)
  · refine T_if1 (by decide +kernel) ?_
    refine T_let 258 (by decide +kernel) ?_
    refine T_if1 (by decide +kernel) ?_
    refine T_useI (sf_X3_marksBeside_258 hfu s1 c2 a1 a2 (by omega) (by omega)) (fun v26 s21 hq => ?_)
    obtain ⟨c22, f23, ⟨x25, rfl, b27, b28⟩⟩ := hq
    refine T_vI ?_
    have f24 := z_Fr.tr (R := R_X11_side_1) f4 f23 (fun a b h => absurd h not_false)
    have t29 : s21 240 6 = s1 240 6 := f23 240 6 (by decide)
    have r30 := y_Uu.fr o7 (f23 191 16 (by decide)) (f23 6 6 (by decide)) (fun b => f23 195 b (nr_X3_marksBeside_258__195 b)) (fun b => f23 197 b (nr_X3_marksBeside_258__197 b)) (fun b => f23 193 b (nr_X3_marksBeside_258__193 b)) (fun b => f23 215 b (nr_X3_marksBeside_258__215 b)) (fun b => f23 8 b (nr_X3_marksBeside_258__8 b)) (fun b => f23 12 b (nr_X3_marksBeside_258__12 b)) (fun b => f23 14 b (nr_X3_marksBeside_258__14 b))
    exact sj_X11_side_1T_J55 hfu r0 s21 c22 f24 x25 (by omega) (Or.inr r30)
  · refine T_if1 (by decide +kernel) ?_
    refine T_let 258 (by decide +kernel) ?_
    refine T_if1 (by decide +kernel) ?_
    refine T_useI (sf_X3_lettersBeside_258 hfu s1 c2 a1 a2 (by omega) (by omega)) (fun v36 s31 hq => ?_)
    obtain ⟨c32, f33, ⟨x35, rfl, b37, b38⟩⟩ := hq
    refine T_vI ?_
    have f34 := z_Fr.tr (R := R_X11_side_1) f4 f33 (fun a b h => absurd h not_false)
    have t39 : s31 240 6 = s1 240 6 := f33 240 6 (by decide)
    have r40 := y_Uu.fr o7 (f33 191 16 (by decide)) (f33 6 6 (by decide)) (fun b => f33 195 b (nr_X3_lettersBeside_258__195 b)) (fun b => f33 197 b (nr_X3_lettersBeside_258__197 b)) (fun b => f33 193 b (nr_X3_lettersBeside_258__193 b)) (fun b => f33 215 b (nr_X3_lettersBeside_258__215 b)) (fun b => f33 8 b (nr_X3_lettersBeside_258__8 b)) (fun b => f33 12 b (nr_X3_lettersBeside_258__12 b)) (fun b => f33 14 b (nr_X3_lettersBeside_258__14 b))
    exact sj_X11_side_1T_J55 hfu r0 s31 c32 f34 x35 (by omega) (Or.inr r40)
abbrev P_X11_refreshSides_1T (r0 : z_M) : z_V → z_M → Prop := fun v s' => z_CI s' ∧ z_Fr R_X11_refreshSides_1 r0 s' ∧ (y_V16 s') ∧ (v = vN)
theorem sj_X11_refreshSides_1T_J19 {fu : Nat} (hfu : 8589934592 ≤ fu) (r0 s : z_M) (c : z_CI s) (f : z_Fr R_X11_refreshSides_1 r0 s) (p0 : y_V16 s) : z_T (fX11_refreshSides_J19 fu s) (P_X11_refreshSides_1T r0) := by
  refine T_of (fX11_refreshSides_J19.eq_1 ..) ?_
  have u1 := CI_b c (k := 1) (j := 18) bd_1_18
  exact T_ret ⟨c, f, p0, rfl⟩
theorem nr_X8_build_296__193 (b : Int) : ¬ R_X8_build_296 193 b := by
  unfold R_X8_build_296; omega
theorem nr_X8_build_296__215 (b : Int) : ¬ R_X8_build_296 215 b := by
  unfold R_X8_build_296; omega
theorem nr_X8_build_296__8 (b : Int) : ¬ R_X8_build_296 8 b := by
  unfold R_X8_build_296; omega
theorem nr_X8_build_296__12 (b : Int) : ¬ R_X8_build_296 12 b := by
  unfold R_X8_build_296; omega
theorem nr_X8_build_296__14 (b : Int) : ¬ R_X8_build_296 14 b := by
  unfold R_X8_build_296; omega
theorem sf_X11_refreshSides_1T {fu : Nat} (hfu : 8589934592 ≤ fu) (r0 : z_M) (c0 : z_CI r0) (p0 : y_V16 r0) : z_T (fX11_refreshSides fu r0 1) (P_X11_refreshSides_1T r0) := by
  refine T_of (fX11_refreshSides.eq_1 ..) ?_
  refine T_if1 (by decide +kernel) ?_
  refine T_leq (fun x1 e2 => ?_)
  have u3 := CI_b c0 (k := 1) (j := 18) bd_1_18
  refine T_ite (fun h4 => ?_) (fun h4 => ?_)
  · exact sj_X11_refreshSides_1T_J19 hfu r0 r0 c0 z_Fr.rf p0
  · refine T_if1 (by decide +kernel) ?_
    refine T_let 296 (by decide +kernel) ?_
    refine T_if1 (by decide +kernel) ?_
    refine T_useN (sf_X8_build_296 hfu r0 c0) (fun v10 s5 hq => ?_)
    obtain ⟨c6, f7, rfl⟩ := hq
    refine T_vN ?_
    have f8 := z_Fr.tr (R := R_X11_refreshSides_1) z_Fr.rf f7 rs_X8_build_296__X11_refreshSides_1
    have t13 : s5 1 18 = r0 1 18 := f7 1 18 (by decide)
    have r14 := y_V16.fr p0 (f7 1 16 (by decide)) (f7 191 16 (by decide)) (f7 6 6 (by decide)) (fun b => f7 195 b (nr_X8_build_296__195 b)) (fun b => f7 197 b (nr_X8_build_296__197 b)) (fun b => f7 193 b (nr_X8_build_296__193 b)) (fun b => f7 215 b (nr_X8_build_296__215 b)) (fun b => f7 8 b (nr_X8_build_296__8 b)) (fun b => f7 12 b (nr_X8_build_296__12 b)) (fun b => f7 14 b (nr_X8_build_296__14 b))
    refine T_if1 ⟨(by decide +kernel), by unfold z_bl; omega⟩ ?_
    refine T_upg c6 bd_1_18 (by omega) (fun s15 c16 g18 g19 e20 => ?_)
    have f17 := z_Fr.upf (R := R_X11_refreshSides_1) f8 g18 g19 (Or.inr (Or.inl (⟨rfl, by decide⟩)))
    have r21 := y_V16.fr r14 (g19 16 (by decide)) (g18 191 16 (by decide)) (g18 6 6 (by decide)) (fun b => g18 195 b (by decide)) (fun b => g18 197 b (by decide)) (fun b => g18 193 b (by decide)) (fun b => g18 215 b (by decide)) (fun b => g18 8 b (by decide)) (fun b => g18 12 b (by decide)) (fun b => g18 14 b (by decide))
    exact sj_X11_refreshSides_1T_J19 hfu r0 s15 c16 f17 r21
abbrev P_X11_gutter_1T (r0 : z_M) : z_V → z_M → Prop := fun v s' => z_CI s' ∧ z_Fr R_X11_gutter_1 r0 s' ∧ (y_V16 s') ∧ ((∃ x, v = vI x ∧ -2147483648 ≤ x ∧ x ≤ 2147483647) ∨ v = vX 0)
theorem nr_X11_refreshSides_1__193 (b : Int) : ¬ R_X11_refreshSides_1 193 b := by
  unfold R_X11_refreshSides_1; omega
theorem nr_X11_refreshSides_1__215 (b : Int) : ¬ R_X11_refreshSides_1 215 b := by
  unfold R_X11_refreshSides_1; omega
theorem nr_X11_refreshSides_1__8 (b : Int) : ¬ R_X11_refreshSides_1 8 b := by
  unfold R_X11_refreshSides_1; omega
theorem nr_X11_refreshSides_1__12 (b : Int) : ¬ R_X11_refreshSides_1 12 b := by
  unfold R_X11_refreshSides_1; omega
theorem nr_X11_refreshSides_1__14 (b : Int) : ¬ R_X11_refreshSides_1 14 b := by
  unfold R_X11_refreshSides_1; omega
theorem sj_X11_gutter_1T_J48 {fu : Nat} (hfu : 8589934592 ≤ fu) (r0 s : z_M) (c : z_CI s) (f : z_Fr R_X11_gutter_1 r0 s) (t0 : Int) (d0 : -2147483648 ≤ t0 ∧ t0 ≤ 2147483647) (p0 : y_V16 s) : z_T (fX11_gutter_J48 fu s t0) (P_X11_gutter_1T r0) := by
  refine T_of (fX11_gutter_J48.eq_1 ..) ?_
  have u1 := CI_b c (k := 240) (j := 6) bd_240_6
  exact T_ret ⟨c, f, p0, Or.inl (⟨t0, rfl, by omega, by omega⟩)⟩
theorem sf_X11_gutter_1T {fu : Nat} (hfu : 8589934592 ≤ fu) (r0 : z_M) (c0 : z_CI r0) (a1 : Int) (b1 : -2147483648 ≤ a1 ∧ a1 ≤ 2147483647) (p0 : y_V16 r0) : z_T (fX11_gutter fu r0 1 a1) (P_X11_gutter_1T r0) := by
  refine T_of (fX11_gutter.eq_1 ..) ?_
  refine T_if1 (by decide +kernel) ?_
  refine T_useN (sf_X11_refresh_1T hfu r0 c0 p0) (fun v6 s1 hq => ?_)
  obtain ⟨c2, f3, o7, rfl⟩ := hq
  refine T_vN ?_
  have f4 := z_Fr.tr (R := R_X11_gutter_1) z_Fr.rf f3 rs_X11_refresh_1__X11_gutter_1
  have u10 := CI_b c2 (k := 240) (j := 6) bd_240_6
  refine T_if1 (by decide +kernel) ?_
  refine T_let 240 (by decide +kernel) ?_
  refine T_if1 (by decide +kernel) ?_
  refine T_leq (fun x11 e12 => ?_)
  have u13 := CI_b c2 (k := 240) (j := 6) bd_240_6
  refine T_if1 (by decide +kernel) ?_
  refine T_ne ?_ (fun h14 h15 => ?_)
  · exact T_ret ⟨CI_up c2 bd_1_14 (z_wb rfl).1, z_Fr.upf (R := R_X11_gutter_1) f4 (fun a b h => z_up_k h) (fun b h => z_up_j h) (Or.inr (Or.inr (Or.inr (Or.inr (Or.inr (Or.inr (Or.inr (Or.inr (Or.inl (⟨rfl, by decide⟩)))))))))), Or.inr (y_Uu.fr o7 (z_up_k (by decide)) (z_up_k (by decide)) (fun _ => z_up_k (by decide)) (fun _ => z_up_k (by decide)) (fun _ => z_up_k (by decide)) (fun _ => z_up_k (by decide)) (fun _ => z_up_k (by decide)) (fun _ => z_up_k (by decide)) (fun _ => z_up_k (by decide))), Or.inr rfl⟩
  refine T_if1 (by decide +kernel) ?_
  refine T_useN (sf_X11_refreshSides_1T hfu s1 c2 (Or.inr o7)) (fun v21 s16 hq => ?_)
  obtain ⟨c17, f18, o22, rfl⟩ := hq
  refine T_vN ?_
  have f19 := z_Fr.tr (R := R_X11_gutter_1) f4 f18 rs_X11_refreshSides_1__X11_gutter_1
  have t25 : s16 240 6 = s1 240 6 := f18 240 6 (by decide)
  have r26 := y_Uu.fr o7 (f18 191 16 (by decide)) (f18 6 6 (by decide)) (fun b => f18 195 b (nr_X11_refreshSides_1__195 b)) (fun b => f18 197 b (nr_X11_refreshSides_1__197 b)) (fun b => f18 193 b (nr_X11_refreshSides_1__193 b)) (fun b => f18 215 b (nr_X11_refreshSides_1__215 b)) (fun b => f18 8 b (nr_X11_refreshSides_1__8 b)) (fun b => f18 12 b (nr_X11_refreshSides_1__12 b)) (fun b => f18 14 b (nr_X11_refreshSides_1__14 b))
  refine T_if1 (by decide +kernel) ?_
  refine T_let 240 (by decide +kernel) ?_
  refine T_if1 (by decide +kernel) ?_
  refine T_leq (fun x27 e28 => ?_)
  have u29 := CI_b c17 (k := 240) (j := 6) bd_240_6
  refine T_leq (fun x30 e31 => ?_)
  have w32 := z_wr e31
  refine T_ite (fun h33 => ?_) (fun h33 => ?_)
  · refine T_if1 (by decide +kernel) ?_
    refine T_let 296 (by decide +kernel) ?_
    refine T_if1 (by decide +kernel) ?_
    refine T_let 301 (by decide +kernel) ?_
    refine T_if1 (by decide +kernel) ?_
    refine T_get (by decide +kernel) (c := 302) (by decide +kernel) bdr_302 (by decide) c17 (fun x34 e35 b36 w37 => ?_)
    have l38 : z_ln 301 = 200 := by decide +kernel
    exact sj_X11_gutter_1T_J48 hfu r0 s16 c17 f19 x34 (by omega) o22
  · exact sj_X11_gutter_1T_J48 hfu r0 s16 c17 f19 (-1) (by omega) o22
abbrev P_X11_clash_1T (r0 : z_M) : z_V → z_M → Prop := fun v s' => z_CI s' ∧ z_Fr R_X11_clash_1 r0 s' ∧ (y_V16 s') ∧ ((∃ x, v = vI x ∧ -2147483648 ≤ x ∧ x ≤ 2147483647) ∨ v = vX 0)
theorem sf_X11_clash_1T {fu : Nat} (hfu : 8589934592 ≤ fu) (r0 : z_M) (c0 : z_CI r0) (a1 : Int) (b1 : -2147483648 ≤ a1 ∧ a1 ≤ 2147483647) (p0 : y_V16 r0) : z_T (fX11_clash fu r0 1 a1) (P_X11_clash_1T r0) := by
  refine T_of (fX11_clash.eq_1 ..) ?_
  refine T_if1 (by decide +kernel) ?_
  refine T_useN (sf_X11_refresh_1T hfu r0 c0 p0) (fun v6 s1 hq => ?_)
  obtain ⟨c2, f3, o7, rfl⟩ := hq
  refine T_vN ?_
  have f4 := z_Fr.tr (R := R_X11_clash_1) z_Fr.rf f3 rs_X11_refresh_1__X11_clash_1
  have u10 := CI_b c2 (k := 240) (j := 6) bd_240_6
  refine T_if1 (by decide +kernel) ?_
  refine T_let 240 (by decide +kernel) ?_
  refine T_if1 (by decide +kernel) ?_
  refine T_leq (fun x11 e12 => ?_)
  have u13 := CI_b c2 (k := 240) (j := 6) bd_240_6
  refine T_if1 (by decide +kernel) ?_
  refine T_ne ?_ (fun h14 h15 => ?_)
  · exact T_ret ⟨CI_up c2 bd_1_14 (z_wb rfl).1, z_Fr.upf (R := R_X11_clash_1) f4 (fun a b h => z_up_k h) (fun b h => z_up_j h) (Or.inr (Or.inr (Or.inr (Or.inr (Or.inr (Or.inr (Or.inr (Or.inr (Or.inl (⟨rfl, by decide⟩)))))))))), Or.inr (y_Uu.fr o7 (z_up_k (by decide)) (z_up_k (by decide)) (fun _ => z_up_k (by decide)) (fun _ => z_up_k (by decide)) (fun _ => z_up_k (by decide)) (fun _ => z_up_k (by decide)) (fun _ => z_up_k (by decide)) (fun _ => z_up_k (by decide)) (fun _ => z_up_k (by decide))), Or.inr rfl⟩
  refine T_if1 (by decide +kernel) ?_
  refine T_useN (sf_X11_refreshSides_1T hfu s1 c2 (Or.inr o7)) (fun v21 s16 hq => ?_)
  obtain ⟨c17, f18, o22, rfl⟩ := hq
  refine T_vN ?_
  have f19 := z_Fr.tr (R := R_X11_clash_1) f4 f18 rs_X11_refreshSides_1__X11_clash_1
  have t25 : s16 240 6 = s1 240 6 := f18 240 6 (by decide)
  have r26 := y_Uu.fr o7 (f18 191 16 (by decide)) (f18 6 6 (by decide)) (fun b => f18 195 b (nr_X11_refreshSides_1__195 b)) (fun b => f18 197 b (nr_X11_refreshSides_1__197 b)) (fun b => f18 193 b (nr_X11_refreshSides_1__193 b)) (fun b => f18 215 b (nr_X11_refreshSides_1__215 b)) (fun b => f18 8 b (nr_X11_refreshSides_1__8 b)) (fun b => f18 12 b (nr_X11_refreshSides_1__12 b)) (fun b => f18 14 b (nr_X11_refreshSides_1__14 b))
  refine T_if1 (by decide +kernel) ?_
  refine T_let 296 (by decide +kernel) ?_
  refine T_if1 (by decide +kernel) ?_
  refine T_let 299 (by decide +kernel) ?_
  refine T_if1 (by decide +kernel) ?_
  refine T_get (by decide +kernel) (c := 300) (by decide +kernel) bdr_300 (by decide) c17 (fun x27 e28 b29 w30 => ?_)
  have l31 : z_ln 299 = 200 := by decide +kernel
  exact T_ret ⟨c17, f19, o22, Or.inl (⟨x27, rfl, by omega, by omega⟩)⟩
abbrev P_X11_thick_1T (r0 : z_M) : z_V → z_M → Prop := fun v s' => z_CI s' ∧ z_Fr R_X11_thick_1 r0 s' ∧ (y_V16 s') ∧ ((∃ x, v = vI x ∧ -2147483648 ≤ x ∧ x ≤ 2147483647) ∨ v = vX 0 ∨ v = vX 1)
theorem nr_X8_thickOf_296__193 (b : Int) : ¬ R_X8_thickOf_296 193 b := not_false
theorem nr_X8_thickOf_296__215 (b : Int) : ¬ R_X8_thickOf_296 215 b := not_false
theorem nr_X8_thickOf_296__8 (b : Int) : ¬ R_X8_thickOf_296 8 b := not_false
theorem nr_X8_thickOf_296__12 (b : Int) : ¬ R_X8_thickOf_296 12 b := not_false
theorem nr_X8_thickOf_296__14 (b : Int) : ¬ R_X8_thickOf_296 14 b := not_false
theorem sf_X11_thick_1T {fu : Nat} (hfu : 8589934592 ≤ fu) (r0 : z_M) (c0 : z_CI r0) (a1 : Int) (a2 : Int) (b1 : -2147483648 ≤ a1 ∧ a1 ≤ 2147483647) (b2 : -2147483648 ≤ a2 ∧ a2 ≤ 2147483647) (p0 : y_V16 r0) : z_T (fX11_thick fu r0 1 a1 a2) (P_X11_thick_1T r0) := by
  refine T_of (fX11_thick.eq_1 ..) ?_
  refine T_if1 (by decide +kernel) ?_
  refine T_useN (sf_X11_refresh_1T hfu r0 c0 p0) (fun v6 s1 hq => ?_)
  obtain ⟨c2, f3, o7, rfl⟩ := hq
  refine T_vN ?_
  have f4 := z_Fr.tr (R := R_X11_thick_1) z_Fr.rf f3 rs_X11_refresh_1__X11_thick_1
  have u10 := CI_b c2 (k := 240) (j := 6) bd_240_6
  refine T_if1 (by decide +kernel) ?_
  refine T_let 240 (by decide +kernel) ?_
  refine T_if1 (by decide +kernel) ?_
  refine T_leq (fun x11 e12 => ?_)
  have u13 := CI_b c2 (k := 240) (j := 6) bd_240_6
  refine T_if1 (by decide +kernel) ?_
  refine T_ne ?_ (fun h14 h15 => ?_)
  · exact T_ret ⟨CI_up c2 bd_1_14 (z_wb rfl).1, z_Fr.upf (R := R_X11_thick_1) f4 (fun a b h => z_up_k h) (fun b h => z_up_j h) (Or.inr (Or.inr (Or.inr (Or.inr (Or.inr (Or.inr (Or.inr (Or.inr (Or.inl (⟨rfl, by decide⟩)))))))))), Or.inr (y_Uu.fr o7 (z_up_k (by decide)) (z_up_k (by decide)) (fun _ => z_up_k (by decide)) (fun _ => z_up_k (by decide)) (fun _ => z_up_k (by decide)) (fun _ => z_up_k (by decide)) (fun _ => z_up_k (by decide)) (fun _ => z_up_k (by decide)) (fun _ => z_up_k (by decide))), Or.inr (Or.inl rfl)⟩
  refine T_if1 (by decide +kernel) ?_
  refine T_let 240 (by decide +kernel) ?_
  refine T_if1 (by decide +kernel) ?_
  refine T_leq (fun x16 e17 => ?_)
  have u18 := CI_b c2 (k := 240) (j := 6) bd_240_6
  refine T_if1 (by decide +kernel) ?_
  refine T_ne ?_ (fun h19 h20 => ?_)
  · exact T_ret ⟨CI_up c2 bd_1_14 (z_wb rfl).1, z_Fr.upf (R := R_X11_thick_1) f4 (fun a b h => z_up_k h) (fun b h => z_up_j h) (Or.inr (Or.inr (Or.inr (Or.inr (Or.inr (Or.inr (Or.inr (Or.inr (Or.inl (⟨rfl, by decide⟩)))))))))), Or.inr (y_Uu.fr o7 (z_up_k (by decide)) (z_up_k (by decide)) (fun _ => z_up_k (by decide)) (fun _ => z_up_k (by decide)) (fun _ => z_up_k (by decide)) (fun _ => z_up_k (by decide)) (fun _ => z_up_k (by decide)) (fun _ => z_up_k (by decide)) (fun _ => z_up_k (by decide))), Or.inr (Or.inl rfl)⟩
  refine T_if1 (by decide +kernel) ?_
  refine T_let 240 (by decide +kernel) ?_
  refine T_if1 (by decide +kernel) ?_
  refine T_leq (fun x21 e22 => ?_)
  have u23 := CI_b c2 (k := 240) (j := 6) bd_240_6
  refine T_if1 (by decide +kernel) ?_
  refine T_nw ?_ (fun h24 h25 => ?_)
  · exact T_ret ⟨CI_up c2 bd_1_15 (z_wb rfl).1, z_Fr.upf (R := R_X11_thick_1) f4 (fun a b h => z_up_k h) (fun b h => z_up_j h) (Or.inr (Or.inr (Or.inr (Or.inr (Or.inr (Or.inr (Or.inr (Or.inr (Or.inl (⟨rfl, by decide⟩)))))))))), Or.inr (y_Uu.fr o7 (z_up_k (by decide)) (z_up_k (by decide)) (fun _ => z_up_k (by decide)) (fun _ => z_up_k (by decide)) (fun _ => z_up_k (by decide)) (fun _ => z_up_k (by decide)) (fun _ => z_up_k (by decide)) (fun _ => z_up_k (by decide)) (fun _ => z_up_k (by decide))), Or.inr (Or.inr rfl)⟩
  refine T_if1 (by decide +kernel) ?_
  refine T_useN (sf_X11_refreshSides_1T hfu s1 c2 (Or.inr o7)) (fun v31 s26 hq => ?_)
  obtain ⟨c27, f28, o32, rfl⟩ := hq
  refine T_vN ?_
  have f29 := z_Fr.tr (R := R_X11_thick_1) f4 f28 rs_X11_refreshSides_1__X11_thick_1
  have t35 : s26 240 6 = s1 240 6 := f28 240 6 (by decide)
  have r36 := y_Uu.fr o7 (f28 191 16 (by decide)) (f28 6 6 (by decide)) (fun b => f28 195 b (nr_X11_refreshSides_1__195 b)) (fun b => f28 197 b (nr_X11_refreshSides_1__197 b)) (fun b => f28 193 b (nr_X11_refreshSides_1__193 b)) (fun b => f28 215 b (nr_X11_refreshSides_1__215 b)) (fun b => f28 8 b (nr_X11_refreshSides_1__8 b)) (fun b => f28 12 b (nr_X11_refreshSides_1__12 b)) (fun b => f28 14 b (nr_X11_refreshSides_1__14 b))
  refine T_if1 (by decide +kernel) ?_
  refine T_let 296 (by decide +kernel) ?_
  refine T_if1 (by decide +kernel) ?_
  refine T_useI (sf_X8_thickOf_296 hfu s26 c27 a1 a2 (by omega) (by omega)) (fun v42 s37 hq => ?_)
  obtain ⟨c38, f39, ⟨x41, rfl, b43, b44⟩⟩ := hq
  refine T_vI ?_
  have f40 := z_Fr.tr (R := R_X11_thick_1) f29 f39 (fun a b h => absurd h not_false)
  have t45 : s37 240 6 = s26 240 6 := f39 240 6 (by decide)
  have r46 := y_Uu.fr r36 (f39 191 16 (by decide)) (f39 6 6 (by decide)) (fun b => f39 195 b (nr_X8_thickOf_296__195 b)) (fun b => f39 197 b (nr_X8_thickOf_296__197 b)) (fun b => f39 193 b (nr_X8_thickOf_296__193 b)) (fun b => f39 215 b (nr_X8_thickOf_296__215 b)) (fun b => f39 8 b (nr_X8_thickOf_296__8 b)) (fun b => f39 12 b (nr_X8_thickOf_296__12 b)) (fun b => f39 14 b (nr_X8_thickOf_296__14 b))
  have r47 := y_V16.fr o32 (f39 1 16 (by decide)) (f39 191 16 (by decide)) (f39 6 6 (by decide)) (fun b => f39 195 b (nr_X8_thickOf_296__195 b)) (fun b => f39 197 b (nr_X8_thickOf_296__197 b)) (fun b => f39 193 b (nr_X8_thickOf_296__193 b)) (fun b => f39 215 b (nr_X8_thickOf_296__215 b)) (fun b => f39 8 b (nr_X8_thickOf_296__8 b)) (fun b => f39 12 b (nr_X8_thickOf_296__12 b)) (fun b => f39 14 b (nr_X8_thickOf_296__14 b))
  exact T_ret ⟨c38, f40, r47, Or.inl (⟨x41, rfl, by omega, by omega⟩)⟩
abbrev P_X11_pages_1T (r0 : z_M) : z_V → z_M → Prop := fun v s' => z_CI s' ∧ z_Fr R_X11_pages_1 r0 s' ∧ (y_V16 s') ∧ ((∃ x, v = vI x ∧ -2147483648 ≤ x ∧ x ≤ 2147483647) ∨ v = vX 1)
theorem nr_X8_pageCount_296__193 (b : Int) : ¬ R_X8_pageCount_296 193 b := not_false
theorem nr_X8_pageCount_296__215 (b : Int) : ¬ R_X8_pageCount_296 215 b := not_false
theorem nr_X8_pageCount_296__8 (b : Int) : ¬ R_X8_pageCount_296 8 b := not_false
theorem nr_X8_pageCount_296__12 (b : Int) : ¬ R_X8_pageCount_296 12 b := not_false
theorem nr_X8_pageCount_296__14 (b : Int) : ¬ R_X8_pageCount_296 14 b := not_false
theorem sf_X11_pages_1T {fu : Nat} (hfu : 8589934592 ≤ fu) (r0 : z_M) (c0 : z_CI r0) (a1 : Int) (b1 : -2147483648 ≤ a1 ∧ a1 ≤ 2147483647) (p0 : y_V16 r0) : z_T (fX11_pages fu r0 1 a1) (P_X11_pages_1T r0) := by
  refine T_of (fX11_pages.eq_1 ..) ?_
  refine T_if1 (by decide +kernel) ?_
  refine T_nw ?_ (fun h1 h2 => ?_)
  · exact T_ret ⟨CI_up c0 bd_1_15 (z_wb rfl).1, z_Fr.upf (R := R_X11_pages_1) z_Fr.rf (fun a b h => z_up_k h) (fun b h => z_up_j h) (Or.inr (Or.inr (Or.inr (Or.inr (Or.inr (Or.inr (Or.inr (Or.inr (Or.inl (⟨rfl, by decide⟩)))))))))), y_V16.fr p0 (z_up_j (by decide)) (z_up_k (by decide)) (z_up_k (by decide)) (fun _ => z_up_k (by decide)) (fun _ => z_up_k (by decide)) (fun _ => z_up_k (by decide)) (fun _ => z_up_k (by decide)) (fun _ => z_up_k (by decide)) (fun _ => z_up_k (by decide)) (fun _ => z_up_k (by decide)), Or.inr rfl⟩
  refine T_if1 (by decide +kernel) ?_
  refine T_useN (sf_X11_refresh_1T hfu r0 c0 p0) (fun v8 s3 hq => ?_)
  obtain ⟨c4, f5, o9, rfl⟩ := hq
  refine T_vN ?_
  have f6 := z_Fr.tr (R := R_X11_pages_1) z_Fr.rf f5 rs_X11_refresh_1__X11_pages_1
  refine T_if1 (by decide +kernel) ?_
  refine T_useN (sf_X11_refreshSides_1T hfu s3 c4 (Or.inr o9)) (fun v17 s12 hq => ?_)
  obtain ⟨c13, f14, o18, rfl⟩ := hq
  refine T_vN ?_
  have f15 := z_Fr.tr (R := R_X11_pages_1) f6 f14 rs_X11_refreshSides_1__X11_pages_1
  have r21 := y_Uu.fr o9 (f14 191 16 (by decide)) (f14 6 6 (by decide)) (fun b => f14 195 b (nr_X11_refreshSides_1__195 b)) (fun b => f14 197 b (nr_X11_refreshSides_1__197 b)) (fun b => f14 193 b (nr_X11_refreshSides_1__193 b)) (fun b => f14 215 b (nr_X11_refreshSides_1__215 b)) (fun b => f14 8 b (nr_X11_refreshSides_1__8 b)) (fun b => f14 12 b (nr_X11_refreshSides_1__12 b)) (fun b => f14 14 b (nr_X11_refreshSides_1__14 b))
  refine T_if1 (by decide +kernel) ?_
  refine T_let 296 (by decide +kernel) ?_
  refine T_if1 (by decide +kernel) ?_
  refine T_useI (sf_X8_pageCount_296 hfu s12 c13 a1 (by omega)) (fun v27 s22 hq => ?_)
  obtain ⟨c23, f24, ⟨x26, rfl, b28, b29⟩⟩ := hq
  refine T_vI ?_
  have f25 := z_Fr.tr (R := R_X11_pages_1) f15 f24 (fun a b h => absurd h not_false)
  have r30 := y_Uu.fr r21 (f24 191 16 (by decide)) (f24 6 6 (by decide)) (fun b => f24 195 b (nr_X8_pageCount_296__195 b)) (fun b => f24 197 b (nr_X8_pageCount_296__197 b)) (fun b => f24 193 b (nr_X8_pageCount_296__193 b)) (fun b => f24 215 b (nr_X8_pageCount_296__215 b)) (fun b => f24 8 b (nr_X8_pageCount_296__8 b)) (fun b => f24 12 b (nr_X8_pageCount_296__12 b)) (fun b => f24 14 b (nr_X8_pageCount_296__14 b))
  have r31 := y_V16.fr o18 (f24 1 16 (by decide)) (f24 191 16 (by decide)) (f24 6 6 (by decide)) (fun b => f24 195 b (nr_X8_pageCount_296__195 b)) (fun b => f24 197 b (nr_X8_pageCount_296__197 b)) (fun b => f24 193 b (nr_X8_pageCount_296__193 b)) (fun b => f24 215 b (nr_X8_pageCount_296__215 b)) (fun b => f24 8 b (nr_X8_pageCount_296__8 b)) (fun b => f24 12 b (nr_X8_pageCount_296__12 b)) (fun b => f24 14 b (nr_X8_pageCount_296__14 b))
  exact T_ret ⟨c23, f25, r31, Or.inl (⟨x26, rfl, by omega, by omega⟩)⟩
abbrev P_X11_page_1T (r0 : z_M) : z_V → z_M → Prop := fun v s' => z_CI s' ∧ z_Fr R_X11_page_1 r0 s' ∧ (y_V16 s') ∧ ((∃ x, v = vI x ∧ -2147483648 ≤ x ∧ x ≤ 2147483647) ∨ v = vX 1)
theorem nr_X8_pageEnd_296__193 (b : Int) : ¬ R_X8_pageEnd_296 193 b := not_false
theorem nr_X8_pageEnd_296__215 (b : Int) : ¬ R_X8_pageEnd_296 215 b := not_false
theorem nr_X8_pageEnd_296__8 (b : Int) : ¬ R_X8_pageEnd_296 8 b := not_false
theorem nr_X8_pageEnd_296__12 (b : Int) : ¬ R_X8_pageEnd_296 12 b := not_false
theorem nr_X8_pageEnd_296__14 (b : Int) : ¬ R_X8_pageEnd_296 14 b := not_false
theorem sl_X11_page_1T_L45 {fu : Nat} (hfu : 8589934592 ≤ fu) (r0 : z_M) (a1 : Int) (a2 : Int) (a3 : Int) (b1 : -2147483648 ≤ a1 ∧ a1 ≤ 2147483647) (b2 : -2147483648 ≤ a2 ∧ a2 ≤ 2147483647) (b3 : -2147483648 ≤ a3 ∧ a3 ≤ 2147483647) {k : z_M → Int → z_O} (hk : ∀ (s' : z_M) (v4 : Int), z_CI s' → z_Fr R_X11_page_1 r0 s' → (0 ≤ v4 ∧ v4 ≤ 201) → (y_V16 s') → z_T (k s' v4) (P_X11_page_1T r0)) : ∀ (F : Nat) (s : z_M) (a4 : Int) (a5 : Int), z_CI s → z_Fr R_X11_page_1 r0 s → (0 ≤ a4 ∧ a4 ≤ 201) → (-2147483648 ≤ a5 ∧ a5 ≤ 2147483647) → (y_V16 s) → (2147483647 - a5 < (F : Int)) → z_T (fX11_page_L45 fu 1 a1 a2 a3 F s a4 a5 k) (P_X11_page_1T r0) := by
  intro F
  induction F with
  | zero =>
    intro s a4 a5 c f b4 b5 i0 hm
    have u23 := CI_b c (k := 240) (j := 6) bd_240_6
    exfalso; omega
  | succ F ih =>
    intro s a4 a5 c f b4 b5 i0 hm
    refine T_of (fX11_page_L45.eq_2 ..) ?_
    have u1 := CI_b c (k := 240) (j := 6) bd_240_6
    refine T_ite (fun h2 => ?_) (fun h2 => ?_)
    · exact hk s a4 c f (by omega) i0
    · refine T_if1 (by decide +kernel) ?_
      refine T_let 240 (by decide +kernel) ?_
      refine T_if1 (by decide +kernel) ?_
      refine T_leq (fun x3 e4 => ?_)
      have u5 := CI_b c (k := 240) (j := 6) bd_240_6
      refine T_ite (fun h6 => ?_) (fun h6 => ?_)
      · exact hk s a4 c f (by omega) i0
      · refine T_if1 (by decide +kernel) ?_
        refine T_let 296 (by decide +kernel) ?_
        refine T_if1 (by decide +kernel) ?_
        refine T_useI (sf_X8_pageEnd_296 hfu s c a4 a1 (by omega) (by omega)) (fun v12 s7 hq => ?_)
        obtain ⟨c8, f9, ⟨x11, rfl, b13, b14⟩⟩ := hq
        refine T_vI ?_
        have f10 := z_Fr.tr (R := R_X11_page_1) f f9 (fun a b h => absurd h not_false)
        have t15 : s7 240 6 = s 240 6 := f9 240 6 (by decide)
        have r16 := y_V16.fr i0 (f9 1 16 (by decide)) (f9 191 16 (by decide)) (f9 6 6 (by decide)) (fun b => f9 195 b (nr_X8_pageEnd_296__195 b)) (fun b => f9 197 b (nr_X8_pageEnd_296__197 b)) (fun b => f9 193 b (nr_X8_pageEnd_296__193 b)) (fun b => f9 215 b (nr_X8_pageEnd_296__215 b)) (fun b => f9 8 b (nr_X8_pageEnd_296__8 b)) (fun b => f9 12 b (nr_X8_pageEnd_296__12 b)) (fun b => f9 14 b (nr_X8_pageEnd_296__14 b))
        refine T_leq (fun x17 e18 => ?_)
        have w19 := z_wb e18
        refine T_leq (fun x20 e21 => ?_)
        have w22 := z_wb e21
        exact ih s7 x17 x20 c8 f10 (by omega) (by omega) r16 (by omega)
theorem sj_X11_page_1T_J144 {fu : Nat} (hfu : 8589934592 ≤ fu) (r0 s : z_M) (c : z_CI s) (f : z_Fr R_X11_page_1 r0 s) (t0 : Int) (d0 : -2147483648 ≤ t0 ∧ t0 ≤ 2147483647) (p0 : y_V16 s) : z_T (fX11_page_J144 fu s t0) (P_X11_page_1T r0) := by
  refine T_of (fX11_page_J144.eq_1 ..) ?_
  have u1 := CI_b c (k := 240) (j := 6) bd_240_6
  exact T_ret ⟨c, f, p0, Or.inl (⟨t0, rfl, by omega, by omega⟩)⟩
theorem sj_X11_page_1T_J83 {fu : Nat} (hfu : 8589934592 ≤ fu) (r0 s : z_M) (c : z_CI s) (f : z_Fr R_X11_page_1 r0 s) (a1 : Int) (a3 : Int) (a4 : Int) (b1 : -2147483648 ≤ a1 ∧ a1 ≤ 2147483647) (b3 : -2147483648 ≤ a3 ∧ a3 ≤ 2147483647) (b4 : 0 ≤ a4 ∧ a4 ≤ 201) (p0 : y_V16 s) : z_T (fX11_page_J83 fu s 1 a1 a3 a4) (P_X11_page_1T r0) := by
  refine T_of (fX11_page_J83.eq_1 ..) ?_
  have u1 := CI_b c (k := 240) (j := 6) bd_240_6
  refine T_if1 (by decide +kernel) ?_
  refine T_let 240 (by decide +kernel) ?_
  refine T_if1 (by decide +kernel) ?_
  refine T_leq (fun x2 e3 => ?_)
  have u4 := CI_b c (k := 240) (j := 6) bd_240_6
  refine T_ite (fun h5 => ?_) (fun h5 => ?_)
  · refine T_if1 (by decide +kernel) ?_
    refine T_let 296 (by decide +kernel) ?_
    refine T_if1 (by decide +kernel) ?_
    refine T_useI (sf_X8_pageEnd_296 hfu s c a4 a1 (by omega) (by omega)) (fun v11 s6 hq => ?_)
    obtain ⟨c7, f8, ⟨x10, rfl, b12, b13⟩⟩ := hq
    refine T_vI ?_
    have f9 := z_Fr.tr (R := R_X11_page_1) f f8 (fun a b h => absurd h not_false)
    have t14 : s6 240 6 = s 240 6 := f8 240 6 (by decide)
    have r15 := y_V16.fr p0 (f8 1 16 (by decide)) (f8 191 16 (by decide)) (f8 6 6 (by decide)) (fun b => f8 195 b (nr_X8_pageEnd_296__195 b)) (fun b => f8 197 b (nr_X8_pageEnd_296__197 b)) (fun b => f8 193 b (nr_X8_pageEnd_296__193 b)) (fun b => f8 215 b (nr_X8_pageEnd_296__215 b)) (fun b => f8 8 b (nr_X8_pageEnd_296__8 b)) (fun b => f8 12 b (nr_X8_pageEnd_296__12 b)) (fun b => f8 14 b (nr_X8_pageEnd_296__14 b))
    refine T_ite (fun h16 => ?_) (fun h16 => ?_)
    · refine T_ite (fun h17 => ?_) (fun h17 => ?_)
      · refine T_if1 (by decide +kernel) ?_
        refine T_let 296 (by decide +kernel) ?_
        refine T_if1 (by decide +kernel) ?_
        refine T_useI (sf_X8_thickOf_296 hfu s6 c7 a4 x10 (by omega) (by omega)) (fun v23 s18 hq => ?_)
        obtain ⟨c19, f20, ⟨x22, rfl, b24, b25⟩⟩ := hq
        refine T_vI ?_
        have f21 := z_Fr.tr (R := R_X11_page_1) f9 f20 (fun a b h => absurd h not_false)
        have t26 : s18 240 6 = s6 240 6 := f20 240 6 (by decide)
        have r27 := y_V16.fr r15 (f20 1 16 (by decide)) (f20 191 16 (by decide)) (f20 6 6 (by decide)) (fun b => f20 195 b (nr_X8_thickOf_296__195 b)) (fun b => f20 197 b (nr_X8_thickOf_296__197 b)) (fun b => f20 193 b (nr_X8_thickOf_296__193 b)) (fun b => f20 215 b (nr_X8_thickOf_296__215 b)) (fun b => f20 8 b (nr_X8_thickOf_296__8 b)) (fun b => f20 12 b (nr_X8_thickOf_296__12 b)) (fun b => f20 14 b (nr_X8_thickOf_296__14 b))
        exact sj_X11_page_1T_J144 hfu r0 s18 c19 f21 x22 (by omega) r27
      · refine T_leq (fun x28 e29 => ?_)
        have w30 := z_wb e29
        refine T_leq (fun x31 e32 => ?_)
        have w33 := z_wb e32
        exact sj_X11_page_1T_J144 hfu r0 s6 c7 f9 x31 (by omega) r15
    · exact sj_X11_page_1T_J144 hfu r0 s6 c7 f9 a4 (by omega) r15
  · exact T_ret ⟨c, f, p0, Or.inl (⟨(-1), rfl, by omega, by omega⟩)⟩
theorem sj_X11_page_1T_J40 {fu : Nat} (hfu : 8589934592 ≤ fu) (r0 s : z_M) (c : z_CI s) (f : z_Fr R_X11_page_1 r0 s) (a1 : Int) (a2 : Int) (a3 : Int) (t0 : Int) (b1 : -2147483648 ≤ a1 ∧ a1 ≤ 2147483647) (b2 : -2147483648 ≤ a2 ∧ a2 ≤ 2147483647) (b3 : -2147483648 ≤ a3 ∧ a3 ≤ 2147483647) (d0 : 0 ≤ t0 ∧ t0 ≤ 200) (p0 : y_V16 s) : z_T (fX11_page_J40 fu s 1 a1 a2 a3 t0) (P_X11_page_1T r0) := by
  refine T_of (fX11_page_J40.eq_1 ..) ?_
  have u1 := CI_b c (k := 240) (j := 6) bd_240_6
  refine sl_X11_page_1T_L45 hfu r0 a1 a2 a3 (by omega) (by omega) (by omega) (fun s2 y5 c3 f4 b6 g7 => ?_) fu s t0 0 c f (by omega) (by omega) p0 (by omega)
  have u8 := CI_b c3 (k := 240) (j := 6) bd_240_6
  exact sj_X11_page_1T_J83 hfu r0 s2 c3 f4 a1 a3 y5 (by omega) (by omega) (by omega) g7
theorem sf_X11_page_1T {fu : Nat} (hfu : 8589934592 ≤ fu) (r0 : z_M) (c0 : z_CI r0) (a1 : Int) (a2 : Int) (a3 : Int) (b1 : -2147483648 ≤ a1 ∧ a1 ≤ 2147483647) (b2 : -2147483648 ≤ a2 ∧ a2 ≤ 2147483647) (b3 : -2147483648 ≤ a3 ∧ a3 ≤ 2147483647) (p0 : y_V16 r0) : z_T (fX11_page fu r0 1 a1 a2 a3) (P_X11_page_1T r0) := by
  refine T_of (fX11_page.eq_1 ..) ?_
  refine T_if1 (by decide +kernel) ?_
  refine T_nw ?_ (fun h1 h2 => ?_)
  · exact T_ret ⟨CI_up c0 bd_1_15 (z_wb rfl).1, z_Fr.upf (R := R_X11_page_1) z_Fr.rf (fun a b h => z_up_k h) (fun b h => z_up_j h) (Or.inr (Or.inr (Or.inr (Or.inr (Or.inr (Or.inr (Or.inr (Or.inr (Or.inl (⟨rfl, by decide⟩)))))))))), y_V16.fr p0 (z_up_j (by decide)) (z_up_k (by decide)) (z_up_k (by decide)) (fun _ => z_up_k (by decide)) (fun _ => z_up_k (by decide)) (fun _ => z_up_k (by decide)) (fun _ => z_up_k (by decide)) (fun _ => z_up_k (by decide)) (fun _ => z_up_k (by decide)) (fun _ => z_up_k (by decide)), Or.inr rfl⟩
  refine T_if1 (by decide +kernel) ?_
  refine T_nw ?_ (fun h3 h4 => ?_)
  · exact T_ret ⟨CI_up c0 bd_1_15 (z_wb rfl).1, z_Fr.upf (R := R_X11_page_1) z_Fr.rf (fun a b h => z_up_k h) (fun b h => z_up_j h) (Or.inr (Or.inr (Or.inr (Or.inr (Or.inr (Or.inr (Or.inr (Or.inr (Or.inl (⟨rfl, by decide⟩)))))))))), y_V16.fr p0 (z_up_j (by decide)) (z_up_k (by decide)) (z_up_k (by decide)) (fun _ => z_up_k (by decide)) (fun _ => z_up_k (by decide)) (fun _ => z_up_k (by decide)) (fun _ => z_up_k (by decide)) (fun _ => z_up_k (by decide)) (fun _ => z_up_k (by decide)) (fun _ => z_up_k (by decide)), Or.inr rfl⟩
  refine T_if1 (by decide +kernel) ?_
  refine T_useN (sf_X11_refresh_1T hfu r0 c0 p0) (fun v10 s5 hq => ?_)
  obtain ⟨c6, f7, o11, rfl⟩ := hq
  refine T_vN ?_
  have f8 := z_Fr.tr (R := R_X11_page_1) z_Fr.rf f7 rs_X11_refresh_1__X11_page_1
  have u14 := CI_b c6 (k := 240) (j := 6) bd_240_6
  refine T_if1 (by decide +kernel) ?_
  refine T_useN (sf_X11_refreshSides_1T hfu s5 c6 (Or.inr o11)) (fun v20 s15 hq => ?_)
  obtain ⟨c16, f17, o21, rfl⟩ := hq
  refine T_vN ?_
  have f18 := z_Fr.tr (R := R_X11_page_1) f8 f17 rs_X11_refreshSides_1__X11_page_1
  have t24 : s15 240 6 = s5 240 6 := f17 240 6 (by decide)
  have r25 := y_Uu.fr o11 (f17 191 16 (by decide)) (f17 6 6 (by decide)) (fun b => f17 195 b (nr_X11_refreshSides_1__195 b)) (fun b => f17 197 b (nr_X11_refreshSides_1__197 b)) (fun b => f17 193 b (nr_X11_refreshSides_1__193 b)) (fun b => f17 215 b (nr_X11_refreshSides_1__215 b)) (fun b => f17 8 b (nr_X11_refreshSides_1__8 b)) (fun b => f17 12 b (nr_X11_refreshSides_1__12 b)) (fun b => f17 14 b (nr_X11_refreshSides_1__14 b))
  refine T_ite (fun h26 => ?_) (fun h26 => ?_)
  · exact sj_X11_page_1T_J40 hfu r0 s15 c16 f18 a1 a2 a3 0 (by omega) (by omega) (by omega) (by omega) o21
  · refine T_if1 (by decide +kernel) ?_
    refine T_let 240 (by decide +kernel) ?_
    refine T_if1 (by decide +kernel) ?_
    refine T_leq (fun x27 e28 => ?_)
    have u29 := CI_b c16 (k := 240) (j := 6) bd_240_6
    exact sj_X11_page_1T_J40 hfu r0 s15 c16 f18 a1 a2 a3 x27 (by omega) (by omega) (by omega) (by omega) o21
abbrev P_X11_narrow_1T (r0 : z_M) : z_V → z_M → Prop := fun v s' => z_CI s' ∧ z_Fr R_X11_narrow_1 r0 s' ∧ (y_V16 s') ∧ ((∃ x, v = vI x ∧ -2147483648 ≤ x ∧ x ≤ 2147483647) ∨ v = vX 1)
theorem sj_X11_narrow_1T_J60 {fu : Nat} (hfu : 8589934592 ≤ fu) (r0 s : z_M) (c : z_CI s) (f : z_Fr R_X11_narrow_1 r0 s) (a1 : Int) (a2 : Int) (a3 : Int) (b1 : -2147483648 ≤ a1 ∧ a1 ≤ 2147483647) (b2 : 12 ≤ a2 ∧ a2 ≤ 10000) (b3 : 12 ≤ a3 ∧ a3 ≤ 10000) (p0 : a2 ≤ a3) (p1 : y_V16 s) (M : Int) (pm : a3 - a2 < M) {r : z_M → Int → Int → z_O} {k : z_M → Int → z_O} (hr : ∀ (s' : z_M) (v2 : Int) (v3 : Int), z_CI s' → z_Fr R_X11_narrow_1 r0 s' → (12 ≤ v2 ∧ v2 ≤ 10000) → (12 ≤ v3 ∧ v3 ≤ 10000) → (v2 ≤ v3) → (y_V16 s') → (v3 - v2 < M) → z_T (r s' v2 v3) (P_X11_narrow_1T r0)) (hk : ∀ (s' : z_M) (v2 : Int), z_CI s' → z_Fr R_X11_narrow_1 r0 s' → (12 ≤ v2 ∧ v2 ≤ 10000) → (y_V16 s') → z_T (k s' v2) (P_X11_narrow_1T r0)) : z_T (fX11_narrow_J60 fu s 1 a1 a2 a3 r k) (P_X11_narrow_1T r0) := by
  refine T_of (fX11_narrow_J60.eq_1 ..) ?_
  exact hr s a2 a3 c f (by omega) (by omega) (by omega) p1 (by omega)
theorem sl_X11_narrow_1T_L24 {fu : Nat} (hfu : 8589934592 ≤ fu) (r0 : z_M) (a1 : Int) (b1 : -2147483648 ≤ a1 ∧ a1 ≤ 2147483647) {k : z_M → Int → z_O} (hk : ∀ (s' : z_M) (v2 : Int), z_CI s' → z_Fr R_X11_narrow_1 r0 s' → (12 ≤ v2 ∧ v2 ≤ 10000) → (y_V16 s') → z_T (k s' v2) (P_X11_narrow_1T r0)) : ∀ (F : Nat) (s : z_M) (a2 : Int) (a3 : Int), z_CI s → z_Fr R_X11_narrow_1 r0 s → (12 ≤ a2 ∧ a2 ≤ 10000) → (12 ≤ a3 ∧ a3 ≤ 10000) → (a2 ≤ a3) → (y_V16 s) → (a3 - a2 < (F : Int)) → z_T (fX11_narrow_L24 fu 1 a1 F s a2 a3 k) (P_X11_narrow_1T r0) := by
  intro F
  induction F with
  | zero =>
    intro s a2 a3 c f b2 b3 i0 i1 hm
    exfalso; omega
  | succ F ih =>
    intro s a2 a3 c f b2 b3 i0 i1 hm
    refine T_of (fX11_narrow_L24.eq_2 ..) ?_
    refine T_ite (fun h1 => ?_) (fun h1 => ?_)
    · exact hk s a2 c f (by omega) i1
    · refine T_leq (fun x2 e3 => ?_)
      have w4 := z_wb e3
      refine T_if1 (by omega) ?_
      refine T_leq (fun x5 e6 => ?_)
      have w7 := z_wb e6
      have w8 := z_td2 (e := x2)
      refine T_if1 (by decide +kernel) ?_
      refine T_let 296 (by decide +kernel) ?_
      refine T_if1 (by decide +kernel) ?_
      refine T_useI (sf_X8_pageCount_296 hfu s c x5 (by omega)) (fun v14 s9 hq => ?_)
      obtain ⟨c10, f11, ⟨x13, rfl, b15, b16⟩⟩ := hq
      refine T_vI ?_
      have f12 := z_Fr.tr (R := R_X11_narrow_1) f f11 (fun a b h => absurd h not_false)
      have r17 := y_V16.fr i1 (f11 1 16 (by decide)) (f11 191 16 (by decide)) (f11 6 6 (by decide)) (fun b => f11 195 b (nr_X8_pageCount_296__195 b)) (fun b => f11 197 b (nr_X8_pageCount_296__197 b)) (fun b => f11 193 b (nr_X8_pageCount_296__193 b)) (fun b => f11 215 b (nr_X8_pageCount_296__215 b)) (fun b => f11 8 b (nr_X8_pageCount_296__8 b)) (fun b => f11 12 b (nr_X8_pageCount_296__12 b)) (fun b => f11 14 b (nr_X8_pageCount_296__14 b))
      refine T_ite (fun h18 => ?_) (fun h18 => ?_)
      · refine T_leq (fun x19 e20 => ?_)
        have w21 := z_wb e20
        exact sj_X11_narrow_1T_J60 hfu r0 s9 c10 f12 a1 x19 a3 (by omega) (by omega) (by omega) (by omega) r17 (a3 - a2) (by omega) (fun s' v2 v3 c' f' w2 w3 z0 z1 pg => ih s' v2 v3 c' f' w2 w3 z0 z1 (by omega)) hk
      · exact sj_X11_narrow_1T_J60 hfu r0 s9 c10 f12 a1 a2 x5 (by omega) (by omega) (by omega) (by omega) r17 (a3 - a2) (by omega) (fun s' v2 v3 c' f' w2 w3 z0 z1 pg => ih s' v2 v3 c' f' w2 w3 z0 z1 (by omega)) hk
theorem sj_X11_narrow_1T_J75 {fu : Nat} (hfu : 8589934592 ≤ fu) (r0 s : z_M) (c : z_CI s) (f : z_Fr R_X11_narrow_1 r0 s) (t0 : Int) (d0 : -2147483648 ≤ t0 ∧ t0 ≤ 2147483647) (p0 : y_V16 s) : z_T (fX11_narrow_J75 fu s t0) (P_X11_narrow_1T r0) := by
  refine T_of (fX11_narrow_J75.eq_1 ..) ?_
  exact T_ret ⟨c, f, p0, Or.inl (⟨t0, rfl, by omega, by omega⟩)⟩
theorem sf_X11_narrow_1T {fu : Nat} (hfu : 8589934592 ≤ fu) (r0 : z_M) (c0 : z_CI r0) (a1 : Int) (b1 : -2147483648 ≤ a1 ∧ a1 ≤ 2147483647) (p0 : y_V16 r0) : z_T (fX11_narrow fu r0 1 a1) (P_X11_narrow_1T r0) := by
  refine T_of (fX11_narrow.eq_1 ..) ?_
  refine T_if1 (by decide +kernel) ?_
  refine T_nw ?_ (fun h1 h2 => ?_)
  · exact T_ret ⟨CI_up c0 bd_1_15 (z_wb rfl).1, z_Fr.upf (R := R_X11_narrow_1) z_Fr.rf (fun a b h => z_up_k h) (fun b h => z_up_j h) (Or.inr (Or.inr (Or.inr (Or.inr (Or.inr (Or.inr (Or.inr (Or.inr (Or.inl (⟨rfl, by decide⟩)))))))))), y_V16.fr p0 (z_up_j (by decide)) (z_up_k (by decide)) (z_up_k (by decide)) (fun _ => z_up_k (by decide)) (fun _ => z_up_k (by decide)) (fun _ => z_up_k (by decide)) (fun _ => z_up_k (by decide)) (fun _ => z_up_k (by decide)) (fun _ => z_up_k (by decide)) (fun _ => z_up_k (by decide)), Or.inr rfl⟩
  refine T_if1 (by decide +kernel) ?_
  refine T_useN (sf_X11_refresh_1T hfu r0 c0 p0) (fun v8 s3 hq => ?_)
  obtain ⟨c4, f5, o9, rfl⟩ := hq
  refine T_vN ?_
  have f6 := z_Fr.tr (R := R_X11_narrow_1) z_Fr.rf f5 rs_X11_refresh_1__X11_narrow_1
  refine T_if1 (by decide +kernel) ?_
  refine T_useN (sf_X11_refreshSides_1T hfu s3 c4 (Or.inr o9)) (fun v17 s12 hq => ?_)
  obtain ⟨c13, f14, o18, rfl⟩ := hq
  refine T_vN ?_
  have f15 := z_Fr.tr (R := R_X11_narrow_1) f6 f14 rs_X11_refreshSides_1__X11_narrow_1
  have r21 := y_Uu.fr o9 (f14 191 16 (by decide)) (f14 6 6 (by decide)) (fun b => f14 195 b (nr_X11_refreshSides_1__195 b)) (fun b => f14 197 b (nr_X11_refreshSides_1__197 b)) (fun b => f14 193 b (nr_X11_refreshSides_1__193 b)) (fun b => f14 215 b (nr_X11_refreshSides_1__215 b)) (fun b => f14 8 b (nr_X11_refreshSides_1__8 b)) (fun b => f14 12 b (nr_X11_refreshSides_1__12 b)) (fun b => f14 14 b (nr_X11_refreshSides_1__14 b))
  refine sl_X11_narrow_1T_L24 hfu r0 a1 (by omega) (fun s22 y25 c23 f24 b26 g27 => ?_) fu s12 12 10000 c13 f15 (by omega) (by omega) (by omega) o18 (by omega)
  refine T_ite (fun h28 => ?_) (fun h28 => ?_)
  · exact sj_X11_narrow_1T_J75 hfu r0 s22 c23 f24 y25 (by omega) g27
  · exact sj_X11_narrow_1T_J75 hfu r0 s22 c23 f24 (-1) (by omega) g27
abbrev P_X11_status_1T (r0 : z_M) : z_V → z_M → Prop := fun v s' => z_CI s' ∧ z_Fr R_X11_status_1 r0 s' ∧ (y_V16 s') ∧ (∃ x, v = vI x ∧ -2147483648 ≤ x ∧ x ≤ 2147483647)
theorem sj_X11_status_1T_J24 {fu : Nat} (hfu : 8589934592 ≤ fu) (r0 s : z_M) (c : z_CI s) (f : z_Fr R_X11_status_1 r0 s) (t0 : Int) (d0 : -2147483648 ≤ t0 ∧ t0 ≤ 2147483647) (p0 : y_V16 s) : z_T (fX11_status_J24 fu s t0) (P_X11_status_1T r0) := by
  refine T_of (fX11_status_J24.eq_1 ..) ?_
  have u1 := CI_b c (k := 1) (j := 14) bd_1_14
  have u2 := CI_b c (k := 1) (j := 15) bd_1_15
  exact T_ret ⟨c, f, p0, ⟨t0, rfl, by omega, by omega⟩⟩
theorem sf_X11_status_1T {fu : Nat} (hfu : 8589934592 ≤ fu) (r0 : z_M) (c0 : z_CI r0) (a1 : Int) (b1 : -2147483648 ≤ a1 ∧ a1 ≤ 2147483647) (p0 : y_V16 r0) : z_T (fX11_status fu r0 1 a1) (P_X11_status_1T r0) := by
  refine T_of (fX11_status.eq_1 ..) ?_
  refine T_ite (fun h1 => ?_) (fun h1 => ?_)
  · refine T_ite (fun h2 => ?_) (fun h2 => ?_)
    · exact sj_X11_status_1T_J24 hfu r0 r0 c0 z_Fr.rf (-1) (by omega) p0
    · refine T_if1 (by decide +kernel) ?_
      refine T_leq (fun x3 e4 => ?_)
      have u5 := CI_b c0 (k := 1) (j := 15) bd_1_15
      exact sj_X11_status_1T_J24 hfu r0 r0 c0 z_Fr.rf x3 (by omega) p0
  · refine T_if1 (by decide +kernel) ?_
    refine T_leq (fun x6 e7 => ?_)
    have u8 := CI_b c0 (k := 1) (j := 14) bd_1_14
    exact sj_X11_status_1T_J24 hfu r0 r0 c0 z_Fr.rf x6 (by omega) p0
abbrev P_X11_cut_1T (r0 : z_M) : z_V → z_M → Prop := fun v s' => z_CI s' ∧ z_Fr R_X11_cut_1 r0 s' ∧ (y_V16 s') ∧ ((∃ x, v = vI x ∧ -2147483648 ≤ x ∧ x ≤ 2147483647) ∨ v = vX 0 ∨ v = vX 1)
theorem nr_X9_drop_6__193 (b : Int) : ¬ R_X9_drop_6 193 b := by
  unfold R_X9_drop_6; omega
theorem nr_X9_drop_6__215 (b : Int) : ¬ R_X9_drop_6 215 b := by
  unfold R_X9_drop_6; omega
theorem sf_X11_cut_1T {fu : Nat} (hfu : 8589934592 ≤ fu) (r0 : z_M) (c0 : z_CI r0) (a1 : Int) (a2 : Int) (b1 : -2147483648 ≤ a1 ∧ a1 ≤ 2147483647) (b2 : -2147483648 ≤ a2 ∧ a2 ≤ 2147483647) (p0 : y_V16 r0) : z_T (fX11_cut fu r0 1 a1 a2) (P_X11_cut_1T r0) := by
  refine T_of (fX11_cut.eq_1 ..) ?_
  refine T_if1 (by decide +kernel) ?_
  refine T_useN (sf_X11_refresh_1T hfu r0 c0 p0) (fun v6 s1 hq => ?_)
  obtain ⟨c2, f3, o7, rfl⟩ := hq
  refine T_vN ?_
  have f4 := z_Fr.tr (R := R_X11_cut_1) z_Fr.rf f3 rs_X11_refresh_1__X11_cut_1
  have u10 := CI_b c2 (k := 191) (j := 16) bd_191_16
  refine T_if1 (by decide +kernel) ?_
  refine T_let 191 (by decide +kernel) ?_
  refine T_if1 (by decide +kernel) ?_
  refine T_leq (fun x11 e12 => ?_)
  have u13 := CI_b c2 (k := 191) (j := 16) bd_191_16
  refine T_if1 (by decide +kernel) ?_
  refine T_ne ?_ (fun h14 h15 => ?_)
  · exact T_ret ⟨CI_up c2 bd_1_14 (z_wb rfl).1, z_Fr.upf (R := R_X11_cut_1) f4 (fun a b h => z_up_k h) (fun b h => z_up_j h) (Or.inr (Or.inr (Or.inr (Or.inr (Or.inr (Or.inr (Or.inr (Or.inr (Or.inr (Or.inl (⟨rfl, by decide⟩))))))))))), Or.inr (y_Uu.fr o7 (z_up_k (by decide)) (z_up_k (by decide)) (fun _ => z_up_k (by decide)) (fun _ => z_up_k (by decide)) (fun _ => z_up_k (by decide)) (fun _ => z_up_k (by decide)) (fun _ => z_up_k (by decide)) (fun _ => z_up_k (by decide)) (fun _ => z_up_k (by decide))), Or.inr (Or.inl rfl)⟩
  refine T_if1 (by decide +kernel) ?_
  refine T_let 191 (by decide +kernel) ?_
  refine T_if1 (by decide +kernel) ?_
  refine T_leq (fun x16 e17 => ?_)
  have u18 := CI_b c2 (k := 191) (j := 16) bd_191_16
  refine T_if1 (by decide +kernel) ?_
  refine T_ne ?_ (fun h19 h20 => ?_)
  · exact T_ret ⟨CI_up c2 bd_1_14 (z_wb rfl).1, z_Fr.upf (R := R_X11_cut_1) f4 (fun a b h => z_up_k h) (fun b h => z_up_j h) (Or.inr (Or.inr (Or.inr (Or.inr (Or.inr (Or.inr (Or.inr (Or.inr (Or.inr (Or.inl (⟨rfl, by decide⟩))))))))))), Or.inr (y_Uu.fr o7 (z_up_k (by decide)) (z_up_k (by decide)) (fun _ => z_up_k (by decide)) (fun _ => z_up_k (by decide)) (fun _ => z_up_k (by decide)) (fun _ => z_up_k (by decide)) (fun _ => z_up_k (by decide)) (fun _ => z_up_k (by decide)) (fun _ => z_up_k (by decide))), Or.inr (Or.inl rfl)⟩
  refine T_if1 (by decide +kernel) ?_
  refine T_let 191 (by decide +kernel) ?_
  refine T_if1 (by decide +kernel) ?_
  refine T_leq (fun x21 e22 => ?_)
  have u23 := CI_b c2 (k := 191) (j := 16) bd_191_16
  refine T_if1 (by decide +kernel) ?_
  refine T_nw ?_ (fun h24 h25 => ?_)
  · exact T_ret ⟨CI_up c2 bd_1_15 (z_wb rfl).1, z_Fr.upf (R := R_X11_cut_1) f4 (fun a b h => z_up_k h) (fun b h => z_up_j h) (Or.inr (Or.inr (Or.inr (Or.inr (Or.inr (Or.inr (Or.inr (Or.inr (Or.inr (Or.inl (⟨rfl, by decide⟩))))))))))), Or.inr (y_Uu.fr o7 (z_up_k (by decide)) (z_up_k (by decide)) (fun _ => z_up_k (by decide)) (fun _ => z_up_k (by decide)) (fun _ => z_up_k (by decide)) (fun _ => z_up_k (by decide)) (fun _ => z_up_k (by decide)) (fun _ => z_up_k (by decide)) (fun _ => z_up_k (by decide))), Or.inr (Or.inr rfl)⟩
  refine T_if1 (by decide +kernel) ?_
  refine T_let 33 (by decide +kernel) ?_
  refine T_if1 (by decide +kernel) ?_
  refine T_let 6 (by decide +kernel) ?_
  refine T_if1 (by decide +kernel) ?_
  refine T_useN (sf_X2_keep_33_6 hfu s1 c2) (fun v31 s26 hq => ?_)
  obtain ⟨c27, f28, rfl⟩ := hq
  refine T_vN ?_
  have f29 := z_Fr.tr (R := R_X11_cut_1) f4 f28 rs_X2_keep_33_6__X11_cut_1
  have t34 : s26 191 16 = s1 191 16 := f28 191 16 (by decide)
  have r35 := y_Uu.fr o7 (f28 191 16 (by decide)) (f28 6 6 (by decide)) (fun b => f28 195 b (nr_X2_keep_33_6__195 b)) (fun b => f28 197 b (nr_X2_keep_33_6__197 b)) (fun b => f28 193 b (nr_X2_keep_33_6__193 b)) (fun b => f28 215 b (nr_X2_keep_33_6__215 b)) (fun b => f28 8 b (nr_X2_keep_33_6__8 b)) (fun b => f28 12 b (nr_X2_keep_33_6__12 b)) (fun b => f28 14 b (nr_X2_keep_33_6__14 b))
  refine T_if1 (by decide +kernel) ?_
  refine T_let 6 (by decide +kernel) ?_
  refine T_if1 (by decide +kernel) ?_
  refine T_let 191 (by decide +kernel) ?_
  refine T_if1 (by decide +kernel) ?_
  refine T_let 194 (by decide +kernel) ?_
  refine T_if1 (by decide +kernel) ?_
  refine T_get (by decide +kernel) (c := 195) (by decide +kernel) bdr_195 (by decide) c27 (fun x36 e37 b38 w39 => ?_)
  have l40 : z_ln 194 = 200 := by decide +kernel
  refine T_if1 (by decide +kernel) ?_
  refine T_let 191 (by decide +kernel) ?_
  refine T_if1 (by decide +kernel) ?_
  refine T_let 194 (by decide +kernel) ?_
  refine T_if1 (by decide +kernel) ?_
  refine T_get (by decide +kernel) (c := 195) (by decide +kernel) bdr_195 (by decide) c27 (fun x41 e42 b43 w44 => ?_)
  have l45 : z_ln 194 = 200 := by decide +kernel
  refine T_if1 (by decide +kernel) ?_
  refine T_let 191 (by decide +kernel) ?_
  refine T_if1 (by decide +kernel) ?_
  refine T_let 196 (by decide +kernel) ?_
  refine T_if1 (by decide +kernel) ?_
  refine T_get (by decide +kernel) (c := 197) (by decide +kernel) bdr_197 (by decide) c27 (fun x46 e47 b48 w49 => ?_)
  have l50 : z_ln 196 = 200 := by decide +kernel
  refine T_leq (fun x51 e52 => ?_)
  have w53 := z_wb e52
  refine T_if1 (by decide +kernel) ?_
  have gd := CI_b c27 (k := 6) (j := 6) bd_6_6
  have ga := r35.1.1 a1 (by omega) (by omega)
  have gb := r35.1.1 a2 (by omega) (by omega)
  have gc := r35.1.2 a1 a2 (by omega) (by omega) (by omega)
  have qa : x36 = s26 195 a1 := by rw [← e37, z_rg_in ⟨by omega, by rw [l40]; omega⟩, show z_gr 194 0 = 195 by decide +kernel]
  have qb : x41 = s26 195 a2 := by rw [← e42, z_rg_in ⟨by omega, by rw [l45]; omega⟩, show z_gr 194 0 = 195 by decide +kernel]
  have qc : x46 = s26 197 a2 := by rw [← e47, z_rg_in ⟨by omega, by rw [l50]; omega⟩, show z_gr 196 0 = 197 by decide +kernel]
  refine T_useN (sf_X9_drop_6 hfu s26 c27 x36 x51 (by omega) (by omega) (by omega) (by omega) (by omega)) (fun v59 s54 hq => ?_)
  obtain ⟨c55, f56, rfl⟩ := hq
  refine T_vN ?_
  have f57 := z_Fr.tr (R := R_X11_cut_1) f29 f56 rs_X9_drop_6__X11_cut_1
  have t62 : s54 191 16 = s26 191 16 := f56 191 16 (by decide)
  refine T_if1 ⟨(by decide +kernel), by unfold z_bl; omega⟩ ?_
  refine T_upg c55 bd_1_16 (by omega) (fun s63 c64 g66 g67 e68 => ?_)
  have f65 := z_Fr.upf (R := R_X11_cut_1) f57 g66 g67 (Or.inr (Or.inr (Or.inr (Or.inr (Or.inr (Or.inr (Or.inr (Or.inr (Or.inr (Or.inl (⟨rfl, by decide⟩)))))))))))
  have t69 : s63 191 16 = s54 191 16 := g66 191 16 (by decide)
  refine T_if1 (by decide +kernel) ?_
  refine T_useN (sf_X11_refresh_1T hfu s63 c64 (Or.inl (by omega))) (fun v75 s70 hq => ?_)
  obtain ⟨c71, f72, o76, rfl⟩ := hq
  refine T_vN ?_
  have f73 := z_Fr.tr (R := R_X11_cut_1) f65 f72 rs_X11_refresh_1__X11_cut_1
  have u79 := CI_b c71 (k := 191) (j := 16) bd_191_16
  refine T_if1 (by decide +kernel) ?_
  refine T_let 191 (by decide +kernel) ?_
  refine T_if1 (by decide +kernel) ?_
  refine T_leq (fun x80 e81 => ?_)
  have u82 := CI_b c71 (k := 191) (j := 16) bd_191_16
  exact T_ret ⟨c71, f73, (Or.inr o76), Or.inl (⟨x80, rfl, by omega, by omega⟩)⟩
