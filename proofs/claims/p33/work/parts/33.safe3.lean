/-! SAFETY, further (by program) -/
abbrev R_X11_tapeNumber_1 (a b : Int) : Prop := (5 ≤ a ∧ a ≤ 5) ∨ (a = 1 ∧ (b = 12))
abbrev P_X11_tapeNumber_1 (r0 : z_M) : z_V → z_M → Prop := fun v s' => z_CI s' ∧ z_Fr R_X11_tapeNumber_1 r0 s' ∧ (s' 1 12 = r0 1 12 + 4) ∧ (z_V16 s') ∧ (v = vN)
theorem sl_X11_tapeNumber_1_L3 {fu : Nat} (hfu : 8589934592 ≤ fu) (r0 : z_M) (a1 : Int) (b1 : -2147483648 ≤ a1 ∧ a1 ≤ 2147483647) (q0 : r0 1 12 ≤ 296) {k : z_M → z_O} (hk : ∀ (s' : z_M), z_CI s' → z_Fr R_X11_tapeNumber_1 r0 s' → (8 * s' 1 12 = 8 * r0 1 12 + 32) → (z_V16 s') → z_T (k s') (P_X11_tapeNumber_1 r0)) : ∀ (F : Nat) (s : z_M) (a2 : Int), z_CI s → z_Fr R_X11_tapeNumber_1 r0 s → ((-8) ≤ a2 ∧ a2 ≤ 24) → (8 * s 1 12 + a2 = 8 * r0 1 12 + 24) → (z_V16 s) → (a2 + 2147483648 < (F : Int)) → z_T (fX11_tapeNumber_L3 fu 1 a1 F s a2 k) (P_X11_tapeNumber_1 r0) := by
  intro F
  induction F with
  | zero =>
    intro s a2 c f b2 i0 i1 hm
    have u38 := CI_b c (k := 1) (j := 12) bd_1_12
    have u39 := CI_b c (k := 1) (j := 16) bd_1_16
    exfalso; omega
  | succ F ih =>
    intro s a2 c f b2 i0 i1 hm
    refine T_of (fX11_tapeNumber_L3.eq_2 ..) ?_
    have u1 := CI_b c (k := 1) (j := 12) bd_1_12
    have u2 := CI_b c (k := 1) (j := 16) bd_1_16
    refine T_ite (fun h3 => ?_) (fun h3 => ?_)
    · exact hk s c f (by omega) i1
    · refine T_if1 (by decide +kernel) ?_
      refine T_let 4 (by decide +kernel) ?_
      refine T_if1 (by decide +kernel) ?_
      refine T_leq (fun x4 e5 => ?_)
      have u6 := CI_b c (k := 1) (j := 12) bd_1_12
      refine T_leq (fun x7 e8 => ?_)
      have w9 : -2147483648 ≤ x7 ∧ x7 ≤ 2147483647 := by rw [← e8]; exact z_i32b _
      refine T_leq (fun x10 e11 => ?_)
      have w12 : -2147483648 ≤ x10 ∧ x10 ≤ 2147483647 := by rw [← e11]; exact z_i32b _
      refine T_if1 (by decide +kernel) ?_
      refine T_put (by decide +kernel) (c := 5) (by decide +kernel) bdr_5 (by omega) c (fun s13 e16 c14 g17 => ?_)
      have f15 := z_Fr.up (R := R_X11_tapeNumber_1) f g17 (fun _ => (Or.inl (⟨by decide, by decide⟩)))
      have t18 : s13 1 12 = s 1 12 := g17 1 12 (by decide)
      have t19 : s13 1 16 = s 1 16 := g17 1 16 (by decide)
      have r20 := z_V16.fr i1 (g17 1 16 (by decide)) (g17 191 16 (by decide)) (g17 6 6 (by decide)) (fun b => g17 195 b (by decide)) (fun b => g17 197 b (by decide))
      refine T_if1 (by decide +kernel) ?_
      refine T_leq (fun x21 e22 => ?_)
      have u23 := CI_b c14 (k := 1) (j := 12) bd_1_12
      refine T_leq (fun x24 e25 => ?_)
      have w26 := z_wb e25
      refine T_if1 (by decide +kernel) ?_
      refine T_upg c14 bd_1_12 (by omega) (fun s27 c28 g30 g31 e32 => ?_)
      have f29 := z_Fr.upf (R := R_X11_tapeNumber_1) f15 g30 g31 (Or.inr (⟨rfl, by decide⟩))
      have t33 : s27 1 16 = s13 1 16 := g31 16 (by decide)
      have r34 := z_V16.fr r20 (g31 16 (by decide)) (g30 191 16 (by decide)) (g30 6 6 (by decide)) (fun b => g30 195 b (by decide)) (fun b => g30 197 b (by decide))
      refine T_leq (fun x35 e36 => ?_)
      have w37 := z_wb e36
      exact ih s27 x35 c28 f29 (by omega) (by omega) r34 (by omega)
theorem sf_X11_tapeNumber_1 {fu : Nat} (hfu : 8589934592 ≤ fu) (r0 : z_M) (c0 : z_CI r0) (a1 : Int) (b1 : -2147483648 ≤ a1 ∧ a1 ≤ 2147483647) (p0 : r0 1 12 ≤ 296) (p1 : z_V16 r0) : z_T (fX11_tapeNumber fu r0 1 a1) (P_X11_tapeNumber_1 r0) := by
  refine T_of (fX11_tapeNumber.eq_1 ..) ?_
  refine sl_X11_tapeNumber_1_L3 hfu r0 a1 (by omega) (by omega) (fun s1 c2 f3 g4 g5 => ?_) fu r0 24 c0 z_Fr.rf (by omega) (by omega) p1 (by omega)
  have u6 := CI_b c2 (k := 1) (j := 12) bd_1_12
  have u7 := CI_b c2 (k := 1) (j := 16) bd_1_16
  exact T_ret ⟨c2, f3, by omega, g5, rfl⟩
abbrev R_X11_feed_1 (a b : Int) : Prop := (5 ≤ a ∧ a ≤ 5) ∨ (a = 1 ∧ (b = 12))
abbrev P_X11_feed_1 (r0 : z_M) : z_V → z_M → Prop := fun v s' => z_CI s' ∧ z_Fr R_X11_feed_1 r0 s' ∧ (z_V16 s') ∧ (∃ x, v = vI x ∧ -2147483648 ≤ x ∧ x ≤ 2147483647 ∧ ((r0 1 12 ≤ 280 ∧ s' 1 12 = r0 1 12 + 20 ∧ x = r0 1 12 + 20) ∨ (280 < r0 1 12 ∧ x = -1 ∧ s' 1 12 = r0 1 12)))
theorem rs_X11_tapeNumber_1__X11_feed_1 (a b : Int) (h : R_X11_tapeNumber_1 a b) : R_X11_feed_1 a b := (h.elim (fun h => (Or.inl (⟨by omega, by omega⟩))) (fun h => (Or.inr (⟨h.1, by omega⟩))))
theorem nr_X11_tapeNumber_1__195 (b : Int) : ¬ R_X11_tapeNumber_1 195 b := by
  unfold R_X11_tapeNumber_1; omega
theorem nr_X11_tapeNumber_1__197 (b : Int) : ¬ R_X11_tapeNumber_1 197 b := by
  unfold R_X11_tapeNumber_1; omega
theorem sf_X11_feed_1 {fu : Nat} (hfu : 8589934592 ≤ fu) (r0 : z_M) (c0 : z_CI r0) (a1 : Int) (a2 : Int) (a3 : Int) (a4 : Int) (a5 : Int) (b1 : -2147483648 ≤ a1 ∧ a1 ≤ 2147483647) (b2 : -2147483648 ≤ a2 ∧ a2 ≤ 2147483647) (b3 : -2147483648 ≤ a3 ∧ a3 ≤ 2147483647) (b4 : -2147483648 ≤ a4 ∧ a4 ≤ 2147483647) (b5 : -2147483648 ≤ a5 ∧ a5 ≤ 2147483647) (p0 : z_V16 r0) : z_T (fX11_feed fu r0 1 a1 a2 a3 a4 a5) (P_X11_feed_1 r0) := by
  refine T_of (fX11_feed.eq_1 ..) ?_
  refine T_if1 (by decide +kernel) ?_
  refine T_leq (fun x1 e2 => ?_)
  have u3 := CI_b c0 (k := 1) (j := 12) bd_1_12
  refine T_ite (fun h4 => ?_) (fun h4 => ?_)
  · refine T_if1 (by decide +kernel) ?_
    refine T_useN (sf_X11_tapeNumber_1 hfu r0 c0 a1 (by omega) (by omega) p0) (fun v10 s5 hq => ?_)
    obtain ⟨c6, f7, o11, o12, rfl⟩ := hq
    refine T_vN ?_
    have f8 := z_Fr.tr (R := R_X11_feed_1) z_Fr.rf f7 rs_X11_tapeNumber_1__X11_feed_1
    have u15 := CI_b c6 (k := 1) (j := 12) bd_1_12
    have r16 := z_V16.fr p0 (f7 1 16 (by decide)) (f7 191 16 (by decide)) (f7 6 6 (by decide)) (fun b => f7 195 b (nr_X11_tapeNumber_1__195 b)) (fun b => f7 197 b (nr_X11_tapeNumber_1__197 b))
    refine T_if1 (by decide +kernel) ?_
    refine T_useN (sf_X11_tapeNumber_1 hfu s5 c6 a2 (by omega) (by omega) o12) (fun v22 s17 hq => ?_)
    obtain ⟨c18, f19, o23, o24, rfl⟩ := hq
    refine T_vN ?_
    have f20 := z_Fr.tr (R := R_X11_feed_1) f8 f19 rs_X11_tapeNumber_1__X11_feed_1
    have u27 := CI_b c18 (k := 1) (j := 12) bd_1_12
    have r28 := z_V16.fr o12 (f19 1 16 (by decide)) (f19 191 16 (by decide)) (f19 6 6 (by decide)) (fun b => f19 195 b (nr_X11_tapeNumber_1__195 b)) (fun b => f19 197 b (nr_X11_tapeNumber_1__197 b))
    refine T_if1 (by decide +kernel) ?_
    refine T_useN (sf_X11_tapeNumber_1 hfu s17 c18 a3 (by omega) (by omega) o24) (fun v34 s29 hq => ?_)
    obtain ⟨c30, f31, o35, o36, rfl⟩ := hq
    refine T_vN ?_
    have f32 := z_Fr.tr (R := R_X11_feed_1) f20 f31 rs_X11_tapeNumber_1__X11_feed_1
    have u39 := CI_b c30 (k := 1) (j := 12) bd_1_12
    have r40 := z_V16.fr o24 (f31 1 16 (by decide)) (f31 191 16 (by decide)) (f31 6 6 (by decide)) (fun b => f31 195 b (nr_X11_tapeNumber_1__195 b)) (fun b => f31 197 b (nr_X11_tapeNumber_1__197 b))
    refine T_if1 (by decide +kernel) ?_
    refine T_useN (sf_X11_tapeNumber_1 hfu s29 c30 a4 (by omega) (by omega) o36) (fun v46 s41 hq => ?_)
    obtain ⟨c42, f43, o47, o48, rfl⟩ := hq
    refine T_vN ?_
    have f44 := z_Fr.tr (R := R_X11_feed_1) f32 f43 rs_X11_tapeNumber_1__X11_feed_1
    have u51 := CI_b c42 (k := 1) (j := 12) bd_1_12
    have r52 := z_V16.fr o36 (f43 1 16 (by decide)) (f43 191 16 (by decide)) (f43 6 6 (by decide)) (fun b => f43 195 b (nr_X11_tapeNumber_1__195 b)) (fun b => f43 197 b (nr_X11_tapeNumber_1__197 b))
    refine T_if1 (by decide +kernel) ?_
    refine T_useN (sf_X11_tapeNumber_1 hfu s41 c42 a5 (by omega) (by omega) o48) (fun v58 s53 hq => ?_)
    obtain ⟨c54, f55, o59, o60, rfl⟩ := hq
    refine T_vN ?_
    have f56 := z_Fr.tr (R := R_X11_feed_1) f44 f55 rs_X11_tapeNumber_1__X11_feed_1
    have u63 := CI_b c54 (k := 1) (j := 12) bd_1_12
    have r64 := z_V16.fr o48 (f55 1 16 (by decide)) (f55 191 16 (by decide)) (f55 6 6 (by decide)) (fun b => f55 195 b (nr_X11_tapeNumber_1__195 b)) (fun b => f55 197 b (nr_X11_tapeNumber_1__197 b))
    refine T_if1 (by decide +kernel) ?_
    refine T_leq (fun x65 e66 => ?_)
    have u67 := CI_b c54 (k := 1) (j := 12) bd_1_12
    exact T_ret ⟨c54, f56, o60, ⟨x65, rfl, by omega, by omega, by omega⟩⟩
  · exact T_ret ⟨c0, z_Fr.rf, p0, ⟨(-1), rfl, by omega, by omega, by omega⟩⟩
abbrev R_X11_readTape_1 (a b : Int) : Prop := (8 ≤ a ∧ a ≤ 18) ∨ (21 ≤ a ∧ a ≤ 190) ∨ (a = 1 ∧ (b = 12 ∨ b = 13 ∨ b = 16)) ∨ (a = 6 ∧ (b = 6 ∨ b = 7 ∨ b = 8)) ∨ (a = 19 ∧ (b = 6 ∨ b = 7 ∨ b = 8)) ∨ (a = 32 ∧ (b = 1 ∨ b = 2 ∨ b = 3 ∨ b = 4 ∨ b = 5 ∨ b = 6 ∨ b = 7))
abbrev P_X11_readTape_1 (r0 : z_M) : z_V → z_M → Prop := fun v s' => z_CI s' ∧ z_Fr R_X11_readTape_1 r0 s' ∧ (z_V16 s') ∧ (s' 1 12 = 0) ∧ (∃ x, v = vI x ∧ -2147483648 ≤ x ∧ x ≤ 2147483647)
theorem rs_X6_read_32_4__X11_readTape_1 (a b : Int) (h : R_X6_read_32_4 a b) : R_X11_readTape_1 a b := (h.elim (fun h => (Or.inr (Or.inl (⟨by omega, by omega⟩)))) (fun h => (h.elim (fun h => (Or.inr (Or.inr (Or.inr (Or.inr (Or.inl (⟨h.1, by omega⟩))))))) (fun h => (Or.inr (Or.inl (⟨by omega, by omega⟩)))))))
theorem nr_X6_read_32_4__195 (b : Int) : ¬ R_X6_read_32_4 195 b := by
  unfold R_X6_read_32_4; omega
theorem nr_X6_read_32_4__197 (b : Int) : ¬ R_X6_read_32_4 197 b := by
  unfold R_X6_read_32_4; omega
theorem sj_X11_readTape_1_J68 {fu : Nat} (hfu : 8589934592 ≤ fu) (r0 s : z_M) (c : z_CI s) (f : z_Fr R_X11_readTape_1 r0 s) (a2 : Int) (b2 : -2147483648 ≤ a2 ∧ a2 ≤ 2147483647) (p0 : s 1 12 = 0) (p1 : z_V16 s) : z_T (fX11_readTape_J68 fu s a2) (P_X11_readTape_1 r0) := by
  refine T_of (fX11_readTape_J68.eq_1 ..) ?_
  have u1 := CI_b c (k := 1) (j := 12) bd_1_12
  have u2 := CI_b c (k := 32) (j := 7) bd_32_7
  exact T_ret ⟨c, f, p1, by omega, ⟨a2, rfl, by omega, by omega⟩⟩
theorem rs_X2_keep_33_6__X11_readTape_1 (a b : Int) (h : R_X2_keep_33_6 a b) : R_X11_readTape_1 a b := (Or.inr (Or.inl (⟨by omega, by omega⟩)))
theorem nr_X2_keep_33_6__195 (b : Int) : ¬ R_X2_keep_33_6 195 b := by
  unfold R_X2_keep_33_6; omega
theorem nr_X2_keep_33_6__197 (b : Int) : ¬ R_X2_keep_33_6 197 b := by
  unfold R_X2_keep_33_6; omega
theorem rs_X9_copyFrom_6_19__X11_readTape_1 (a b : Int) (h : R_X9_copyFrom_6_19 a b) : R_X11_readTape_1 a b := (h.elim (fun h => (Or.inl (⟨by omega, by omega⟩))) (fun h => (Or.inr (Or.inr (Or.inr (Or.inl (⟨h.1, by omega⟩)))))))
theorem nr_X9_copyFrom_6_19__195 (b : Int) : ¬ R_X9_copyFrom_6_19 195 b := by
  unfold R_X9_copyFrom_6_19; omega
theorem nr_X9_copyFrom_6_19__197 (b : Int) : ¬ R_X9_copyFrom_6_19 197 b := by
  unfold R_X9_copyFrom_6_19; omega
theorem sj_X11_readTape_1_J29 {fu : Nat} (hfu : 8589934592 ≤ fu) (r0 s : z_M) (c : z_CI s) (f : z_Fr R_X11_readTape_1 r0 s) (a2 : Int) (t1 : Int) (b2 : -2147483648 ≤ a2 ∧ a2 ≤ 2147483647) (d1 : -2147483648 ≤ t1 ∧ t1 ≤ 2147483647) (p0 : z_V16 s) : z_T (fX11_readTape_J29 fu s 1 a2 1 t1) (P_X11_readTape_1 r0) := by
  refine T_of (fX11_readTape_J29.eq_1 ..) ?_
  have u1 := CI_b c (k := 1) (j := 12) bd_1_12
  have u2 := CI_b c (k := 32) (j := 7) bd_32_7
  refine T_if1 (by decide +kernel) ?_
  refine T_upg c bd_1_13 (by omega) (fun s3 c4 g6 g7 e8 => ?_)
  have f5 := z_Fr.upf (R := R_X11_readTape_1) f g6 g7 (Or.inr (Or.inr (Or.inl (⟨rfl, by decide⟩))))
  have t9 : s3 1 12 = s 1 12 := g7 12 (by decide)
  have t10 : s3 32 7 = s 32 7 := g6 32 7 (by decide)
  have r11 := z_V16.fr p0 (g7 16 (by decide)) (g6 191 16 (by decide)) (g6 6 6 (by decide)) (fun b => g6 195 b (by decide)) (fun b => g6 197 b (by decide))
  refine T_if1 (by decide +kernel) ?_
  refine T_upg c4 bd_1_12 (by omega) (fun s12 c13 g15 g16 e17 => ?_)
  have f14 := z_Fr.upf (R := R_X11_readTape_1) f5 g15 g16 (Or.inr (Or.inr (Or.inl (⟨rfl, by decide⟩))))
  have t18 : s12 32 7 = s3 32 7 := g15 32 7 (by decide)
  have r19 := z_V16.fr r11 (g16 16 (by decide)) (g15 191 16 (by decide)) (g15 6 6 (by decide)) (fun b => g15 195 b (by decide)) (fun b => g15 197 b (by decide))
  refine T_ite (fun h20 => ?_) (fun h20 => ?_)
  · exact sj_X11_readTape_1_J68 hfu r0 s12 c13 f14 a2 (by omega) (by omega) r19
  · refine T_if1 (by decide +kernel) ?_
    refine T_let 33 (by decide +kernel) ?_
    refine T_if1 (by decide +kernel) ?_
    refine T_let 6 (by decide +kernel) ?_
    refine T_if1 (by decide +kernel) ?_
    refine T_useN (sf_X2_keep_33_6 hfu s12 c13) (fun v26 s21 hq => ?_)
    obtain ⟨c22, f23, rfl⟩ := hq
    refine T_vN ?_
    have f24 := z_Fr.tr (R := R_X11_readTape_1) f14 f23 rs_X2_keep_33_6__X11_readTape_1
    have t29 : s21 1 12 = s12 1 12 := f23 1 12 (by decide)
    have t30 : s21 32 7 = s12 32 7 := f23 32 7 (by decide)
    have r31 := z_V16.fr r19 (f23 1 16 (by decide)) (f23 191 16 (by decide)) (f23 6 6 (by decide)) (fun b => f23 195 b (nr_X2_keep_33_6__195 b)) (fun b => f23 197 b (nr_X2_keep_33_6__197 b))
    refine T_if1 (by decide +kernel) ?_
    refine T_let 6 (by decide +kernel) ?_
    refine T_if1 (by decide +kernel) ?_
    refine T_let 19 (by decide +kernel) ?_
    refine T_if1 (by decide +kernel) ?_
    refine T_useN (sf_X9_copyFrom_6_19 hfu s21 c22) (fun v37 s32 hq => ?_)
    obtain ⟨c33, f34, rfl⟩ := hq
    refine T_vN ?_
    have f35 := z_Fr.tr (R := R_X11_readTape_1) f24 f34 rs_X9_copyFrom_6_19__X11_readTape_1
    have t40 : s32 1 12 = s21 1 12 := f34 1 12 (by decide)
    have t41 : s32 32 7 = s21 32 7 := f34 32 7 (by decide)
    refine T_if1 ⟨(by decide +kernel), by unfold z_bl; omega⟩ ?_
    refine T_upg c33 bd_1_16 (by omega) (fun s42 c43 g45 g46 e47 => ?_)
    have f44 := z_Fr.upf (R := R_X11_readTape_1) f35 g45 g46 (Or.inr (Or.inr (Or.inl (⟨rfl, by decide⟩))))
    have t48 : s42 1 12 = s32 1 12 := g46 12 (by decide)
    have t49 : s42 32 7 = s32 32 7 := g45 32 7 (by decide)
    exact sj_X11_readTape_1_J68 hfu r0 s42 c43 f44 a2 (by omega) (by omega) (Or.inl (by omega))
theorem sf_X11_readTape_1 {fu : Nat} (hfu : 8589934592 ≤ fu) (r0 : z_M) (c0 : z_CI r0) (a1 : Int) (b1 : -2147483648 ≤ a1 ∧ a1 ≤ 2147483647) (p0 : z_V16 r0) : z_T (fX11_readTape fu r0 1 a1) (P_X11_readTape_1 r0) := by
  refine T_of (fX11_readTape.eq_1 ..) ?_
  refine T_if1 (by decide +kernel) ?_
  refine T_let 32 (by decide +kernel) ?_
  refine T_if1 (by decide +kernel) ?_
  refine T_let 4 (by decide +kernel) ?_
  refine T_if1 (by decide +kernel) ?_
  refine T_useI (sf_X6_read_32_4 hfu r0 c0 a1 (by omega)) (fun v6 s1 hq => ?_)
  obtain ⟨c2, f3, ⟨x5, rfl, b7, b8⟩⟩ := hq
  refine T_vI ?_
  have f4 := z_Fr.tr (R := R_X11_readTape_1) z_Fr.rf f3 rs_X6_read_32_4__X11_readTape_1
  have t9 : s1 1 12 = r0 1 12 := f3 1 12 (by decide)
  have u10 := CI_b c2 (k := 32) (j := 7) bd_32_7
  have r11 := z_V16.fr p0 (f3 1 16 (by decide)) (f3 191 16 (by decide)) (f3 6 6 (by decide)) (fun b => f3 195 b (nr_X6_read_32_4__195 b)) (fun b => f3 197 b (nr_X6_read_32_4__197 b))
  refine T_ite (fun h12 => ?_) (fun h12 => ?_)
  · refine T_if1 (by decide +kernel) ?_
    refine T_let 32 (by decide +kernel) ?_
    refine T_if1 (by decide +kernel) ?_
    refine T_leq (fun x13 e14 => ?_)
    have u15 := CI_b c2 (k := 32) (j := 7) bd_32_7
    exact sj_X11_readTape_1_J29 hfu r0 s1 c2 f4 x5 x13 (by omega) (by omega) r11
  · exact sj_X11_readTape_1_J29 hfu r0 s1 c2 f4 x5 (-1) (by omega) (by omega) r11
abbrev R_X11_refresh_1 (a b : Int) : Prop := (193 ≤ a ∧ a ≤ 219) ∨ (222 ≤ a ∧ a ≤ 222) ∨ (225 ≤ a ∧ a ≤ 239) ∨ (242 ≤ a ∧ a ≤ 244) ∨ (248 ≤ a ∧ a ≤ 248) ∨ (260 ≤ a ∧ a ≤ 278) ∨ (281 ≤ a ∧ a ≤ 295) ∨ (a = 1 ∧ (b = 16 ∨ b = 17 ∨ b = 18)) ∨ (a = 191 ∧ (b = 16 ∨ b = 17 ∨ b = 18)) ∨ (a = 220 ∧ (b = 4 ∨ b = 5)) ∨ (a = 223 ∧ (b = 9)) ∨ (a = 240 ∧ (b = 6)) ∨ (a = 279 ∧ (b = 9))
abbrev P_X11_refresh_1 (r0 : z_M) : z_V → z_M → Prop := fun v s' => z_CI s' ∧ z_Fr R_X11_refresh_1 r0 s' ∧ (z_U s' (s' 6 6)) ∧ (v = vN)
theorem sj_X11_refresh_1_J78 {fu : Nat} (hfu : 8589934592 ≤ fu) (r0 s : z_M) (c : z_CI s) (f : z_Fr R_X11_refresh_1 r0 s) (p0 : z_U s (s 6 6)) : z_T (fX11_refresh_J78 fu s) (P_X11_refresh_1 r0) := by
  refine T_of (fX11_refresh_J78.eq_1 ..) ?_
  have u1 := CI_b c (k := 1) (j := 16) bd_1_16
  have u2 := CI_b c (k := 1) (j := 17) bd_1_17
  exact T_ret ⟨c, f, p0, rfl⟩
theorem rs_X1_go_240__X11_refresh_1 (a b : Int) (h : R_X1_go_240 a b) : R_X11_refresh_1 a b := (h.elim (fun h => (Or.inr (Or.inl (⟨by omega, by omega⟩)))) (fun h => (h.elim (fun h => (Or.inr (Or.inr (Or.inl (⟨by omega, by omega⟩))))) (fun h => (h.elim (fun h => (Or.inr (Or.inr (Or.inr (Or.inl (⟨by omega, by omega⟩)))))) (fun h => (h.elim (fun h => (Or.inr (Or.inr (Or.inr (Or.inr (Or.inl (⟨by omega, by omega⟩))))))) (fun h => (h.elim (fun h => (Or.inr (Or.inr (Or.inr (Or.inr (Or.inr (Or.inr (Or.inr (Or.inr (Or.inr (Or.inl (⟨h.1, by omega⟩)))))))))))) (fun h => (h.elim (fun h => (Or.inr (Or.inr (Or.inr (Or.inr (Or.inr (Or.inr (Or.inr (Or.inr (Or.inr (Or.inr (Or.inl (⟨h.1, by omega⟩))))))))))))) (fun h => (Or.inr (Or.inr (Or.inr (Or.inr (Or.inr (Or.inr (Or.inr (Or.inr (Or.inr (Or.inr (Or.inr (Or.inl (⟨h.1, by omega⟩)))))))))))))))))))))))))
theorem nr_X1_go_240__195 (b : Int) : ¬ R_X1_go_240 195 b := by
  unfold R_X1_go_240; omega
theorem nr_X1_go_240__197 (b : Int) : ¬ R_X1_go_240 197 b := by
  unfold R_X1_go_240; omega
theorem rs_X3_build_258__X11_refresh_1 (a b : Int) (h : R_X3_build_258 a b) : R_X11_refresh_1 a b := (h.elim (fun h => (Or.inr (Or.inl (⟨by omega, by omega⟩)))) (fun h => (h.elim (fun h => (Or.inr (Or.inr (Or.inl (⟨by omega, by omega⟩))))) (fun h => (h.elim (fun h => (Or.inr (Or.inr (Or.inr (Or.inr (Or.inr (Or.inl (⟨by omega, by omega⟩)))))))) (fun h => (h.elim (fun h => (Or.inr (Or.inr (Or.inr (Or.inr (Or.inr (Or.inr (Or.inl (⟨by omega, by omega⟩))))))))) (fun h => (h.elim (fun h => (Or.inr (Or.inr (Or.inr (Or.inr (Or.inr (Or.inr (Or.inr (Or.inr (Or.inr (Or.inl (⟨h.1, by omega⟩)))))))))))) (fun h => (h.elim (fun h => (Or.inr (Or.inr (Or.inr (Or.inr (Or.inr (Or.inr (Or.inr (Or.inr (Or.inr (Or.inr (Or.inl (⟨h.1, by omega⟩))))))))))))) (fun h => (Or.inr (Or.inr (Or.inr (Or.inr (Or.inr (Or.inr (Or.inr (Or.inr (Or.inr (Or.inr (Or.inr (Or.inr (⟨h.1, by omega⟩)))))))))))))))))))))))))
theorem nr_X3_build_258__195 (b : Int) : ¬ R_X3_build_258 195 b := by
  unfold R_X3_build_258; omega
theorem nr_X3_build_258__197 (b : Int) : ¬ R_X3_build_258 197 b := by
  unfold R_X3_build_258; omega
theorem sj_X11_refresh_1_J31 {fu : Nat} (hfu : 8589934592 ≤ fu) (r0 s : z_M) (c : z_CI s) (f : z_Fr R_X11_refresh_1 r0 s) (p0 : z_U s (s 6 6)) : z_T (fX11_refresh_J31 fu s 1) (P_X11_refresh_1 r0) := by
  refine T_of (fX11_refresh_J31.eq_1 ..) ?_
  have u1 := CI_b c (k := 1) (j := 16) bd_1_16
  have u2 := CI_b c (k := 1) (j := 17) bd_1_17
  refine T_if1 (by decide +kernel) ?_
  refine T_leq (fun x3 e4 => ?_)
  have u5 := CI_b c (k := 1) (j := 17) bd_1_17
  refine T_ite (fun h6 => ?_) (fun h6 => ?_)
  · exact sj_X11_refresh_1_J78 hfu r0 s c f p0
  · refine T_if1 (by decide +kernel) ?_
    refine T_let 240 (by decide +kernel) ?_
    refine T_if1 (by decide +kernel) ?_
    refine T_let 2 (by decide +kernel) ?_
    refine T_if1 (by decide +kernel) ?_
    refine T_get (by decide +kernel) (c := 3) (by decide +kernel) bdr_3 (by decide) c (fun x7 e8 b9 w10 => ?_)
    have l11 : z_ln 2 = 9 := by decide +kernel
    refine T_if1 (by decide +kernel) ?_
    refine T_let 2 (by decide +kernel) ?_
    refine T_if1 (by decide +kernel) ?_
    refine T_get (by decide +kernel) (c := 3) (by decide +kernel) bdr_3 (by decide) c (fun x12 e13 b14 w15 => ?_)
    have l16 : z_ln 2 = 9 := by decide +kernel
    refine T_if1 (by decide +kernel) ?_
    refine T_useN (sf_X1_go_240 hfu s c x7 x12 (by omega) (by omega)) (fun v22 s17 hq => ?_)
    obtain ⟨c18, f19, rfl⟩ := hq
    refine T_vN ?_
    have f20 := z_Fr.tr (R := R_X11_refresh_1) f f19 rs_X1_go_240__X11_refresh_1
    have t25 : s17 1 16 = s 1 16 := f19 1 16 (by decide)
    have t26 : s17 1 17 = s 1 17 := f19 1 17 (by decide)
    have r27 := z_U.fr p0 (f19 191 16 (by decide)) (f19 6 6 (by decide)) (fun b => f19 195 b (nr_X1_go_240__195 b)) (fun b => f19 197 b (nr_X1_go_240__197 b))
    refine T_if1 (by decide +kernel) ?_
    refine T_let 258 (by decide +kernel) ?_
    refine T_if1 (by decide +kernel) ?_
    refine T_useN (sf_X3_build_258 hfu s17 c18) (fun v33 s28 hq => ?_)
    obtain ⟨c29, f30, rfl⟩ := hq
    refine T_vN ?_
    have f31 := z_Fr.tr (R := R_X11_refresh_1) f20 f30 rs_X3_build_258__X11_refresh_1
    have t36 : s28 1 16 = s17 1 16 := f30 1 16 (by decide)
    have t37 : s28 1 17 = s17 1 17 := f30 1 17 (by decide)
    have r38 := z_U.fr r27 (f30 191 16 (by decide)) (f30 6 6 (by decide)) (fun b => f30 195 b (nr_X3_build_258__195 b)) (fun b => f30 197 b (nr_X3_build_258__197 b))
    refine T_if1 ⟨(by decide +kernel), by unfold z_bl; omega⟩ ?_
    refine T_upg c29 bd_1_17 (by omega) (fun s39 c40 g42 g43 e44 => ?_)
    have f41 := z_Fr.upf (R := R_X11_refresh_1) f31 g42 g43 (Or.inr (Or.inr (Or.inr (Or.inr (Or.inr (Or.inr (Or.inr (Or.inl (⟨rfl, by decide⟩)))))))))
    have t45 : s39 1 16 = s28 1 16 := g43 16 (by decide)
    have r46 := z_U.fr r38 (g42 191 16 (by decide)) (g42 6 6 (by decide)) (fun b => g42 195 b (by decide)) (fun b => g42 197 b (by decide))
    refine T_if1 ⟨(by decide +kernel), by unfold z_bl; omega⟩ ?_
    refine T_upg c40 bd_1_18 (by omega) (fun s47 c48 g50 g51 e52 => ?_)
    have f49 := z_Fr.upf (R := R_X11_refresh_1) f41 g50 g51 (Or.inr (Or.inr (Or.inr (Or.inr (Or.inr (Or.inr (Or.inr (Or.inl (⟨rfl, by decide⟩)))))))))
    have t53 : s47 1 16 = s39 1 16 := g51 16 (by decide)
    have t54 : s47 1 17 = s39 1 17 := g51 17 (by decide)
    have r55 := z_U.fr r46 (g50 191 16 (by decide)) (g50 6 6 (by decide)) (fun b => g50 195 b (by decide)) (fun b => g50 197 b (by decide))
    exact sj_X11_refresh_1_J78 hfu r0 s47 c48 f49 r55
theorem rs_X10_build_191__X11_refresh_1 (a b : Int) (h : R_X10_build_191 a b) : R_X11_refresh_1 a b := (h.elim (fun h => (Or.inl (⟨by omega, by omega⟩))) (fun h => (Or.inr (Or.inr (Or.inr (Or.inr (Or.inr (Or.inr (Or.inr (Or.inr (Or.inl (⟨h.1, by omega⟩))))))))))))
theorem rs_X5_forget_220__X11_refresh_1 (a b : Int) (h : R_X5_forget_220 a b) : R_X11_refresh_1 a b := (Or.inr (Or.inl (⟨by omega, by omega⟩)))
theorem nr_X5_forget_220__195 (b : Int) : ¬ R_X5_forget_220 195 b := by
  unfold R_X5_forget_220; omega
theorem nr_X5_forget_220__197 (b : Int) : ¬ R_X5_forget_220 197 b := by
  unfold R_X5_forget_220; omega
theorem sf_X11_refresh_1 {fu : Nat} (hfu : 8589934592 ≤ fu) (r0 : z_M) (c0 : z_CI r0) (p0 : z_V16 r0) : z_T (fX11_refresh fu r0 1) (P_X11_refresh_1 r0) := by
  refine T_of (fX11_refresh.eq_1 ..) ?_
  refine T_if1 (by decide +kernel) ?_
  refine T_leq (fun x1 e2 => ?_)
  have u3 := CI_b c0 (k := 1) (j := 16) bd_1_16
  refine T_ite (fun h4 => ?_) (fun h4 => ?_)
  · exact sj_X11_refresh_1_J31 hfu r0 r0 c0 z_Fr.rf (Or.resolve_left p0 (by omega))
  · refine T_if1 (by decide +kernel) ?_
    refine T_let 191 (by decide +kernel) ?_
    refine T_if1 (by decide +kernel) ?_
    refine T_useN (sf_X10_build_191 hfu r0 c0) (fun v10 s5 hq => ?_)
    obtain ⟨c6, f7, o11, rfl⟩ := hq
    refine T_vN ?_
    have f8 := z_Fr.tr (R := R_X11_refresh_1) z_Fr.rf f7 rs_X10_build_191__X11_refresh_1
    have t14 : s5 1 16 = r0 1 16 := f7 1 16 (by decide)
    have t15 : s5 1 17 = r0 1 17 := f7 1 17 (by decide)
    refine T_if1 (by decide +kernel) ?_
    refine T_let 220 (by decide +kernel) ?_
    refine T_if1 (by decide +kernel) ?_
    refine T_useN (sf_X5_forget_220 hfu s5 c6) (fun v21 s16 hq => ?_)
    obtain ⟨c17, f18, rfl⟩ := hq
    refine T_vN ?_
    have f19 := z_Fr.tr (R := R_X11_refresh_1) f8 f18 rs_X5_forget_220__X11_refresh_1
    have t24 : s16 1 16 = s5 1 16 := f18 1 16 (by decide)
    have t25 : s16 1 17 = s5 1 17 := f18 1 17 (by decide)
    have r26 := z_U.fr o11 (f18 191 16 (by decide)) (f18 6 6 (by decide)) (fun b => f18 195 b (nr_X5_forget_220__195 b)) (fun b => f18 197 b (nr_X5_forget_220__197 b))
    refine T_if1 ⟨(by decide +kernel), by unfold z_bl; omega⟩ ?_
    refine T_upg c17 bd_1_16 (by omega) (fun s27 c28 g30 g31 e32 => ?_)
    have f29 := z_Fr.upf (R := R_X11_refresh_1) f19 g30 g31 (Or.inr (Or.inr (Or.inr (Or.inr (Or.inr (Or.inr (Or.inr (Or.inl (⟨rfl, by decide⟩)))))))))
    have t33 : s27 1 17 = s16 1 17 := g31 17 (by decide)
    have r34 := z_U.fr r26 (g30 191 16 (by decide)) (g30 6 6 (by decide)) (fun b => g30 195 b (by decide)) (fun b => g30 197 b (by decide))
    refine T_if1 ⟨(by decide +kernel), by unfold z_bl; omega⟩ ?_
    refine T_upg c28 bd_1_17 (by omega) (fun s35 c36 g38 g39 e40 => ?_)
    have f37 := z_Fr.upf (R := R_X11_refresh_1) f29 g38 g39 (Or.inr (Or.inr (Or.inr (Or.inr (Or.inr (Or.inr (Or.inr (Or.inl (⟨rfl, by decide⟩)))))))))
    have t41 : s35 1 16 = s27 1 16 := g39 16 (by decide)
    have r42 := z_U.fr r34 (g38 191 16 (by decide)) (g38 6 6 (by decide)) (fun b => g38 195 b (by decide)) (fun b => g38 197 b (by decide))
    exact sj_X11_refresh_1_J31 hfu r0 s35 c36 f37 r42
abbrev R_X11_text_1 (a b : Int) : Prop := (8 ≤ a ∧ a ≤ 18) ∨ (21 ≤ a ∧ a ≤ 190) ∨ (193 ≤ a ∧ a ≤ 219) ∨ (222 ≤ a ∧ a ≤ 222) ∨ (225 ≤ a ∧ a ≤ 239) ∨ (242 ≤ a ∧ a ≤ 244) ∨ (248 ≤ a ∧ a ≤ 248) ∨ (260 ≤ a ∧ a ≤ 278) ∨ (281 ≤ a ∧ a ≤ 295) ∨ (a = 1 ∧ (b = 12 ∨ b = 13 ∨ b = 15 ∨ b = 16 ∨ b = 17 ∨ b = 18)) ∨ (a = 6 ∧ (b = 6 ∨ b = 7 ∨ b = 8)) ∨ (a = 19 ∧ (b = 6 ∨ b = 7 ∨ b = 8)) ∨ (a = 32 ∧ (b = 1 ∨ b = 2 ∨ b = 3 ∨ b = 4 ∨ b = 5 ∨ b = 6 ∨ b = 7)) ∨ (a = 191 ∧ (b = 16 ∨ b = 17 ∨ b = 18)) ∨ (a = 220 ∧ (b = 4 ∨ b = 5)) ∨ (a = 223 ∧ (b = 9)) ∨ (a = 240 ∧ (b = 6)) ∨ (a = 279 ∧ (b = 9))
abbrev P_X11_text_1 (r0 : z_M) (a1 : Int) : z_V → z_M → Prop := fun v s' => z_CI s' ∧ z_Fr R_X11_text_1 r0 s' ∧ (z_V16 s') ∧ ((0 ≤ a1 ∧ a1 ≤ r0 1 12 ∧ s' 1 12 = 0) ∨ ((a1 < 0 ∨ r0 1 12 < a1) ∧ s' 1 12 = r0 1 12)) ∧ ((∃ x, v = vI x ∧ -2147483648 ≤ x ∧ x ≤ 2147483647) ∨ v = vX 1)
theorem T_nwn {P : z_V → z_M → Prop} {fu : Nat} {s : z_M} {v lo hi : Int} {f : z_M → z_O} (kx : ¬ (lo ≤ v ∧ v ≤ hi) → z_T (some (vX 1, z_up s 1 15 (z_w (s 1 15 + 1)))) P) (kk : lo ≤ v → v ≤ hi → z_T (f s) P) : z_T (z_bN (fX11_needWithin fu s 1 v lo hi) f) P := by
  rw [e_nw]
  by_cases h : lo ≤ v ∧ v ≤ hi
  · rw [if_pos h]; exact kk h.1 h.2
  · rw [if_neg h]; exact kx h
theorem rs_X9_clear_19__X11_text_1 (a b : Int) (h : R_X9_clear_19 a b) : R_X11_text_1 a b := (Or.inr (Or.inr (Or.inr (Or.inr (Or.inr (Or.inr (Or.inr (Or.inr (Or.inr (Or.inr (Or.inr (Or.inl (⟨h.1, by omega⟩)))))))))))))
theorem nr_X9_clear_19__195 (b : Int) : ¬ R_X9_clear_19 195 b := by
  unfold R_X9_clear_19; omega
theorem nr_X9_clear_19__197 (b : Int) : ¬ R_X9_clear_19 197 b := by
  unfold R_X9_clear_19; omega
theorem rs_X11_readTape_1__X11_text_1 (a b : Int) (h : R_X11_readTape_1 a b) : R_X11_text_1 a b := (h.elim (fun h => (Or.inl (⟨by omega, by omega⟩))) (fun h => (h.elim (fun h => (Or.inr (Or.inl (⟨by omega, by omega⟩)))) (fun h => (h.elim (fun h => (Or.inr (Or.inr (Or.inr (Or.inr (Or.inr (Or.inr (Or.inr (Or.inr (Or.inr (Or.inl (⟨h.1, by omega⟩)))))))))))) (fun h => (h.elim (fun h => (Or.inr (Or.inr (Or.inr (Or.inr (Or.inr (Or.inr (Or.inr (Or.inr (Or.inr (Or.inr (Or.inl (⟨h.1, by omega⟩))))))))))))) (fun h => (h.elim (fun h => (Or.inr (Or.inr (Or.inr (Or.inr (Or.inr (Or.inr (Or.inr (Or.inr (Or.inr (Or.inr (Or.inr (Or.inl (⟨h.1, by omega⟩)))))))))))))) (fun h => (Or.inr (Or.inl (⟨by omega, by omega⟩)))))))))))))
theorem nr_X11_readTape_1__195 (b : Int) : ¬ R_X11_readTape_1 195 b := by
  unfold R_X11_readTape_1; omega
theorem nr_X11_readTape_1__197 (b : Int) : ¬ R_X11_readTape_1 197 b := by
  unfold R_X11_readTape_1; omega
theorem rs_X11_refresh_1__X11_text_1 (a b : Int) (h : R_X11_refresh_1 a b) : R_X11_text_1 a b := (h.elim (fun h => (Or.inr (Or.inr (Or.inl (⟨by omega, by omega⟩))))) (fun h => (h.elim (fun h => (Or.inr (Or.inr (Or.inr (Or.inl (⟨by omega, by omega⟩)))))) (fun h => (h.elim (fun h => (Or.inr (Or.inr (Or.inr (Or.inr (Or.inl (⟨by omega, by omega⟩))))))) (fun h => (h.elim (fun h => (Or.inr (Or.inr (Or.inr (Or.inr (Or.inr (Or.inl (⟨by omega, by omega⟩)))))))) (fun h => (h.elim (fun h => (Or.inr (Or.inr (Or.inr (Or.inr (Or.inr (Or.inr (Or.inl (⟨by omega, by omega⟩))))))))) (fun h => (h.elim (fun h => (Or.inr (Or.inr (Or.inr (Or.inr (Or.inr (Or.inr (Or.inr (Or.inl (⟨by omega, by omega⟩)))))))))) (fun h => (h.elim (fun h => (Or.inr (Or.inr (Or.inr (Or.inr (Or.inr (Or.inr (Or.inr (Or.inr (Or.inl (⟨by omega, by omega⟩))))))))))) (fun h => (h.elim (fun h => (Or.inr (Or.inr (Or.inr (Or.inr (Or.inr (Or.inr (Or.inr (Or.inr (Or.inr (Or.inl (⟨h.1, by omega⟩)))))))))))) (fun h => (h.elim (fun h => (Or.inr (Or.inr (Or.inr (Or.inr (Or.inr (Or.inr (Or.inr (Or.inr (Or.inr (Or.inr (Or.inr (Or.inr (Or.inr (Or.inl (⟨h.1, by omega⟩)))))))))))))))) (fun h => (h.elim (fun h => (Or.inr (Or.inr (Or.inr (Or.inr (Or.inr (Or.inr (Or.inr (Or.inr (Or.inr (Or.inr (Or.inr (Or.inr (Or.inr (Or.inr (Or.inl (⟨h.1, by omega⟩))))))))))))))))) (fun h => (h.elim (fun h => (Or.inr (Or.inr (Or.inr (Or.inr (Or.inr (Or.inr (Or.inr (Or.inr (Or.inr (Or.inr (Or.inr (Or.inr (Or.inr (Or.inr (Or.inr (Or.inl (⟨h.1, by omega⟩)))))))))))))))))) (fun h => (h.elim (fun h => (Or.inr (Or.inr (Or.inr (Or.inr (Or.inr (Or.inr (Or.inr (Or.inr (Or.inr (Or.inr (Or.inr (Or.inr (Or.inr (Or.inr (Or.inr (Or.inr (Or.inl (⟨h.1, by omega⟩))))))))))))))))))) (fun h => (Or.inr (Or.inr (Or.inr (Or.inr (Or.inr (Or.inr (Or.inr (Or.inr (Or.inr (Or.inr (Or.inr (Or.inr (Or.inr (Or.inr (Or.inr (Or.inr (Or.inr (⟨h.1, by omega⟩))))))))))))))))))))))))))))))))))))))))))
theorem sj_X11_text_1_J45 {fu : Nat} (hfu : 8589934592 ≤ fu) (r0 s : z_M) (c : z_CI s) (f : z_Fr R_X11_text_1 r0 s) (t0 : Int) (a1 : Int) (d0 : -2147483648 ≤ t0 ∧ t0 ≤ 2147483647) (p0 : z_V16 s) (p1 : 0 ≤ a1 ∧ a1 ≤ r0 1 12 ∧ s 1 12 = 0) : z_T (fX11_text_J45 fu s t0) (P_X11_text_1 r0 a1) := by
  refine T_of (fX11_text_J45.eq_1 ..) ?_
  have u1 := CI_b c (k := 1) (j := 12) bd_1_12
  have u2 := CI_b c (k := 191) (j := 16) bd_191_16
  exact T_ret ⟨c, f, p0, by omega, Or.inl (⟨t0, rfl, by omega, by omega⟩)⟩
theorem sf_X11_text_1 {fu : Nat} (hfu : 8589934592 ≤ fu) (r0 : z_M) (c0 : z_CI r0) (a1 : Int) (b1 : -2147483648 ≤ a1 ∧ a1 ≤ 2147483647) (p0 : z_V16 r0) : z_T (fX11_text fu r0 1 a1) (P_X11_text_1 r0 a1) := by
  refine T_of (fX11_text.eq_1 ..) ?_
  refine T_if1 (by decide +kernel) ?_
  refine T_leq (fun x1 e2 => ?_)
  have u3 := CI_b c0 (k := 1) (j := 12) bd_1_12
  refine T_if1 (by decide +kernel) ?_
  refine T_nwn (fun hn => ?_) (fun h4 h5 => ?_)
  · exact T_ret ⟨CI_up c0 bd_1_15 (z_wb rfl).1, z_Fr.upf (R := R_X11_text_1) z_Fr.rf (fun a b h => z_up_k h) (fun b h => z_up_j h) (Or.inr (Or.inr (Or.inr (Or.inr (Or.inr (Or.inr (Or.inr (Or.inr (Or.inr (Or.inl (⟨rfl, by decide⟩))))))))))), z_V16.fr p0 (z_up_j (by decide)) (z_up_k (by decide)) (z_up_k (by decide)) (fun _ => z_up_k (by decide)) (fun _ => z_up_k (by decide)), by rw [show z_up r0 1 15 _ 1 12 = r0 1 12 from z_up_j (by decide)]; omega, Or.inr rfl⟩
  refine T_if1 (by decide +kernel) ?_
  refine T_let 19 (by decide +kernel) ?_
  refine T_if1 (by decide +kernel) ?_
  refine T_useN (sf_X9_clear_19 hfu r0 c0) (fun v11 s6 hq => ?_)
  obtain ⟨c7, f8, rfl⟩ := hq
  refine T_vN ?_
  have f9 := z_Fr.tr (R := R_X11_text_1) z_Fr.rf f8 rs_X9_clear_19__X11_text_1
  have t14 : s6 1 12 = r0 1 12 := f8 1 12 (by decide)
  have t15 : s6 191 16 = r0 191 16 := f8 191 16 (by decide)
  have r16 := z_V16.fr p0 (f8 1 16 (by decide)) (f8 191 16 (by decide)) (f8 6 6 (by decide)) (fun b => f8 195 b (nr_X9_clear_19__195 b)) (fun b => f8 197 b (nr_X9_clear_19__197 b))
  refine T_if1 (by decide +kernel) ?_
  refine T_useI (sf_X11_readTape_1 hfu s6 c7 a1 (by omega) r16) (fun v22 s17 hq => ?_)
  obtain ⟨c18, f19, o23, o24, ⟨x21, rfl, b25, b26⟩⟩ := hq
  refine T_vI ?_
  have f20 := z_Fr.tr (R := R_X11_text_1) f9 f19 rs_X11_readTape_1__X11_text_1
  have t27 : s17 191 16 = s6 191 16 := f19 191 16 (by decide)
  have u28 := CI_b c18 (k := 1) (j := 12) bd_1_12
  refine T_if1 (by decide +kernel) ?_
  refine T_useN (sf_X11_refresh_1 hfu s17 c18 o23) (fun v34 s29 hq => ?_)
  obtain ⟨c30, f31, o35, rfl⟩ := hq
  refine T_vN ?_
  have f32 := z_Fr.tr (R := R_X11_text_1) f20 f31 rs_X11_refresh_1__X11_text_1
  have t38 : s29 1 12 = s17 1 12 := f31 1 12 (by decide)
  have u39 := CI_b c30 (k := 191) (j := 16) bd_191_16
  refine T_ite (fun h40 => ?_) (fun h40 => ?_)
  · refine T_leq (fun x41 e42 => ?_)
    have w43 := z_wr e42
    exact sj_X11_text_1_J45 hfu r0 s29 c30 f32 x41 a1 (by omega) (Or.inr o35) (by omega)
  · refine T_if1 (by decide +kernel) ?_
    refine T_let 191 (by decide +kernel) ?_
    refine T_if1 (by decide +kernel) ?_
    refine T_leq (fun x44 e45 => ?_)
    have u46 := CI_b c30 (k := 191) (j := 16) bd_191_16
    exact sj_X11_text_1_J45 hfu r0 s29 c30 f32 x44 a1 (by omega) (Or.inr o35) (by omega)
abbrev R_X11_more_1 (a b : Int) : Prop := (8 ≤ a ∧ a ≤ 18) ∨ (21 ≤ a ∧ a ≤ 190) ∨ (193 ≤ a ∧ a ≤ 219) ∨ (222 ≤ a ∧ a ≤ 222) ∨ (225 ≤ a ∧ a ≤ 239) ∨ (242 ≤ a ∧ a ≤ 244) ∨ (248 ≤ a ∧ a ≤ 248) ∨ (260 ≤ a ∧ a ≤ 278) ∨ (281 ≤ a ∧ a ≤ 295) ∨ (a = 1 ∧ (b = 12 ∨ b = 13 ∨ b = 15 ∨ b = 16 ∨ b = 17 ∨ b = 18)) ∨ (a = 6 ∧ (b = 6 ∨ b = 7 ∨ b = 8)) ∨ (a = 19 ∧ (b = 6 ∨ b = 7 ∨ b = 8)) ∨ (a = 32 ∧ (b = 1 ∨ b = 2 ∨ b = 3 ∨ b = 4 ∨ b = 5 ∨ b = 6 ∨ b = 7)) ∨ (a = 191 ∧ (b = 16 ∨ b = 17 ∨ b = 18)) ∨ (a = 220 ∧ (b = 4 ∨ b = 5)) ∨ (a = 223 ∧ (b = 9)) ∨ (a = 240 ∧ (b = 6)) ∨ (a = 279 ∧ (b = 9))
abbrev P_X11_more_1 (r0 : z_M) (a1 : Int) : z_V → z_M → Prop := fun v s' => z_CI s' ∧ z_Fr R_X11_more_1 r0 s' ∧ (z_V16 s') ∧ ((0 ≤ a1 ∧ a1 ≤ r0 1 12 ∧ s' 1 12 = 0) ∨ ((a1 < 0 ∨ r0 1 12 < a1) ∧ s' 1 12 = r0 1 12)) ∧ ((∃ x, v = vI x ∧ -2147483648 ≤ x ∧ x ≤ 2147483647) ∨ v = vX 1)
theorem rs_X9_copyFrom_19_6__X11_more_1 (a b : Int) (h : R_X9_copyFrom_19_6 a b) : R_X11_more_1 a b := (h.elim (fun h => (Or.inr (Or.inl (⟨by omega, by omega⟩)))) (fun h => (Or.inr (Or.inr (Or.inr (Or.inr (Or.inr (Or.inr (Or.inr (Or.inr (Or.inr (Or.inr (Or.inr (Or.inl (⟨h.1, by omega⟩)))))))))))))))
theorem nr_X9_copyFrom_19_6__195 (b : Int) : ¬ R_X9_copyFrom_19_6 195 b := by
  unfold R_X9_copyFrom_19_6; omega
theorem nr_X9_copyFrom_19_6__197 (b : Int) : ¬ R_X9_copyFrom_19_6 197 b := by
  unfold R_X9_copyFrom_19_6; omega
theorem rs_X11_readTape_1__X11_more_1 (a b : Int) (h : R_X11_readTape_1 a b) : R_X11_more_1 a b := (h.elim (fun h => (Or.inl (⟨by omega, by omega⟩))) (fun h => (h.elim (fun h => (Or.inr (Or.inl (⟨by omega, by omega⟩)))) (fun h => (h.elim (fun h => (Or.inr (Or.inr (Or.inr (Or.inr (Or.inr (Or.inr (Or.inr (Or.inr (Or.inr (Or.inl (⟨h.1, by omega⟩)))))))))))) (fun h => (h.elim (fun h => (Or.inr (Or.inr (Or.inr (Or.inr (Or.inr (Or.inr (Or.inr (Or.inr (Or.inr (Or.inr (Or.inl (⟨h.1, by omega⟩))))))))))))) (fun h => (h.elim (fun h => (Or.inr (Or.inr (Or.inr (Or.inr (Or.inr (Or.inr (Or.inr (Or.inr (Or.inr (Or.inr (Or.inr (Or.inl (⟨h.1, by omega⟩)))))))))))))) (fun h => (Or.inr (Or.inl (⟨by omega, by omega⟩)))))))))))))
theorem rs_X11_refresh_1__X11_more_1 (a b : Int) (h : R_X11_refresh_1 a b) : R_X11_more_1 a b := (h.elim (fun h => (Or.inr (Or.inr (Or.inl (⟨by omega, by omega⟩))))) (fun h => (h.elim (fun h => (Or.inr (Or.inr (Or.inr (Or.inl (⟨by omega, by omega⟩)))))) (fun h => (h.elim (fun h => (Or.inr (Or.inr (Or.inr (Or.inr (Or.inl (⟨by omega, by omega⟩))))))) (fun h => (h.elim (fun h => (Or.inr (Or.inr (Or.inr (Or.inr (Or.inr (Or.inl (⟨by omega, by omega⟩)))))))) (fun h => (h.elim (fun h => (Or.inr (Or.inr (Or.inr (Or.inr (Or.inr (Or.inr (Or.inl (⟨by omega, by omega⟩))))))))) (fun h => (h.elim (fun h => (Or.inr (Or.inr (Or.inr (Or.inr (Or.inr (Or.inr (Or.inr (Or.inl (⟨by omega, by omega⟩)))))))))) (fun h => (h.elim (fun h => (Or.inr (Or.inr (Or.inr (Or.inr (Or.inr (Or.inr (Or.inr (Or.inr (Or.inl (⟨by omega, by omega⟩))))))))))) (fun h => (h.elim (fun h => (Or.inr (Or.inr (Or.inr (Or.inr (Or.inr (Or.inr (Or.inr (Or.inr (Or.inr (Or.inl (⟨h.1, by omega⟩)))))))))))) (fun h => (h.elim (fun h => (Or.inr (Or.inr (Or.inr (Or.inr (Or.inr (Or.inr (Or.inr (Or.inr (Or.inr (Or.inr (Or.inr (Or.inr (Or.inr (Or.inl (⟨h.1, by omega⟩)))))))))))))))) (fun h => (h.elim (fun h => (Or.inr (Or.inr (Or.inr (Or.inr (Or.inr (Or.inr (Or.inr (Or.inr (Or.inr (Or.inr (Or.inr (Or.inr (Or.inr (Or.inr (Or.inl (⟨h.1, by omega⟩))))))))))))))))) (fun h => (h.elim (fun h => (Or.inr (Or.inr (Or.inr (Or.inr (Or.inr (Or.inr (Or.inr (Or.inr (Or.inr (Or.inr (Or.inr (Or.inr (Or.inr (Or.inr (Or.inr (Or.inl (⟨h.1, by omega⟩)))))))))))))))))) (fun h => (h.elim (fun h => (Or.inr (Or.inr (Or.inr (Or.inr (Or.inr (Or.inr (Or.inr (Or.inr (Or.inr (Or.inr (Or.inr (Or.inr (Or.inr (Or.inr (Or.inr (Or.inr (Or.inl (⟨h.1, by omega⟩))))))))))))))))))) (fun h => (Or.inr (Or.inr (Or.inr (Or.inr (Or.inr (Or.inr (Or.inr (Or.inr (Or.inr (Or.inr (Or.inr (Or.inr (Or.inr (Or.inr (Or.inr (Or.inr (Or.inr (⟨h.1, by omega⟩))))))))))))))))))))))))))))))))))))))))))
theorem sj_X11_more_1_J49 {fu : Nat} (hfu : 8589934592 ≤ fu) (r0 s : z_M) (c : z_CI s) (f : z_Fr R_X11_more_1 r0 s) (t0 : Int) (a1 : Int) (d0 : -2147483648 ≤ t0 ∧ t0 ≤ 2147483647) (p0 : z_V16 s) (p1 : 0 ≤ a1 ∧ a1 ≤ r0 1 12 ∧ s 1 12 = 0) : z_T (fX11_more_J49 fu s t0) (P_X11_more_1 r0 a1) := by
  refine T_of (fX11_more_J49.eq_1 ..) ?_
  have u1 := CI_b c (k := 1) (j := 12) bd_1_12
  have u2 := CI_b c (k := 191) (j := 16) bd_191_16
  exact T_ret ⟨c, f, p0, by omega, Or.inl (⟨t0, rfl, by omega, by omega⟩)⟩
theorem sf_X11_more_1 {fu : Nat} (hfu : 8589934592 ≤ fu) (r0 : z_M) (c0 : z_CI r0) (a1 : Int) (b1 : -2147483648 ≤ a1 ∧ a1 ≤ 2147483647) (p0 : z_V16 r0) : z_T (fX11_more fu r0 1 a1) (P_X11_more_1 r0 a1) := by
  refine T_of (fX11_more.eq_1 ..) ?_
  refine T_if1 (by decide +kernel) ?_
  refine T_leq (fun x1 e2 => ?_)
  have u3 := CI_b c0 (k := 1) (j := 12) bd_1_12
  refine T_if1 (by decide +kernel) ?_
  refine T_nwn (fun hn => ?_) (fun h4 h5 => ?_)
  · exact T_ret ⟨CI_up c0 bd_1_15 (z_wb rfl).1, z_Fr.upf (R := R_X11_more_1) z_Fr.rf (fun a b h => z_up_k h) (fun b h => z_up_j h) (Or.inr (Or.inr (Or.inr (Or.inr (Or.inr (Or.inr (Or.inr (Or.inr (Or.inr (Or.inl (⟨rfl, by decide⟩))))))))))), z_V16.fr p0 (z_up_j (by decide)) (z_up_k (by decide)) (z_up_k (by decide)) (fun _ => z_up_k (by decide)) (fun _ => z_up_k (by decide)), by rw [show z_up r0 1 15 _ 1 12 = r0 1 12 from z_up_j (by decide)]; omega, Or.inr rfl⟩
  refine T_if1 (by decide +kernel) ?_
  refine T_let 19 (by decide +kernel) ?_
  refine T_if1 (by decide +kernel) ?_
  refine T_let 6 (by decide +kernel) ?_
  refine T_if1 (by decide +kernel) ?_
  refine T_useN (sf_X9_copyFrom_19_6 hfu r0 c0) (fun v11 s6 hq => ?_)
  obtain ⟨c7, f8, rfl⟩ := hq
  refine T_vN ?_
  have f9 := z_Fr.tr (R := R_X11_more_1) z_Fr.rf f8 rs_X9_copyFrom_19_6__X11_more_1
  have t14 : s6 1 12 = r0 1 12 := f8 1 12 (by decide)
  have t15 : s6 191 16 = r0 191 16 := f8 191 16 (by decide)
  have r16 := z_V16.fr p0 (f8 1 16 (by decide)) (f8 191 16 (by decide)) (f8 6 6 (by decide)) (fun b => f8 195 b (nr_X9_copyFrom_19_6__195 b)) (fun b => f8 197 b (nr_X9_copyFrom_19_6__197 b))
  refine T_if1 (by decide +kernel) ?_
  refine T_useI (sf_X11_readTape_1 hfu s6 c7 a1 (by omega) r16) (fun v22 s17 hq => ?_)
  obtain ⟨c18, f19, o23, o24, ⟨x21, rfl, b25, b26⟩⟩ := hq
  refine T_vI ?_
  have f20 := z_Fr.tr (R := R_X11_more_1) f9 f19 rs_X11_readTape_1__X11_more_1
  have t27 : s17 191 16 = s6 191 16 := f19 191 16 (by decide)
  have u28 := CI_b c18 (k := 1) (j := 12) bd_1_12
  refine T_if1 (by decide +kernel) ?_
  refine T_useN (sf_X11_refresh_1 hfu s17 c18 o23) (fun v34 s29 hq => ?_)
  obtain ⟨c30, f31, o35, rfl⟩ := hq
  refine T_vN ?_
  have f32 := z_Fr.tr (R := R_X11_more_1) f20 f31 rs_X11_refresh_1__X11_more_1
  have t38 : s29 1 12 = s17 1 12 := f31 1 12 (by decide)
  have u39 := CI_b c30 (k := 191) (j := 16) bd_191_16
  refine T_ite (fun h40 => ?_) (fun h40 => ?_)
  · refine T_leq (fun x41 e42 => ?_)
    have w43 := z_wr e42
    exact sj_X11_more_1_J49 hfu r0 s29 c30 f32 x41 a1 (by omega) (Or.inr o35) (by omega)
  · refine T_if1 (by decide +kernel) ?_
    refine T_let 191 (by decide +kernel) ?_
    refine T_if1 (by decide +kernel) ?_
    refine T_leq (fun x44 e45 => ?_)
    have u46 := CI_b c30 (k := 191) (j := 16) bd_191_16
    exact sj_X11_more_1_J49 hfu r0 s29 c30 f32 x44 a1 (by omega) (Or.inr o35) (by omega)
abbrev R_X11_fault_1 (a b : Int) : Prop := False
abbrev P_X11_fault_1 (r0 : z_M) : z_V → z_M → Prop := fun v s' => z_CI s' ∧ z_Fr R_X11_fault_1 r0 s' ∧ (z_V16 s') ∧ (∃ x, v = vI x ∧ -2147483648 ≤ x ∧ x ≤ 2147483647)
theorem sf_X11_fault_1 {fu : Nat} (hfu : 8589934592 ≤ fu) (r0 : z_M) (c0 : z_CI r0) (p0 : z_V16 r0) : z_T (fX11_fault fu r0 1) (P_X11_fault_1 r0) := by
  refine T_of (fX11_fault.eq_1 ..) ?_
  refine T_if1 (by decide +kernel) ?_
  refine T_leq (fun x1 e2 => ?_)
  have u3 := CI_b c0 (k := 1) (j := 13) bd_1_13
  exact T_ret ⟨c0, z_Fr.rf, p0, ⟨x1, rfl, by omega, by omega⟩⟩
abbrev R_X11_set_1 (a b : Int) : Prop := (3 ≤ a ∧ a ≤ 3) ∨ (a = 1 ∧ (b = 15 ∨ b = 16 ∨ b = 17))
abbrev P_X11_set_1 (r0 : z_M) : z_V → z_M → Prop := fun v s' => z_CI s' ∧ z_Fr R_X11_set_1 r0 s' ∧ (z_V16 s') ∧ ((∃ x, v = vI x ∧ -2147483648 ≤ x ∧ x ≤ 2147483647) ∨ v = vX 1)
theorem sj_X11_set_1_J79 {fu : Nat} (hfu : 8589934592 ≤ fu) (r0 s : z_M) (c : z_CI s) (f : z_Fr R_X11_set_1 r0 s) (a3 : Int) (b3 : -2147483648 ≤ a3 ∧ a3 ≤ 2147483647) (p0 : z_V16 s) : z_T (fX11_set_J79 fu s a3) (P_X11_set_1 r0) := by
  refine T_of (fX11_set_J79.eq_1 ..) ?_
  exact T_ret ⟨c, f, p0, Or.inl (⟨a3, rfl, by omega, by omega⟩)⟩
theorem sf_X11_set_1 {fu : Nat} (hfu : 8589934592 ≤ fu) (r0 : z_M) (c0 : z_CI r0) (a1 : Int) (a2 : Int) (b1 : -2147483648 ≤ a1 ∧ a1 ≤ 2147483647) (b2 : -2147483648 ≤ a2 ∧ a2 ≤ 2147483647) (p0 : z_V16 r0) : z_T (fX11_set fu r0 1 a1 a2) (P_X11_set_1 r0) := by
  refine T_of (fX11_set.eq_1 ..) ?_
  refine T_if1 (by decide) ?_
  refine T_leq (fun x1 e2 => ?_)
  have w3 := z_wr e2
  refine T_if1 (by decide +kernel) ?_
  refine T_nw ?_ (fun h4 h5 => ?_)
  · exact T_ret ⟨CI_up c0 bd_1_15 (z_wb rfl).1, z_Fr.upf (R := R_X11_set_1) z_Fr.rf (fun a b h => z_up_k h) (fun b h => z_up_j h) (Or.inr (⟨rfl, by decide⟩)), z_V16.fr p0 (z_up_j (by decide)) (z_up_k (by decide)) (z_up_k (by decide)) (fun _ => z_up_k (by decide)) (fun _ => z_up_k (by decide)), Or.inr rfl⟩
  refine T_pick (by decide) (fun x6 e7 b8 => ?_)
  refine T_pick (by decide) (fun x9 e10 b11 => ?_)
  refine T_if1 (by decide +kernel) ?_
  refine T_nw ?_ (fun h12 h13 => ?_)
  · exact T_ret ⟨CI_up c0 bd_1_15 (z_wb rfl).1, z_Fr.upf (R := R_X11_set_1) z_Fr.rf (fun a b h => z_up_k h) (fun b h => z_up_j h) (Or.inr (⟨rfl, by decide⟩)), z_V16.fr p0 (z_up_j (by decide)) (z_up_k (by decide)) (z_up_k (by decide)) (fun _ => z_up_k (by decide)) (fun _ => z_up_k (by decide)), Or.inr rfl⟩
  refine T_if1 (by decide +kernel) ?_
  refine T_let 2 (by decide +kernel) ?_
  refine T_if1 (by decide +kernel) ?_
  refine T_get (by decide +kernel) (c := 3) (by decide +kernel) bdr_3 (by decide) c0 (fun x14 e15 b16 w17 => ?_)
  have l18 : z_ln 2 = 9 := by decide +kernel
  refine T_if1 (by decide +kernel) ?_
  refine T_let 2 (by decide +kernel) ?_
  refine T_if1 (by decide +kernel) ?_
  refine T_put (by decide +kernel) (c := 3) (by decide +kernel) bdr_3 (by omega) c0 (fun s19 e22 c20 g23 => ?_)
  have f21 := z_Fr.up (R := R_X11_set_1) z_Fr.rf g23 (fun _ => (Or.inl (⟨by decide, by decide⟩)))
  have r24 := z_V16.fr p0 (g23 1 16 (by decide)) (g23 191 16 (by decide)) (g23 6 6 (by decide)) (fun b => g23 195 b (by decide)) (fun b => g23 197 b (by decide))
  refine T_if1 ⟨(by decide +kernel), by unfold z_bl; omega⟩ ?_
  refine T_upg c20 bd_1_17 (by omega) (fun s25 c26 g28 g29 e30 => ?_)
  have f27 := z_Fr.upf (R := R_X11_set_1) f21 g28 g29 (Or.inr (⟨rfl, by decide⟩))
  have r31 := z_V16.fr r24 (g29 16 (by decide)) (g28 191 16 (by decide)) (g28 6 6 (by decide)) (fun b => g28 195 b (by decide)) (fun b => g28 197 b (by decide))
  refine T_ite (fun h32 => ?_) (fun h32 => ?_)
  · exact sj_X11_set_1_J79 hfu r0 s25 c26 f27 x14 (by omega) r31
  · refine T_ite (fun h33 => ?_) (fun h33 => ?_)
    · exact sj_X11_set_1_J79 hfu r0 s25 c26 f27 x14 (by omega) r31
    · refine T_ite (fun h34 => ?_) (fun h34 => ?_)
      · exact sj_X11_set_1_J79 hfu r0 s25 c26 f27 x14 (by omega) r31
      · refine T_ite (fun h35 => ?_) (fun h35 => ?_)
        · exact sj_X11_set_1_J79 hfu r0 s25 c26 f27 x14 (by omega) r31
        · refine T_if1 ⟨(by decide +kernel), by unfold z_bl; omega⟩ ?_
          refine T_upg c26 bd_1_16 (by omega) (fun s36 c37 g39 g40 e41 => ?_)
          have f38 := z_Fr.upf (R := R_X11_set_1) f27 g39 g40 (Or.inr (⟨rfl, by decide⟩))
          exact sj_X11_set_1_J79 hfu r0 s36 c37 f38 x14 (by omega) (Or.inl (by omega))
abbrev R_X9_copyFrom_6_178 (a b : Int) : Prop := (8 ≤ a ∧ a ≤ 18) ∨ (a = 6 ∧ (b = 6 ∨ b = 7 ∨ b = 8))
abbrev P_X9_copyFrom_6_178 (r0 : z_M) : z_V → z_M → Prop := fun v s' => z_CI s' ∧ z_Fr R_X9_copyFrom_6_178 r0 s' ∧ (v = vN)
theorem sf_X9_copyFrom_6_178 {fu : Nat} (hfu : 8589934592 ≤ fu) (r0 : z_M) (c0 : z_CI r0) : z_T (fX9_copyFrom fu r0 6 178) (P_X9_copyFrom_6_178 r0) := by
  refine T_of (fX9_copyFrom.eq_1 ..) ?_
  refine T_if1 (by decide +kernel) ?_
  refine T_leq (fun x1 e2 => ?_)
  have u3 := CI_b c0 (k := 178) (j := 6) bd_178_6
  refine T_if1 (by decide +kernel) ?_
  refine T_upg c0 bd_6_6 (by omega) (fun s4 c5 g7 g8 e9 => ?_)
  have f6 := z_Fr.upf (R := R_X9_copyFrom_6_178) z_Fr.rf g7 g8 (Or.inr (⟨rfl, by decide⟩))
  have t10 : s4 178 6 = r0 178 6 := g7 178 6 (by decide)
  have t11 : s4 178 7 = r0 178 7 := g7 178 7 (by decide)
  have t12 : s4 178 8 = r0 178 8 := g7 178 8 (by decide)
  refine T_if1 (by decide +kernel) ?_
  refine T_leq (fun x13 e14 => ?_)
  have u15 := CI_b c5 (k := 178) (j := 7) bd_178_7
  refine T_if1 (by decide +kernel) ?_
  refine T_upg c5 bd_6_7 (by omega) (fun s16 c17 g19 g20 e21 => ?_)
  have f18 := z_Fr.upf (R := R_X9_copyFrom_6_178) f6 g19 g20 (Or.inr (⟨rfl, by decide⟩))
  have t22 : s16 6 6 = s4 6 6 := g20 6 (by decide)
  have t23 : s16 178 6 = s4 178 6 := g19 178 6 (by decide)
  have t24 : s16 178 7 = s4 178 7 := g19 178 7 (by decide)
  have t25 : s16 178 8 = s4 178 8 := g19 178 8 (by decide)
  refine T_if1 (by decide +kernel) ?_
  refine T_leq (fun x26 e27 => ?_)
  have u28 := CI_b c17 (k := 178) (j := 8) bd_178_8
  refine T_if1 (by decide +kernel) ?_
  refine T_upg c17 bd_6_8 (by omega) (fun s29 c30 g32 g33 e34 => ?_)
  have f31 := z_Fr.upf (R := R_X9_copyFrom_6_178) f18 g32 g33 (Or.inr (⟨rfl, by decide⟩))
  have t35 : s29 6 6 = s16 6 6 := g33 6 (by decide)
  have t36 : s29 178 6 = s16 178 6 := g32 178 6 (by decide)
  have t37 : s29 178 7 = s16 178 7 := g32 178 7 (by decide)
  have t38 : s29 178 8 = s16 178 8 := g32 178 8 (by decide)
  refine T_if1 (by decide +kernel) ?_
  refine T_let 7 (by decide +kernel) ?_
  refine T_if1 (by decide +kernel) ?_
  refine T_let 179 (by decide +kernel) ?_
  refine T_if1 (by decide +kernel) ?_
  refine T_leq (fun x39 e40 => ?_)
  have u41 := CI_b c30 (k := 6) (j := 6) bd_6_6
  refine T_if1 (by decide +kernel) ?_
  refine T_copy hfu (by decide +kernel) (by decide +kernel) (c := 8) (c2 := 180) (by decide +kernel) (by decide +kernel) (by decide) (by omega) bdr_8 bdr_180 (by decide) (by decide) c30 (fun s42 e45 c43 g46 => ?_)
  have f44 := z_Fr.up (R := R_X9_copyFrom_6_178) f31 g46 (fun _ => (Or.inl (⟨by decide, by decide⟩)))
  have t47 : s42 6 6 = s29 6 6 := g46 6 6 (by decide)
  have t48 : s42 178 6 = s29 178 6 := g46 178 6 (by decide)
  have t49 : s42 178 7 = s29 178 7 := g46 178 7 (by decide)
  have t50 : s42 178 8 = s29 178 8 := g46 178 8 (by decide)
  refine T_if1 (by decide +kernel) ?_
  refine T_let 9 (by decide +kernel) ?_
  refine T_if1 (by decide +kernel) ?_
  refine T_let 181 (by decide +kernel) ?_
  refine T_if1 (by decide +kernel) ?_
  refine T_leq (fun x51 e52 => ?_)
  have u53 := CI_b c43 (k := 6) (j := 6) bd_6_6
  refine T_if1 (by decide +kernel) ?_
  refine T_copy hfu (by decide +kernel) (by decide +kernel) (c := 10) (c2 := 182) (by decide +kernel) (by decide +kernel) (by decide) (by omega) bdr_10 bdr_182 (by decide) (by decide) c43 (fun s54 e57 c55 g58 => ?_)
  have f56 := z_Fr.up (R := R_X9_copyFrom_6_178) f44 g58 (fun _ => (Or.inl (⟨by decide, by decide⟩)))
  have t59 : s54 6 6 = s42 6 6 := g58 6 6 (by decide)
  have t60 : s54 178 6 = s42 178 6 := g58 178 6 (by decide)
  have t61 : s54 178 7 = s42 178 7 := g58 178 7 (by decide)
  have t62 : s54 178 8 = s42 178 8 := g58 178 8 (by decide)
  refine T_if1 (by decide +kernel) ?_
  refine T_let 11 (by decide +kernel) ?_
  refine T_if1 (by decide +kernel) ?_
  refine T_let 183 (by decide +kernel) ?_
  refine T_if1 (by decide +kernel) ?_
  refine T_leq (fun x63 e64 => ?_)
  have u65 := CI_b c55 (k := 6) (j := 6) bd_6_6
  refine T_if1 (by decide +kernel) ?_
  refine T_copy hfu (by decide +kernel) (by decide +kernel) (c := 12) (c2 := 184) (by decide +kernel) (by decide +kernel) (by decide) (by omega) bdr_12 bdr_184 (by decide) (by decide) c55 (fun s66 e69 c67 g70 => ?_)
  have f68 := z_Fr.up (R := R_X9_copyFrom_6_178) f56 g70 (fun _ => (Or.inl (⟨by decide, by decide⟩)))
  have t71 : s66 6 6 = s54 6 6 := g70 6 6 (by decide)
  have t72 : s66 178 6 = s54 178 6 := g70 178 6 (by decide)
  have t73 : s66 178 7 = s54 178 7 := g70 178 7 (by decide)
  have t74 : s66 178 8 = s54 178 8 := g70 178 8 (by decide)
  refine T_if1 (by decide +kernel) ?_
  refine T_let 13 (by decide +kernel) ?_
  refine T_if1 (by decide +kernel) ?_
  refine T_let 185 (by decide +kernel) ?_
  refine T_if1 (by decide +kernel) ?_
  refine T_leq (fun x75 e76 => ?_)
  have u77 := CI_b c67 (k := 6) (j := 6) bd_6_6
  refine T_if1 (by decide +kernel) ?_
  refine T_copy hfu (by decide +kernel) (by decide +kernel) (c := 14) (c2 := 186) (by decide +kernel) (by decide +kernel) (by decide) (by omega) bdr_14 bdr_186 (by decide) (by decide) c67 (fun s78 e81 c79 g82 => ?_)
  have f80 := z_Fr.up (R := R_X9_copyFrom_6_178) f68 g82 (fun _ => (Or.inl (⟨by decide, by decide⟩)))
  have t83 : s78 6 6 = s66 6 6 := g82 6 6 (by decide)
  have t84 : s78 178 6 = s66 178 6 := g82 178 6 (by decide)
  have t85 : s78 178 7 = s66 178 7 := g82 178 7 (by decide)
  have t86 : s78 178 8 = s66 178 8 := g82 178 8 (by decide)
  refine T_if1 (by decide +kernel) ?_
  refine T_let 15 (by decide +kernel) ?_
  refine T_if1 (by decide +kernel) ?_
  refine T_let 187 (by decide +kernel) ?_
  refine T_if1 (by decide +kernel) ?_
  refine T_leq (fun x87 e88 => ?_)
  have u89 := CI_b c79 (k := 6) (j := 6) bd_6_6
  refine T_if1 (by decide +kernel) ?_
  refine T_lcopy hfu (by decide +kernel) (by decide +kernel) (c := 16) (c2 := 188) (by decide +kernel) (by decide +kernel) (by decide) (by omega) bdr_16 bdr_188 (by decide) (by decide) c79 (fun s90 e93 c91 g94 => ?_)
  have f92 := z_Fr.up (R := R_X9_copyFrom_6_178) f80 g94 (fun _ => (Or.inl (⟨by decide, by decide⟩)))
  have t95 : s90 6 6 = s78 6 6 := g94 6 6 (by decide)
  have t96 : s90 178 6 = s78 178 6 := g94 178 6 (by decide)
  have t97 : s90 178 7 = s78 178 7 := g94 178 7 (by decide)
  have t98 : s90 178 8 = s78 178 8 := g94 178 8 (by decide)
  refine T_if1 (by decide +kernel) ?_
  refine T_let 17 (by decide +kernel) ?_
  refine T_if1 (by decide +kernel) ?_
  refine T_let 189 (by decide +kernel) ?_
  refine T_if1 (by decide +kernel) ?_
  refine T_leq (fun x99 e100 => ?_)
  have u101 := CI_b c91 (k := 6) (j := 6) bd_6_6
  refine T_if1 (by decide +kernel) ?_
  refine T_lcopy hfu (by decide +kernel) (by decide +kernel) (c := 18) (c2 := 190) (by decide +kernel) (by decide +kernel) (by decide) (by omega) bdr_18 bdr_190 (by decide) (by decide) c91 (fun s102 e105 c103 g106 => ?_)
  have f104 := z_Fr.up (R := R_X9_copyFrom_6_178) f92 g106 (fun _ => (Or.inl (⟨by decide, by decide⟩)))
  have t107 : s102 6 6 = s90 6 6 := g106 6 6 (by decide)
  have t108 : s102 178 6 = s90 178 6 := g106 178 6 (by decide)
  have t109 : s102 178 7 = s90 178 7 := g106 178 7 (by decide)
  have t110 : s102 178 8 = s90 178 8 := g106 178 8 (by decide)
  exact T_ret ⟨c103, f104, rfl⟩
abbrev R_X9_copyFrom_6_165 (a b : Int) : Prop := (8 ≤ a ∧ a ≤ 18) ∨ (a = 6 ∧ (b = 6 ∨ b = 7 ∨ b = 8))
abbrev P_X9_copyFrom_6_165 (r0 : z_M) : z_V → z_M → Prop := fun v s' => z_CI s' ∧ z_Fr R_X9_copyFrom_6_165 r0 s' ∧ (v = vN)
theorem sf_X9_copyFrom_6_165 {fu : Nat} (hfu : 8589934592 ≤ fu) (r0 : z_M) (c0 : z_CI r0) : z_T (fX9_copyFrom fu r0 6 165) (P_X9_copyFrom_6_165 r0) := by
  refine T_of (fX9_copyFrom.eq_1 ..) ?_
  refine T_if1 (by decide +kernel) ?_
  refine T_leq (fun x1 e2 => ?_)
  have u3 := CI_b c0 (k := 165) (j := 6) bd_165_6
  refine T_if1 (by decide +kernel) ?_
  refine T_upg c0 bd_6_6 (by omega) (fun s4 c5 g7 g8 e9 => ?_)
  have f6 := z_Fr.upf (R := R_X9_copyFrom_6_165) z_Fr.rf g7 g8 (Or.inr (⟨rfl, by decide⟩))
  have t10 : s4 165 6 = r0 165 6 := g7 165 6 (by decide)
  have t11 : s4 165 7 = r0 165 7 := g7 165 7 (by decide)
  have t12 : s4 165 8 = r0 165 8 := g7 165 8 (by decide)
  refine T_if1 (by decide +kernel) ?_
  refine T_leq (fun x13 e14 => ?_)
  have u15 := CI_b c5 (k := 165) (j := 7) bd_165_7
  refine T_if1 (by decide +kernel) ?_
  refine T_upg c5 bd_6_7 (by omega) (fun s16 c17 g19 g20 e21 => ?_)
  have f18 := z_Fr.upf (R := R_X9_copyFrom_6_165) f6 g19 g20 (Or.inr (⟨rfl, by decide⟩))
  have t22 : s16 6 6 = s4 6 6 := g20 6 (by decide)
  have t23 : s16 165 6 = s4 165 6 := g19 165 6 (by decide)
  have t24 : s16 165 7 = s4 165 7 := g19 165 7 (by decide)
  have t25 : s16 165 8 = s4 165 8 := g19 165 8 (by decide)
  refine T_if1 (by decide +kernel) ?_
  refine T_leq (fun x26 e27 => ?_)
  have u28 := CI_b c17 (k := 165) (j := 8) bd_165_8
  refine T_if1 (by decide +kernel) ?_
  refine T_upg c17 bd_6_8 (by omega) (fun s29 c30 g32 g33 e34 => ?_)
  have f31 := z_Fr.upf (R := R_X9_copyFrom_6_165) f18 g32 g33 (Or.inr (⟨rfl, by decide⟩))
  have t35 : s29 6 6 = s16 6 6 := g33 6 (by decide)
  have t36 : s29 165 6 = s16 165 6 := g32 165 6 (by decide)
  have t37 : s29 165 7 = s16 165 7 := g32 165 7 (by decide)
  have t38 : s29 165 8 = s16 165 8 := g32 165 8 (by decide)
  refine T_if1 (by decide +kernel) ?_
  refine T_let 7 (by decide +kernel) ?_
  refine T_if1 (by decide +kernel) ?_
  refine T_let 166 (by decide +kernel) ?_
  refine T_if1 (by decide +kernel) ?_
  refine T_leq (fun x39 e40 => ?_)
  have u41 := CI_b c30 (k := 6) (j := 6) bd_6_6
  refine T_if1 (by decide +kernel) ?_
  refine T_copy hfu (by decide +kernel) (by decide +kernel) (c := 8) (c2 := 167) (by decide +kernel) (by decide +kernel) (by decide) (by omega) bdr_8 bdr_167 (by decide) (by decide) c30 (fun s42 e45 c43 g46 => ?_)
  have f44 := z_Fr.up (R := R_X9_copyFrom_6_165) f31 g46 (fun _ => (Or.inl (⟨by decide, by decide⟩)))
  have t47 : s42 6 6 = s29 6 6 := g46 6 6 (by decide)
  have t48 : s42 165 6 = s29 165 6 := g46 165 6 (by decide)
  have t49 : s42 165 7 = s29 165 7 := g46 165 7 (by decide)
  have t50 : s42 165 8 = s29 165 8 := g46 165 8 (by decide)
  refine T_if1 (by decide +kernel) ?_
  refine T_let 9 (by decide +kernel) ?_
  refine T_if1 (by decide +kernel) ?_
  refine T_let 168 (by decide +kernel) ?_
  refine T_if1 (by decide +kernel) ?_
  refine T_leq (fun x51 e52 => ?_)
  have u53 := CI_b c43 (k := 6) (j := 6) bd_6_6
  refine T_if1 (by decide +kernel) ?_
  refine T_copy hfu (by decide +kernel) (by decide +kernel) (c := 10) (c2 := 169) (by decide +kernel) (by decide +kernel) (by decide) (by omega) bdr_10 bdr_169 (by decide) (by decide) c43 (fun s54 e57 c55 g58 => ?_)
  have f56 := z_Fr.up (R := R_X9_copyFrom_6_165) f44 g58 (fun _ => (Or.inl (⟨by decide, by decide⟩)))
  have t59 : s54 6 6 = s42 6 6 := g58 6 6 (by decide)
  have t60 : s54 165 6 = s42 165 6 := g58 165 6 (by decide)
  have t61 : s54 165 7 = s42 165 7 := g58 165 7 (by decide)
  have t62 : s54 165 8 = s42 165 8 := g58 165 8 (by decide)
  refine T_if1 (by decide +kernel) ?_
  refine T_let 11 (by decide +kernel) ?_
  refine T_if1 (by decide +kernel) ?_
  refine T_let 170 (by decide +kernel) ?_
  refine T_if1 (by decide +kernel) ?_
  refine T_leq (fun x63 e64 => ?_)
  have u65 := CI_b c55 (k := 6) (j := 6) bd_6_6
  refine T_if1 (by decide +kernel) ?_
  refine T_copy hfu (by decide +kernel) (by decide +kernel) (c := 12) (c2 := 171) (by decide +kernel) (by decide +kernel) (by decide) (by omega) bdr_12 bdr_171 (by decide) (by decide) c55 (fun s66 e69 c67 g70 => ?_)
  have f68 := z_Fr.up (R := R_X9_copyFrom_6_165) f56 g70 (fun _ => (Or.inl (⟨by decide, by decide⟩)))
  have t71 : s66 6 6 = s54 6 6 := g70 6 6 (by decide)
  have t72 : s66 165 6 = s54 165 6 := g70 165 6 (by decide)
  have t73 : s66 165 7 = s54 165 7 := g70 165 7 (by decide)
  have t74 : s66 165 8 = s54 165 8 := g70 165 8 (by decide)
  refine T_if1 (by decide +kernel) ?_
  refine T_let 13 (by decide +kernel) ?_
  refine T_if1 (by decide +kernel) ?_
  refine T_let 172 (by decide +kernel) ?_
  refine T_if1 (by decide +kernel) ?_
  refine T_leq (fun x75 e76 => ?_)
  have u77 := CI_b c67 (k := 6) (j := 6) bd_6_6
  refine T_if1 (by decide +kernel) ?_
  refine T_copy hfu (by decide +kernel) (by decide +kernel) (c := 14) (c2 := 173) (by decide +kernel) (by decide +kernel) (by decide) (by omega) bdr_14 bdr_173 (by decide) (by decide) c67 (fun s78 e81 c79 g82 => ?_)
  have f80 := z_Fr.up (R := R_X9_copyFrom_6_165) f68 g82 (fun _ => (Or.inl (⟨by decide, by decide⟩)))
  have t83 : s78 6 6 = s66 6 6 := g82 6 6 (by decide)
  have t84 : s78 165 6 = s66 165 6 := g82 165 6 (by decide)
  have t85 : s78 165 7 = s66 165 7 := g82 165 7 (by decide)
  have t86 : s78 165 8 = s66 165 8 := g82 165 8 (by decide)
  refine T_if1 (by decide +kernel) ?_
  refine T_let 15 (by decide +kernel) ?_
  refine T_if1 (by decide +kernel) ?_
  refine T_let 174 (by decide +kernel) ?_
  refine T_if1 (by decide +kernel) ?_
  refine T_leq (fun x87 e88 => ?_)
  have u89 := CI_b c79 (k := 6) (j := 6) bd_6_6
  refine T_if1 (by decide +kernel) ?_
  refine T_lcopy hfu (by decide +kernel) (by decide +kernel) (c := 16) (c2 := 175) (by decide +kernel) (by decide +kernel) (by decide) (by omega) bdr_16 bdr_175 (by decide) (by decide) c79 (fun s90 e93 c91 g94 => ?_)
  have f92 := z_Fr.up (R := R_X9_copyFrom_6_165) f80 g94 (fun _ => (Or.inl (⟨by decide, by decide⟩)))
  have t95 : s90 6 6 = s78 6 6 := g94 6 6 (by decide)
  have t96 : s90 165 6 = s78 165 6 := g94 165 6 (by decide)
  have t97 : s90 165 7 = s78 165 7 := g94 165 7 (by decide)
  have t98 : s90 165 8 = s78 165 8 := g94 165 8 (by decide)
  refine T_if1 (by decide +kernel) ?_
  refine T_let 17 (by decide +kernel) ?_
  refine T_if1 (by decide +kernel) ?_
  refine T_let 176 (by decide +kernel) ?_
  refine T_if1 (by decide +kernel) ?_
  refine T_leq (fun x99 e100 => ?_)
  have u101 := CI_b c91 (k := 6) (j := 6) bd_6_6
  refine T_if1 (by decide +kernel) ?_
  refine T_lcopy hfu (by decide +kernel) (by decide +kernel) (c := 18) (c2 := 177) (by decide +kernel) (by decide +kernel) (by decide) (by omega) bdr_18 bdr_177 (by decide) (by decide) c91 (fun s102 e105 c103 g106 => ?_)
  have f104 := z_Fr.up (R := R_X9_copyFrom_6_165) f92 g106 (fun _ => (Or.inl (⟨by decide, by decide⟩)))
  have t107 : s102 6 6 = s90 6 6 := g106 6 6 (by decide)
  have t108 : s102 165 6 = s90 165 6 := g106 165 6 (by decide)
  have t109 : s102 165 7 = s90 165 7 := g106 165 7 (by decide)
  have t110 : s102 165 8 = s90 165 8 := g106 165 8 (by decide)
  exact T_ret ⟨c103, f104, rfl⟩
abbrev R_X9_copyFrom_6_152 (a b : Int) : Prop := (8 ≤ a ∧ a ≤ 18) ∨ (a = 6 ∧ (b = 6 ∨ b = 7 ∨ b = 8))
abbrev P_X9_copyFrom_6_152 (r0 : z_M) : z_V → z_M → Prop := fun v s' => z_CI s' ∧ z_Fr R_X9_copyFrom_6_152 r0 s' ∧ (v = vN)
theorem sf_X9_copyFrom_6_152 {fu : Nat} (hfu : 8589934592 ≤ fu) (r0 : z_M) (c0 : z_CI r0) : z_T (fX9_copyFrom fu r0 6 152) (P_X9_copyFrom_6_152 r0) := by
  refine T_of (fX9_copyFrom.eq_1 ..) ?_
  refine T_if1 (by decide +kernel) ?_
  refine T_leq (fun x1 e2 => ?_)
  have u3 := CI_b c0 (k := 152) (j := 6) bd_152_6
  refine T_if1 (by decide +kernel) ?_
  refine T_upg c0 bd_6_6 (by omega) (fun s4 c5 g7 g8 e9 => ?_)
  have f6 := z_Fr.upf (R := R_X9_copyFrom_6_152) z_Fr.rf g7 g8 (Or.inr (⟨rfl, by decide⟩))
  have t10 : s4 152 6 = r0 152 6 := g7 152 6 (by decide)
  have t11 : s4 152 7 = r0 152 7 := g7 152 7 (by decide)
  have t12 : s4 152 8 = r0 152 8 := g7 152 8 (by decide)
  refine T_if1 (by decide +kernel) ?_
  refine T_leq (fun x13 e14 => ?_)
  have u15 := CI_b c5 (k := 152) (j := 7) bd_152_7
  refine T_if1 (by decide +kernel) ?_
  refine T_upg c5 bd_6_7 (by omega) (fun s16 c17 g19 g20 e21 => ?_)
  have f18 := z_Fr.upf (R := R_X9_copyFrom_6_152) f6 g19 g20 (Or.inr (⟨rfl, by decide⟩))
  have t22 : s16 6 6 = s4 6 6 := g20 6 (by decide)
  have t23 : s16 152 6 = s4 152 6 := g19 152 6 (by decide)
  have t24 : s16 152 7 = s4 152 7 := g19 152 7 (by decide)
  have t25 : s16 152 8 = s4 152 8 := g19 152 8 (by decide)
  refine T_if1 (by decide +kernel) ?_
  refine T_leq (fun x26 e27 => ?_)
  have u28 := CI_b c17 (k := 152) (j := 8) bd_152_8
  refine T_if1 (by decide +kernel) ?_
  refine T_upg c17 bd_6_8 (by omega) (fun s29 c30 g32 g33 e34 => ?_)
  have f31 := z_Fr.upf (R := R_X9_copyFrom_6_152) f18 g32 g33 (Or.inr (⟨rfl, by decide⟩))
  have t35 : s29 6 6 = s16 6 6 := g33 6 (by decide)
  have t36 : s29 152 6 = s16 152 6 := g32 152 6 (by decide)
  have t37 : s29 152 7 = s16 152 7 := g32 152 7 (by decide)
  have t38 : s29 152 8 = s16 152 8 := g32 152 8 (by decide)
  refine T_if1 (by decide +kernel) ?_
  refine T_let 7 (by decide +kernel) ?_
  refine T_if1 (by decide +kernel) ?_
  refine T_let 153 (by decide +kernel) ?_
  refine T_if1 (by decide +kernel) ?_
  refine T_leq (fun x39 e40 => ?_)
  have u41 := CI_b c30 (k := 6) (j := 6) bd_6_6
  refine T_if1 (by decide +kernel) ?_
  refine T_copy hfu (by decide +kernel) (by decide +kernel) (c := 8) (c2 := 154) (by decide +kernel) (by decide +kernel) (by decide) (by omega) bdr_8 bdr_154 (by decide) (by decide) c30 (fun s42 e45 c43 g46 => ?_)
  have f44 := z_Fr.up (R := R_X9_copyFrom_6_152) f31 g46 (fun _ => (Or.inl (⟨by decide, by decide⟩)))
  have t47 : s42 6 6 = s29 6 6 := g46 6 6 (by decide)
  have t48 : s42 152 6 = s29 152 6 := g46 152 6 (by decide)
  have t49 : s42 152 7 = s29 152 7 := g46 152 7 (by decide)
  have t50 : s42 152 8 = s29 152 8 := g46 152 8 (by decide)
  refine T_if1 (by decide +kernel) ?_
  refine T_let 9 (by decide +kernel) ?_
  refine T_if1 (by decide +kernel) ?_
  refine T_let 155 (by decide +kernel) ?_
  refine T_if1 (by decide +kernel) ?_
  refine T_leq (fun x51 e52 => ?_)
  have u53 := CI_b c43 (k := 6) (j := 6) bd_6_6
  refine T_if1 (by decide +kernel) ?_
  refine T_copy hfu (by decide +kernel) (by decide +kernel) (c := 10) (c2 := 156) (by decide +kernel) (by decide +kernel) (by decide) (by omega) bdr_10 bdr_156 (by decide) (by decide) c43 (fun s54 e57 c55 g58 => ?_)
  have f56 := z_Fr.up (R := R_X9_copyFrom_6_152) f44 g58 (fun _ => (Or.inl (⟨by decide, by decide⟩)))
  have t59 : s54 6 6 = s42 6 6 := g58 6 6 (by decide)
  have t60 : s54 152 6 = s42 152 6 := g58 152 6 (by decide)
  have t61 : s54 152 7 = s42 152 7 := g58 152 7 (by decide)
  have t62 : s54 152 8 = s42 152 8 := g58 152 8 (by decide)
  refine T_if1 (by decide +kernel) ?_
  refine T_let 11 (by decide +kernel) ?_
  refine T_if1 (by decide +kernel) ?_
  refine T_let 157 (by decide +kernel) ?_
  refine T_if1 (by decide +kernel) ?_
  refine T_leq (fun x63 e64 => ?_)
  have u65 := CI_b c55 (k := 6) (j := 6) bd_6_6
  refine T_if1 (by decide +kernel) ?_
  refine T_copy hfu (by decide +kernel) (by decide +kernel) (c := 12) (c2 := 158) (by decide +kernel) (by decide +kernel) (by decide) (by omega) bdr_12 bdr_158 (by decide) (by decide) c55 (fun s66 e69 c67 g70 => ?_)
  have f68 := z_Fr.up (R := R_X9_copyFrom_6_152) f56 g70 (fun _ => (Or.inl (⟨by decide, by decide⟩)))
  have t71 : s66 6 6 = s54 6 6 := g70 6 6 (by decide)
  have t72 : s66 152 6 = s54 152 6 := g70 152 6 (by decide)
  have t73 : s66 152 7 = s54 152 7 := g70 152 7 (by decide)
  have t74 : s66 152 8 = s54 152 8 := g70 152 8 (by decide)
  refine T_if1 (by decide +kernel) ?_
  refine T_let 13 (by decide +kernel) ?_
  refine T_if1 (by decide +kernel) ?_
  refine T_let 159 (by decide +kernel) ?_
  refine T_if1 (by decide +kernel) ?_
  refine T_leq (fun x75 e76 => ?_)
  have u77 := CI_b c67 (k := 6) (j := 6) bd_6_6
  refine T_if1 (by decide +kernel) ?_
  refine T_copy hfu (by decide +kernel) (by decide +kernel) (c := 14) (c2 := 160) (by decide +kernel) (by decide +kernel) (by decide) (by omega) bdr_14 bdr_160 (by decide) (by decide) c67 (fun s78 e81 c79 g82 => ?_)
  have f80 := z_Fr.up (R := R_X9_copyFrom_6_152) f68 g82 (fun _ => (Or.inl (⟨by decide, by decide⟩)))
  have t83 : s78 6 6 = s66 6 6 := g82 6 6 (by decide)
  have t84 : s78 152 6 = s66 152 6 := g82 152 6 (by decide)
  have t85 : s78 152 7 = s66 152 7 := g82 152 7 (by decide)
  have t86 : s78 152 8 = s66 152 8 := g82 152 8 (by decide)
  refine T_if1 (by decide +kernel) ?_
  refine T_let 15 (by decide +kernel) ?_
  refine T_if1 (by decide +kernel) ?_
  refine T_let 161 (by decide +kernel) ?_
  refine T_if1 (by decide +kernel) ?_
  refine T_leq (fun x87 e88 => ?_)
  have u89 := CI_b c79 (k := 6) (j := 6) bd_6_6
  refine T_if1 (by decide +kernel) ?_
  refine T_lcopy hfu (by decide +kernel) (by decide +kernel) (c := 16) (c2 := 162) (by decide +kernel) (by decide +kernel) (by decide) (by omega) bdr_16 bdr_162 (by decide) (by decide) c79 (fun s90 e93 c91 g94 => ?_)
  have f92 := z_Fr.up (R := R_X9_copyFrom_6_152) f80 g94 (fun _ => (Or.inl (⟨by decide, by decide⟩)))
  have t95 : s90 6 6 = s78 6 6 := g94 6 6 (by decide)
  have t96 : s90 152 6 = s78 152 6 := g94 152 6 (by decide)
  have t97 : s90 152 7 = s78 152 7 := g94 152 7 (by decide)
  have t98 : s90 152 8 = s78 152 8 := g94 152 8 (by decide)
  refine T_if1 (by decide +kernel) ?_
  refine T_let 17 (by decide +kernel) ?_
  refine T_if1 (by decide +kernel) ?_
  refine T_let 163 (by decide +kernel) ?_
  refine T_if1 (by decide +kernel) ?_
  refine T_leq (fun x99 e100 => ?_)
  have u101 := CI_b c91 (k := 6) (j := 6) bd_6_6
  refine T_if1 (by decide +kernel) ?_
  refine T_lcopy hfu (by decide +kernel) (by decide +kernel) (c := 18) (c2 := 164) (by decide +kernel) (by decide +kernel) (by decide) (by omega) bdr_18 bdr_164 (by decide) (by decide) c91 (fun s102 e105 c103 g106 => ?_)
  have f104 := z_Fr.up (R := R_X9_copyFrom_6_152) f92 g106 (fun _ => (Or.inl (⟨by decide, by decide⟩)))
  have t107 : s102 6 6 = s90 6 6 := g106 6 6 (by decide)
  have t108 : s102 152 6 = s90 152 6 := g106 152 6 (by decide)
  have t109 : s102 152 7 = s90 152 7 := g106 152 7 (by decide)
  have t110 : s102 152 8 = s90 152 8 := g106 152 8 (by decide)
  exact T_ret ⟨c103, f104, rfl⟩
abbrev R_X9_copyFrom_6_139 (a b : Int) : Prop := (8 ≤ a ∧ a ≤ 18) ∨ (a = 6 ∧ (b = 6 ∨ b = 7 ∨ b = 8))
abbrev P_X9_copyFrom_6_139 (r0 : z_M) : z_V → z_M → Prop := fun v s' => z_CI s' ∧ z_Fr R_X9_copyFrom_6_139 r0 s' ∧ (v = vN)
theorem sf_X9_copyFrom_6_139 {fu : Nat} (hfu : 8589934592 ≤ fu) (r0 : z_M) (c0 : z_CI r0) : z_T (fX9_copyFrom fu r0 6 139) (P_X9_copyFrom_6_139 r0) := by
  refine T_of (fX9_copyFrom.eq_1 ..) ?_
  refine T_if1 (by decide +kernel) ?_
  refine T_leq (fun x1 e2 => ?_)
  have u3 := CI_b c0 (k := 139) (j := 6) bd_139_6
  refine T_if1 (by decide +kernel) ?_
  refine T_upg c0 bd_6_6 (by omega) (fun s4 c5 g7 g8 e9 => ?_)
  have f6 := z_Fr.upf (R := R_X9_copyFrom_6_139) z_Fr.rf g7 g8 (Or.inr (⟨rfl, by decide⟩))
  have t10 : s4 139 6 = r0 139 6 := g7 139 6 (by decide)
  have t11 : s4 139 7 = r0 139 7 := g7 139 7 (by decide)
  have t12 : s4 139 8 = r0 139 8 := g7 139 8 (by decide)
  refine T_if1 (by decide +kernel) ?_
  refine T_leq (fun x13 e14 => ?_)
  have u15 := CI_b c5 (k := 139) (j := 7) bd_139_7
  refine T_if1 (by decide +kernel) ?_
  refine T_upg c5 bd_6_7 (by omega) (fun s16 c17 g19 g20 e21 => ?_)
  have f18 := z_Fr.upf (R := R_X9_copyFrom_6_139) f6 g19 g20 (Or.inr (⟨rfl, by decide⟩))
  have t22 : s16 6 6 = s4 6 6 := g20 6 (by decide)
  have t23 : s16 139 6 = s4 139 6 := g19 139 6 (by decide)
  have t24 : s16 139 7 = s4 139 7 := g19 139 7 (by decide)
  have t25 : s16 139 8 = s4 139 8 := g19 139 8 (by decide)
  refine T_if1 (by decide +kernel) ?_
  refine T_leq (fun x26 e27 => ?_)
  have u28 := CI_b c17 (k := 139) (j := 8) bd_139_8
  refine T_if1 (by decide +kernel) ?_
  refine T_upg c17 bd_6_8 (by omega) (fun s29 c30 g32 g33 e34 => ?_)
  have f31 := z_Fr.upf (R := R_X9_copyFrom_6_139) f18 g32 g33 (Or.inr (⟨rfl, by decide⟩))
  have t35 : s29 6 6 = s16 6 6 := g33 6 (by decide)
  have t36 : s29 139 6 = s16 139 6 := g32 139 6 (by decide)
  have t37 : s29 139 7 = s16 139 7 := g32 139 7 (by decide)
  have t38 : s29 139 8 = s16 139 8 := g32 139 8 (by decide)
  refine T_if1 (by decide +kernel) ?_
  refine T_let 7 (by decide +kernel) ?_
  refine T_if1 (by decide +kernel) ?_
  refine T_let 140 (by decide +kernel) ?_
  refine T_if1 (by decide +kernel) ?_
  refine T_leq (fun x39 e40 => ?_)
  have u41 := CI_b c30 (k := 6) (j := 6) bd_6_6
  refine T_if1 (by decide +kernel) ?_
  refine T_copy hfu (by decide +kernel) (by decide +kernel) (c := 8) (c2 := 141) (by decide +kernel) (by decide +kernel) (by decide) (by omega) bdr_8 bdr_141 (by decide) (by decide) c30 (fun s42 e45 c43 g46 => ?_)
  have f44 := z_Fr.up (R := R_X9_copyFrom_6_139) f31 g46 (fun _ => (Or.inl (⟨by decide, by decide⟩)))
  have t47 : s42 6 6 = s29 6 6 := g46 6 6 (by decide)
  have t48 : s42 139 6 = s29 139 6 := g46 139 6 (by decide)
  have t49 : s42 139 7 = s29 139 7 := g46 139 7 (by decide)
  have t50 : s42 139 8 = s29 139 8 := g46 139 8 (by decide)
  refine T_if1 (by decide +kernel) ?_
  refine T_let 9 (by decide +kernel) ?_
  refine T_if1 (by decide +kernel) ?_
  refine T_let 142 (by decide +kernel) ?_
  refine T_if1 (by decide +kernel) ?_
  refine T_leq (fun x51 e52 => ?_)
  have u53 := CI_b c43 (k := 6) (j := 6) bd_6_6
  refine T_if1 (by decide +kernel) ?_
  refine T_copy hfu (by decide +kernel) (by decide +kernel) (c := 10) (c2 := 143) (by decide +kernel) (by decide +kernel) (by decide) (by omega) bdr_10 bdr_143 (by decide) (by decide) c43 (fun s54 e57 c55 g58 => ?_)
  have f56 := z_Fr.up (R := R_X9_copyFrom_6_139) f44 g58 (fun _ => (Or.inl (⟨by decide, by decide⟩)))
  have t59 : s54 6 6 = s42 6 6 := g58 6 6 (by decide)
  have t60 : s54 139 6 = s42 139 6 := g58 139 6 (by decide)
  have t61 : s54 139 7 = s42 139 7 := g58 139 7 (by decide)
  have t62 : s54 139 8 = s42 139 8 := g58 139 8 (by decide)
  refine T_if1 (by decide +kernel) ?_
  refine T_let 11 (by decide +kernel) ?_
  refine T_if1 (by decide +kernel) ?_
  refine T_let 144 (by decide +kernel) ?_
  refine T_if1 (by decide +kernel) ?_
  refine T_leq (fun x63 e64 => ?_)
  have u65 := CI_b c55 (k := 6) (j := 6) bd_6_6
  refine T_if1 (by decide +kernel) ?_
  refine T_copy hfu (by decide +kernel) (by decide +kernel) (c := 12) (c2 := 145) (by decide +kernel) (by decide +kernel) (by decide) (by omega) bdr_12 bdr_145 (by decide) (by decide) c55 (fun s66 e69 c67 g70 => ?_)
  have f68 := z_Fr.up (R := R_X9_copyFrom_6_139) f56 g70 (fun _ => (Or.inl (⟨by decide, by decide⟩)))
  have t71 : s66 6 6 = s54 6 6 := g70 6 6 (by decide)
  have t72 : s66 139 6 = s54 139 6 := g70 139 6 (by decide)
  have t73 : s66 139 7 = s54 139 7 := g70 139 7 (by decide)
  have t74 : s66 139 8 = s54 139 8 := g70 139 8 (by decide)
  refine T_if1 (by decide +kernel) ?_
  refine T_let 13 (by decide +kernel) ?_
  refine T_if1 (by decide +kernel) ?_
  refine T_let 146 (by decide +kernel) ?_
  refine T_if1 (by decide +kernel) ?_
  refine T_leq (fun x75 e76 => ?_)
  have u77 := CI_b c67 (k := 6) (j := 6) bd_6_6
  refine T_if1 (by decide +kernel) ?_
  refine T_copy hfu (by decide +kernel) (by decide +kernel) (c := 14) (c2 := 147) (by decide +kernel) (by decide +kernel) (by decide) (by omega) bdr_14 bdr_147 (by decide) (by decide) c67 (fun s78 e81 c79 g82 => ?_)
  have f80 := z_Fr.up (R := R_X9_copyFrom_6_139) f68 g82 (fun _ => (Or.inl (⟨by decide, by decide⟩)))
  have t83 : s78 6 6 = s66 6 6 := g82 6 6 (by decide)
  have t84 : s78 139 6 = s66 139 6 := g82 139 6 (by decide)
  have t85 : s78 139 7 = s66 139 7 := g82 139 7 (by decide)
  have t86 : s78 139 8 = s66 139 8 := g82 139 8 (by decide)
  refine T_if1 (by decide +kernel) ?_
  refine T_let 15 (by decide +kernel) ?_
  refine T_if1 (by decide +kernel) ?_
  refine T_let 148 (by decide +kernel) ?_
  refine T_if1 (by decide +kernel) ?_
  refine T_leq (fun x87 e88 => ?_)
  have u89 := CI_b c79 (k := 6) (j := 6) bd_6_6
  refine T_if1 (by decide +kernel) ?_
  refine T_lcopy hfu (by decide +kernel) (by decide +kernel) (c := 16) (c2 := 149) (by decide +kernel) (by decide +kernel) (by decide) (by omega) bdr_16 bdr_149 (by decide) (by decide) c79 (fun s90 e93 c91 g94 => ?_)
  have f92 := z_Fr.up (R := R_X9_copyFrom_6_139) f80 g94 (fun _ => (Or.inl (⟨by decide, by decide⟩)))
  have t95 : s90 6 6 = s78 6 6 := g94 6 6 (by decide)
  have t96 : s90 139 6 = s78 139 6 := g94 139 6 (by decide)
  have t97 : s90 139 7 = s78 139 7 := g94 139 7 (by decide)
  have t98 : s90 139 8 = s78 139 8 := g94 139 8 (by decide)
  refine T_if1 (by decide +kernel) ?_
  refine T_let 17 (by decide +kernel) ?_
  refine T_if1 (by decide +kernel) ?_
  refine T_let 150 (by decide +kernel) ?_
  refine T_if1 (by decide +kernel) ?_
  refine T_leq (fun x99 e100 => ?_)
  have u101 := CI_b c91 (k := 6) (j := 6) bd_6_6
  refine T_if1 (by decide +kernel) ?_
  refine T_lcopy hfu (by decide +kernel) (by decide +kernel) (c := 18) (c2 := 151) (by decide +kernel) (by decide +kernel) (by decide) (by omega) bdr_18 bdr_151 (by decide) (by decide) c91 (fun s102 e105 c103 g106 => ?_)
  have f104 := z_Fr.up (R := R_X9_copyFrom_6_139) f92 g106 (fun _ => (Or.inl (⟨by decide, by decide⟩)))
  have t107 : s102 6 6 = s90 6 6 := g106 6 6 (by decide)
  have t108 : s102 139 6 = s90 139 6 := g106 139 6 (by decide)
  have t109 : s102 139 7 = s90 139 7 := g106 139 7 (by decide)
  have t110 : s102 139 8 = s90 139 8 := g106 139 8 (by decide)
  exact T_ret ⟨c103, f104, rfl⟩
abbrev R_X9_copyFrom_6_126 (a b : Int) : Prop := (8 ≤ a ∧ a ≤ 18) ∨ (a = 6 ∧ (b = 6 ∨ b = 7 ∨ b = 8))
abbrev P_X9_copyFrom_6_126 (r0 : z_M) : z_V → z_M → Prop := fun v s' => z_CI s' ∧ z_Fr R_X9_copyFrom_6_126 r0 s' ∧ (v = vN)
theorem sf_X9_copyFrom_6_126 {fu : Nat} (hfu : 8589934592 ≤ fu) (r0 : z_M) (c0 : z_CI r0) : z_T (fX9_copyFrom fu r0 6 126) (P_X9_copyFrom_6_126 r0) := by
  refine T_of (fX9_copyFrom.eq_1 ..) ?_
  refine T_if1 (by decide +kernel) ?_
  refine T_leq (fun x1 e2 => ?_)
  have u3 := CI_b c0 (k := 126) (j := 6) bd_126_6
  refine T_if1 (by decide +kernel) ?_
  refine T_upg c0 bd_6_6 (by omega) (fun s4 c5 g7 g8 e9 => ?_)
  have f6 := z_Fr.upf (R := R_X9_copyFrom_6_126) z_Fr.rf g7 g8 (Or.inr (⟨rfl, by decide⟩))
  have t10 : s4 126 6 = r0 126 6 := g7 126 6 (by decide)
  have t11 : s4 126 7 = r0 126 7 := g7 126 7 (by decide)
  have t12 : s4 126 8 = r0 126 8 := g7 126 8 (by decide)
  refine T_if1 (by decide +kernel) ?_
  refine T_leq (fun x13 e14 => ?_)
  have u15 := CI_b c5 (k := 126) (j := 7) bd_126_7
  refine T_if1 (by decide +kernel) ?_
  refine T_upg c5 bd_6_7 (by omega) (fun s16 c17 g19 g20 e21 => ?_)
  have f18 := z_Fr.upf (R := R_X9_copyFrom_6_126) f6 g19 g20 (Or.inr (⟨rfl, by decide⟩))
  have t22 : s16 6 6 = s4 6 6 := g20 6 (by decide)
  have t23 : s16 126 6 = s4 126 6 := g19 126 6 (by decide)
  have t24 : s16 126 7 = s4 126 7 := g19 126 7 (by decide)
  have t25 : s16 126 8 = s4 126 8 := g19 126 8 (by decide)
  refine T_if1 (by decide +kernel) ?_
  refine T_leq (fun x26 e27 => ?_)
  have u28 := CI_b c17 (k := 126) (j := 8) bd_126_8
  refine T_if1 (by decide +kernel) ?_
  refine T_upg c17 bd_6_8 (by omega) (fun s29 c30 g32 g33 e34 => ?_)
  have f31 := z_Fr.upf (R := R_X9_copyFrom_6_126) f18 g32 g33 (Or.inr (⟨rfl, by decide⟩))
  have t35 : s29 6 6 = s16 6 6 := g33 6 (by decide)
  have t36 : s29 126 6 = s16 126 6 := g32 126 6 (by decide)
  have t37 : s29 126 7 = s16 126 7 := g32 126 7 (by decide)
  have t38 : s29 126 8 = s16 126 8 := g32 126 8 (by decide)
  refine T_if1 (by decide +kernel) ?_
  refine T_let 7 (by decide +kernel) ?_
  refine T_if1 (by decide +kernel) ?_
  refine T_let 127 (by decide +kernel) ?_
  refine T_if1 (by decide +kernel) ?_
  refine T_leq (fun x39 e40 => ?_)
  have u41 := CI_b c30 (k := 6) (j := 6) bd_6_6
  refine T_if1 (by decide +kernel) ?_
  refine T_copy hfu (by decide +kernel) (by decide +kernel) (c := 8) (c2 := 128) (by decide +kernel) (by decide +kernel) (by decide) (by omega) bdr_8 bdr_128 (by decide) (by decide) c30 (fun s42 e45 c43 g46 => ?_)
  have f44 := z_Fr.up (R := R_X9_copyFrom_6_126) f31 g46 (fun _ => (Or.inl (⟨by decide, by decide⟩)))
  have t47 : s42 6 6 = s29 6 6 := g46 6 6 (by decide)
  have t48 : s42 126 6 = s29 126 6 := g46 126 6 (by decide)
  have t49 : s42 126 7 = s29 126 7 := g46 126 7 (by decide)
  have t50 : s42 126 8 = s29 126 8 := g46 126 8 (by decide)
  refine T_if1 (by decide +kernel) ?_
  refine T_let 9 (by decide +kernel) ?_
  refine T_if1 (by decide +kernel) ?_
  refine T_let 129 (by decide +kernel) ?_
  refine T_if1 (by decide +kernel) ?_
  refine T_leq (fun x51 e52 => ?_)
  have u53 := CI_b c43 (k := 6) (j := 6) bd_6_6
  refine T_if1 (by decide +kernel) ?_
  refine T_copy hfu (by decide +kernel) (by decide +kernel) (c := 10) (c2 := 130) (by decide +kernel) (by decide +kernel) (by decide) (by omega) bdr_10 bdr_130 (by decide) (by decide) c43 (fun s54 e57 c55 g58 => ?_)
  have f56 := z_Fr.up (R := R_X9_copyFrom_6_126) f44 g58 (fun _ => (Or.inl (⟨by decide, by decide⟩)))
  have t59 : s54 6 6 = s42 6 6 := g58 6 6 (by decide)
  have t60 : s54 126 6 = s42 126 6 := g58 126 6 (by decide)
  have t61 : s54 126 7 = s42 126 7 := g58 126 7 (by decide)
  have t62 : s54 126 8 = s42 126 8 := g58 126 8 (by decide)
  refine T_if1 (by decide +kernel) ?_
  refine T_let 11 (by decide +kernel) ?_
  refine T_if1 (by decide +kernel) ?_
  refine T_let 131 (by decide +kernel) ?_
  refine T_if1 (by decide +kernel) ?_
  refine T_leq (fun x63 e64 => ?_)
  have u65 := CI_b c55 (k := 6) (j := 6) bd_6_6
  refine T_if1 (by decide +kernel) ?_
  refine T_copy hfu (by decide +kernel) (by decide +kernel) (c := 12) (c2 := 132) (by decide +kernel) (by decide +kernel) (by decide) (by omega) bdr_12 bdr_132 (by decide) (by decide) c55 (fun s66 e69 c67 g70 => ?_)
  have f68 := z_Fr.up (R := R_X9_copyFrom_6_126) f56 g70 (fun _ => (Or.inl (⟨by decide, by decide⟩)))
  have t71 : s66 6 6 = s54 6 6 := g70 6 6 (by decide)
  have t72 : s66 126 6 = s54 126 6 := g70 126 6 (by decide)
  have t73 : s66 126 7 = s54 126 7 := g70 126 7 (by decide)
  have t74 : s66 126 8 = s54 126 8 := g70 126 8 (by decide)
  refine T_if1 (by decide +kernel) ?_
  refine T_let 13 (by decide +kernel) ?_
  refine T_if1 (by decide +kernel) ?_
  refine T_let 133 (by decide +kernel) ?_
  refine T_if1 (by decide +kernel) ?_
  refine T_leq (fun x75 e76 => ?_)
  have u77 := CI_b c67 (k := 6) (j := 6) bd_6_6
  refine T_if1 (by decide +kernel) ?_
  refine T_copy hfu (by decide +kernel) (by decide +kernel) (c := 14) (c2 := 134) (by decide +kernel) (by decide +kernel) (by decide) (by omega) bdr_14 bdr_134 (by decide) (by decide) c67 (fun s78 e81 c79 g82 => ?_)
  have f80 := z_Fr.up (R := R_X9_copyFrom_6_126) f68 g82 (fun _ => (Or.inl (⟨by decide, by decide⟩)))
  have t83 : s78 6 6 = s66 6 6 := g82 6 6 (by decide)
  have t84 : s78 126 6 = s66 126 6 := g82 126 6 (by decide)
  have t85 : s78 126 7 = s66 126 7 := g82 126 7 (by decide)
  have t86 : s78 126 8 = s66 126 8 := g82 126 8 (by decide)
  refine T_if1 (by decide +kernel) ?_
  refine T_let 15 (by decide +kernel) ?_
  refine T_if1 (by decide +kernel) ?_
  refine T_let 135 (by decide +kernel) ?_
  refine T_if1 (by decide +kernel) ?_
  refine T_leq (fun x87 e88 => ?_)
  have u89 := CI_b c79 (k := 6) (j := 6) bd_6_6
  refine T_if1 (by decide +kernel) ?_
  refine T_lcopy hfu (by decide +kernel) (by decide +kernel) (c := 16) (c2 := 136) (by decide +kernel) (by decide +kernel) (by decide) (by omega) bdr_16 bdr_136 (by decide) (by decide) c79 (fun s90 e93 c91 g94 => ?_)
  have f92 := z_Fr.up (R := R_X9_copyFrom_6_126) f80 g94 (fun _ => (Or.inl (⟨by decide, by decide⟩)))
  have t95 : s90 6 6 = s78 6 6 := g94 6 6 (by decide)
  have t96 : s90 126 6 = s78 126 6 := g94 126 6 (by decide)
  have t97 : s90 126 7 = s78 126 7 := g94 126 7 (by decide)
  have t98 : s90 126 8 = s78 126 8 := g94 126 8 (by decide)
  refine T_if1 (by decide +kernel) ?_
  refine T_let 17 (by decide +kernel) ?_
  refine T_if1 (by decide +kernel) ?_
  refine T_let 137 (by decide +kernel) ?_
  refine T_if1 (by decide +kernel) ?_
  refine T_leq (fun x99 e100 => ?_)
  have u101 := CI_b c91 (k := 6) (j := 6) bd_6_6
  refine T_if1 (by decide +kernel) ?_
  refine T_lcopy hfu (by decide +kernel) (by decide +kernel) (c := 18) (c2 := 138) (by decide +kernel) (by decide +kernel) (by decide) (by omega) bdr_18 bdr_138 (by decide) (by decide) c91 (fun s102 e105 c103 g106 => ?_)
  have f104 := z_Fr.up (R := R_X9_copyFrom_6_126) f92 g106 (fun _ => (Or.inl (⟨by decide, by decide⟩)))
  have t107 : s102 6 6 = s90 6 6 := g106 6 6 (by decide)
  have t108 : s102 126 6 = s90 126 6 := g106 126 6 (by decide)
  have t109 : s102 126 7 = s90 126 7 := g106 126 7 (by decide)
  have t110 : s102 126 8 = s90 126 8 := g106 126 8 (by decide)
  exact T_ret ⟨c103, f104, rfl⟩
abbrev R_X9_copyFrom_6_113 (a b : Int) : Prop := (8 ≤ a ∧ a ≤ 18) ∨ (a = 6 ∧ (b = 6 ∨ b = 7 ∨ b = 8))
abbrev P_X9_copyFrom_6_113 (r0 : z_M) : z_V → z_M → Prop := fun v s' => z_CI s' ∧ z_Fr R_X9_copyFrom_6_113 r0 s' ∧ (v = vN)
theorem sf_X9_copyFrom_6_113 {fu : Nat} (hfu : 8589934592 ≤ fu) (r0 : z_M) (c0 : z_CI r0) : z_T (fX9_copyFrom fu r0 6 113) (P_X9_copyFrom_6_113 r0) := by
  refine T_of (fX9_copyFrom.eq_1 ..) ?_
  refine T_if1 (by decide +kernel) ?_
  refine T_leq (fun x1 e2 => ?_)
  have u3 := CI_b c0 (k := 113) (j := 6) bd_113_6
  refine T_if1 (by decide +kernel) ?_
  refine T_upg c0 bd_6_6 (by omega) (fun s4 c5 g7 g8 e9 => ?_)
  have f6 := z_Fr.upf (R := R_X9_copyFrom_6_113) z_Fr.rf g7 g8 (Or.inr (⟨rfl, by decide⟩))
  have t10 : s4 113 6 = r0 113 6 := g7 113 6 (by decide)
  have t11 : s4 113 7 = r0 113 7 := g7 113 7 (by decide)
  have t12 : s4 113 8 = r0 113 8 := g7 113 8 (by decide)
  refine T_if1 (by decide +kernel) ?_
  refine T_leq (fun x13 e14 => ?_)
  have u15 := CI_b c5 (k := 113) (j := 7) bd_113_7
  refine T_if1 (by decide +kernel) ?_
  refine T_upg c5 bd_6_7 (by omega) (fun s16 c17 g19 g20 e21 => ?_)
  have f18 := z_Fr.upf (R := R_X9_copyFrom_6_113) f6 g19 g20 (Or.inr (⟨rfl, by decide⟩))
  have t22 : s16 6 6 = s4 6 6 := g20 6 (by decide)
  have t23 : s16 113 6 = s4 113 6 := g19 113 6 (by decide)
  have t24 : s16 113 7 = s4 113 7 := g19 113 7 (by decide)
  have t25 : s16 113 8 = s4 113 8 := g19 113 8 (by decide)
  refine T_if1 (by decide +kernel) ?_
  refine T_leq (fun x26 e27 => ?_)
  have u28 := CI_b c17 (k := 113) (j := 8) bd_113_8
  refine T_if1 (by decide +kernel) ?_
  refine T_upg c17 bd_6_8 (by omega) (fun s29 c30 g32 g33 e34 => ?_)
  have f31 := z_Fr.upf (R := R_X9_copyFrom_6_113) f18 g32 g33 (Or.inr (⟨rfl, by decide⟩))
  have t35 : s29 6 6 = s16 6 6 := g33 6 (by decide)
  have t36 : s29 113 6 = s16 113 6 := g32 113 6 (by decide)
  have t37 : s29 113 7 = s16 113 7 := g32 113 7 (by decide)
  have t38 : s29 113 8 = s16 113 8 := g32 113 8 (by decide)
  refine T_if1 (by decide +kernel) ?_
  refine T_let 7 (by decide +kernel) ?_
  refine T_if1 (by decide +kernel) ?_
  refine T_let 114 (by decide +kernel) ?_
  refine T_if1 (by decide +kernel) ?_
  refine T_leq (fun x39 e40 => ?_)
  have u41 := CI_b c30 (k := 6) (j := 6) bd_6_6
  refine T_if1 (by decide +kernel) ?_
  refine T_copy hfu (by decide +kernel) (by decide +kernel) (c := 8) (c2 := 115) (by decide +kernel) (by decide +kernel) (by decide) (by omega) bdr_8 bdr_115 (by decide) (by decide) c30 (fun s42 e45 c43 g46 => ?_)
  have f44 := z_Fr.up (R := R_X9_copyFrom_6_113) f31 g46 (fun _ => (Or.inl (⟨by decide, by decide⟩)))
  have t47 : s42 6 6 = s29 6 6 := g46 6 6 (by decide)
  have t48 : s42 113 6 = s29 113 6 := g46 113 6 (by decide)
  have t49 : s42 113 7 = s29 113 7 := g46 113 7 (by decide)
  have t50 : s42 113 8 = s29 113 8 := g46 113 8 (by decide)
  refine T_if1 (by decide +kernel) ?_
  refine T_let 9 (by decide +kernel) ?_
  refine T_if1 (by decide +kernel) ?_
  refine T_let 116 (by decide +kernel) ?_
  refine T_if1 (by decide +kernel) ?_
  refine T_leq (fun x51 e52 => ?_)
  have u53 := CI_b c43 (k := 6) (j := 6) bd_6_6
  refine T_if1 (by decide +kernel) ?_
  refine T_copy hfu (by decide +kernel) (by decide +kernel) (c := 10) (c2 := 117) (by decide +kernel) (by decide +kernel) (by decide) (by omega) bdr_10 bdr_117 (by decide) (by decide) c43 (fun s54 e57 c55 g58 => ?_)
  have f56 := z_Fr.up (R := R_X9_copyFrom_6_113) f44 g58 (fun _ => (Or.inl (⟨by decide, by decide⟩)))
  have t59 : s54 6 6 = s42 6 6 := g58 6 6 (by decide)
  have t60 : s54 113 6 = s42 113 6 := g58 113 6 (by decide)
  have t61 : s54 113 7 = s42 113 7 := g58 113 7 (by decide)
  have t62 : s54 113 8 = s42 113 8 := g58 113 8 (by decide)
  refine T_if1 (by decide +kernel) ?_
  refine T_let 11 (by decide +kernel) ?_
  refine T_if1 (by decide +kernel) ?_
  refine T_let 118 (by decide +kernel) ?_
  refine T_if1 (by decide +kernel) ?_
  refine T_leq (fun x63 e64 => ?_)
  have u65 := CI_b c55 (k := 6) (j := 6) bd_6_6
  refine T_if1 (by decide +kernel) ?_
  refine T_copy hfu (by decide +kernel) (by decide +kernel) (c := 12) (c2 := 119) (by decide +kernel) (by decide +kernel) (by decide) (by omega) bdr_12 bdr_119 (by decide) (by decide) c55 (fun s66 e69 c67 g70 => ?_)
  have f68 := z_Fr.up (R := R_X9_copyFrom_6_113) f56 g70 (fun _ => (Or.inl (⟨by decide, by decide⟩)))
  have t71 : s66 6 6 = s54 6 6 := g70 6 6 (by decide)
  have t72 : s66 113 6 = s54 113 6 := g70 113 6 (by decide)
  have t73 : s66 113 7 = s54 113 7 := g70 113 7 (by decide)
  have t74 : s66 113 8 = s54 113 8 := g70 113 8 (by decide)
  refine T_if1 (by decide +kernel) ?_
  refine T_let 13 (by decide +kernel) ?_
  refine T_if1 (by decide +kernel) ?_
  refine T_let 120 (by decide +kernel) ?_
  refine T_if1 (by decide +kernel) ?_
  refine T_leq (fun x75 e76 => ?_)
  have u77 := CI_b c67 (k := 6) (j := 6) bd_6_6
  refine T_if1 (by decide +kernel) ?_
  refine T_copy hfu (by decide +kernel) (by decide +kernel) (c := 14) (c2 := 121) (by decide +kernel) (by decide +kernel) (by decide) (by omega) bdr_14 bdr_121 (by decide) (by decide) c67 (fun s78 e81 c79 g82 => ?_)
  have f80 := z_Fr.up (R := R_X9_copyFrom_6_113) f68 g82 (fun _ => (Or.inl (⟨by decide, by decide⟩)))
  have t83 : s78 6 6 = s66 6 6 := g82 6 6 (by decide)
  have t84 : s78 113 6 = s66 113 6 := g82 113 6 (by decide)
  have t85 : s78 113 7 = s66 113 7 := g82 113 7 (by decide)
  have t86 : s78 113 8 = s66 113 8 := g82 113 8 (by decide)
  refine T_if1 (by decide +kernel) ?_
  refine T_let 15 (by decide +kernel) ?_
  refine T_if1 (by decide +kernel) ?_
  refine T_let 122 (by decide +kernel) ?_
  refine T_if1 (by decide +kernel) ?_
  refine T_leq (fun x87 e88 => ?_)
  have u89 := CI_b c79 (k := 6) (j := 6) bd_6_6
  refine T_if1 (by decide +kernel) ?_
  refine T_lcopy hfu (by decide +kernel) (by decide +kernel) (c := 16) (c2 := 123) (by decide +kernel) (by decide +kernel) (by decide) (by omega) bdr_16 bdr_123 (by decide) (by decide) c79 (fun s90 e93 c91 g94 => ?_)
  have f92 := z_Fr.up (R := R_X9_copyFrom_6_113) f80 g94 (fun _ => (Or.inl (⟨by decide, by decide⟩)))
  have t95 : s90 6 6 = s78 6 6 := g94 6 6 (by decide)
  have t96 : s90 113 6 = s78 113 6 := g94 113 6 (by decide)
  have t97 : s90 113 7 = s78 113 7 := g94 113 7 (by decide)
  have t98 : s90 113 8 = s78 113 8 := g94 113 8 (by decide)
  refine T_if1 (by decide +kernel) ?_
  refine T_let 17 (by decide +kernel) ?_
  refine T_if1 (by decide +kernel) ?_
  refine T_let 124 (by decide +kernel) ?_
  refine T_if1 (by decide +kernel) ?_
  refine T_leq (fun x99 e100 => ?_)
  have u101 := CI_b c91 (k := 6) (j := 6) bd_6_6
  refine T_if1 (by decide +kernel) ?_
  refine T_lcopy hfu (by decide +kernel) (by decide +kernel) (c := 18) (c2 := 125) (by decide +kernel) (by decide +kernel) (by decide) (by omega) bdr_18 bdr_125 (by decide) (by decide) c91 (fun s102 e105 c103 g106 => ?_)
  have f104 := z_Fr.up (R := R_X9_copyFrom_6_113) f92 g106 (fun _ => (Or.inl (⟨by decide, by decide⟩)))
  have t107 : s102 6 6 = s90 6 6 := g106 6 6 (by decide)
  have t108 : s102 113 6 = s90 113 6 := g106 113 6 (by decide)
  have t109 : s102 113 7 = s90 113 7 := g106 113 7 (by decide)
  have t110 : s102 113 8 = s90 113 8 := g106 113 8 (by decide)
  exact T_ret ⟨c103, f104, rfl⟩
abbrev R_X9_copyFrom_6_100 (a b : Int) : Prop := (8 ≤ a ∧ a ≤ 18) ∨ (a = 6 ∧ (b = 6 ∨ b = 7 ∨ b = 8))
abbrev P_X9_copyFrom_6_100 (r0 : z_M) : z_V → z_M → Prop := fun v s' => z_CI s' ∧ z_Fr R_X9_copyFrom_6_100 r0 s' ∧ (v = vN)
theorem sf_X9_copyFrom_6_100 {fu : Nat} (hfu : 8589934592 ≤ fu) (r0 : z_M) (c0 : z_CI r0) : z_T (fX9_copyFrom fu r0 6 100) (P_X9_copyFrom_6_100 r0) := by
  refine T_of (fX9_copyFrom.eq_1 ..) ?_
  refine T_if1 (by decide +kernel) ?_
  refine T_leq (fun x1 e2 => ?_)
  have u3 := CI_b c0 (k := 100) (j := 6) bd_100_6
  refine T_if1 (by decide +kernel) ?_
  refine T_upg c0 bd_6_6 (by omega) (fun s4 c5 g7 g8 e9 => ?_)
  have f6 := z_Fr.upf (R := R_X9_copyFrom_6_100) z_Fr.rf g7 g8 (Or.inr (⟨rfl, by decide⟩))
  have t10 : s4 100 6 = r0 100 6 := g7 100 6 (by decide)
  have t11 : s4 100 7 = r0 100 7 := g7 100 7 (by decide)
  have t12 : s4 100 8 = r0 100 8 := g7 100 8 (by decide)
  refine T_if1 (by decide +kernel) ?_
  refine T_leq (fun x13 e14 => ?_)
  have u15 := CI_b c5 (k := 100) (j := 7) bd_100_7
  refine T_if1 (by decide +kernel) ?_
  refine T_upg c5 bd_6_7 (by omega) (fun s16 c17 g19 g20 e21 => ?_)
  have f18 := z_Fr.upf (R := R_X9_copyFrom_6_100) f6 g19 g20 (Or.inr (⟨rfl, by decide⟩))
  have t22 : s16 6 6 = s4 6 6 := g20 6 (by decide)
  have t23 : s16 100 6 = s4 100 6 := g19 100 6 (by decide)
  have t24 : s16 100 7 = s4 100 7 := g19 100 7 (by decide)
  have t25 : s16 100 8 = s4 100 8 := g19 100 8 (by decide)
  refine T_if1 (by decide +kernel) ?_
  refine T_leq (fun x26 e27 => ?_)
  have u28 := CI_b c17 (k := 100) (j := 8) bd_100_8
  refine T_if1 (by decide +kernel) ?_
  refine T_upg c17 bd_6_8 (by omega) (fun s29 c30 g32 g33 e34 => ?_)
  have f31 := z_Fr.upf (R := R_X9_copyFrom_6_100) f18 g32 g33 (Or.inr (⟨rfl, by decide⟩))
  have t35 : s29 6 6 = s16 6 6 := g33 6 (by decide)
  have t36 : s29 100 6 = s16 100 6 := g32 100 6 (by decide)
  have t37 : s29 100 7 = s16 100 7 := g32 100 7 (by decide)
  have t38 : s29 100 8 = s16 100 8 := g32 100 8 (by decide)
  refine T_if1 (by decide +kernel) ?_
  refine T_let 7 (by decide +kernel) ?_
  refine T_if1 (by decide +kernel) ?_
  refine T_let 101 (by decide +kernel) ?_
  refine T_if1 (by decide +kernel) ?_
  refine T_leq (fun x39 e40 => ?_)
  have u41 := CI_b c30 (k := 6) (j := 6) bd_6_6
  refine T_if1 (by decide +kernel) ?_
  refine T_copy hfu (by decide +kernel) (by decide +kernel) (c := 8) (c2 := 102) (by decide +kernel) (by decide +kernel) (by decide) (by omega) bdr_8 bdr_102 (by decide) (by decide) c30 (fun s42 e45 c43 g46 => ?_)
  have f44 := z_Fr.up (R := R_X9_copyFrom_6_100) f31 g46 (fun _ => (Or.inl (⟨by decide, by decide⟩)))
  have t47 : s42 6 6 = s29 6 6 := g46 6 6 (by decide)
  have t48 : s42 100 6 = s29 100 6 := g46 100 6 (by decide)
  have t49 : s42 100 7 = s29 100 7 := g46 100 7 (by decide)
  have t50 : s42 100 8 = s29 100 8 := g46 100 8 (by decide)
  refine T_if1 (by decide +kernel) ?_
  refine T_let 9 (by decide +kernel) ?_
  refine T_if1 (by decide +kernel) ?_
  refine T_let 103 (by decide +kernel) ?_
  refine T_if1 (by decide +kernel) ?_
  refine T_leq (fun x51 e52 => ?_)
  have u53 := CI_b c43 (k := 6) (j := 6) bd_6_6
  refine T_if1 (by decide +kernel) ?_
  refine T_copy hfu (by decide +kernel) (by decide +kernel) (c := 10) (c2 := 104) (by decide +kernel) (by decide +kernel) (by decide) (by omega) bdr_10 bdr_104 (by decide) (by decide) c43 (fun s54 e57 c55 g58 => ?_)
  have f56 := z_Fr.up (R := R_X9_copyFrom_6_100) f44 g58 (fun _ => (Or.inl (⟨by decide, by decide⟩)))
  have t59 : s54 6 6 = s42 6 6 := g58 6 6 (by decide)
  have t60 : s54 100 6 = s42 100 6 := g58 100 6 (by decide)
  have t61 : s54 100 7 = s42 100 7 := g58 100 7 (by decide)
  have t62 : s54 100 8 = s42 100 8 := g58 100 8 (by decide)
  refine T_if1 (by decide +kernel) ?_
  refine T_let 11 (by decide +kernel) ?_
  refine T_if1 (by decide +kernel) ?_
  refine T_let 105 (by decide +kernel) ?_
  refine T_if1 (by decide +kernel) ?_
  refine T_leq (fun x63 e64 => ?_)
  have u65 := CI_b c55 (k := 6) (j := 6) bd_6_6
  refine T_if1 (by decide +kernel) ?_
  refine T_copy hfu (by decide +kernel) (by decide +kernel) (c := 12) (c2 := 106) (by decide +kernel) (by decide +kernel) (by decide) (by omega) bdr_12 bdr_106 (by decide) (by decide) c55 (fun s66 e69 c67 g70 => ?_)
  have f68 := z_Fr.up (R := R_X9_copyFrom_6_100) f56 g70 (fun _ => (Or.inl (⟨by decide, by decide⟩)))
  have t71 : s66 6 6 = s54 6 6 := g70 6 6 (by decide)
  have t72 : s66 100 6 = s54 100 6 := g70 100 6 (by decide)
  have t73 : s66 100 7 = s54 100 7 := g70 100 7 (by decide)
  have t74 : s66 100 8 = s54 100 8 := g70 100 8 (by decide)
  refine T_if1 (by decide +kernel) ?_
  refine T_let 13 (by decide +kernel) ?_
  refine T_if1 (by decide +kernel) ?_
  refine T_let 107 (by decide +kernel) ?_
  refine T_if1 (by decide +kernel) ?_
  refine T_leq (fun x75 e76 => ?_)
  have u77 := CI_b c67 (k := 6) (j := 6) bd_6_6
  refine T_if1 (by decide +kernel) ?_
  refine T_copy hfu (by decide +kernel) (by decide +kernel) (c := 14) (c2 := 108) (by decide +kernel) (by decide +kernel) (by decide) (by omega) bdr_14 bdr_108 (by decide) (by decide) c67 (fun s78 e81 c79 g82 => ?_)
  have f80 := z_Fr.up (R := R_X9_copyFrom_6_100) f68 g82 (fun _ => (Or.inl (⟨by decide, by decide⟩)))
  have t83 : s78 6 6 = s66 6 6 := g82 6 6 (by decide)
  have t84 : s78 100 6 = s66 100 6 := g82 100 6 (by decide)
  have t85 : s78 100 7 = s66 100 7 := g82 100 7 (by decide)
  have t86 : s78 100 8 = s66 100 8 := g82 100 8 (by decide)
  refine T_if1 (by decide +kernel) ?_
  refine T_let 15 (by decide +kernel) ?_
  refine T_if1 (by decide +kernel) ?_
  refine T_let 109 (by decide +kernel) ?_
  refine T_if1 (by decide +kernel) ?_
  refine T_leq (fun x87 e88 => ?_)
  have u89 := CI_b c79 (k := 6) (j := 6) bd_6_6
  refine T_if1 (by decide +kernel) ?_
  refine T_lcopy hfu (by decide +kernel) (by decide +kernel) (c := 16) (c2 := 110) (by decide +kernel) (by decide +kernel) (by decide) (by omega) bdr_16 bdr_110 (by decide) (by decide) c79 (fun s90 e93 c91 g94 => ?_)
  have f92 := z_Fr.up (R := R_X9_copyFrom_6_100) f80 g94 (fun _ => (Or.inl (⟨by decide, by decide⟩)))
  have t95 : s90 6 6 = s78 6 6 := g94 6 6 (by decide)
  have t96 : s90 100 6 = s78 100 6 := g94 100 6 (by decide)
  have t97 : s90 100 7 = s78 100 7 := g94 100 7 (by decide)
  have t98 : s90 100 8 = s78 100 8 := g94 100 8 (by decide)
  refine T_if1 (by decide +kernel) ?_
  refine T_let 17 (by decide +kernel) ?_
  refine T_if1 (by decide +kernel) ?_
  refine T_let 111 (by decide +kernel) ?_
  refine T_if1 (by decide +kernel) ?_
  refine T_leq (fun x99 e100 => ?_)
  have u101 := CI_b c91 (k := 6) (j := 6) bd_6_6
  refine T_if1 (by decide +kernel) ?_
  refine T_lcopy hfu (by decide +kernel) (by decide +kernel) (c := 18) (c2 := 112) (by decide +kernel) (by decide +kernel) (by decide) (by omega) bdr_18 bdr_112 (by decide) (by decide) c91 (fun s102 e105 c103 g106 => ?_)
  have f104 := z_Fr.up (R := R_X9_copyFrom_6_100) f92 g106 (fun _ => (Or.inl (⟨by decide, by decide⟩)))
  have t107 : s102 6 6 = s90 6 6 := g106 6 6 (by decide)
  have t108 : s102 100 6 = s90 100 6 := g106 100 6 (by decide)
  have t109 : s102 100 7 = s90 100 7 := g106 100 7 (by decide)
  have t110 : s102 100 8 = s90 100 8 := g106 100 8 (by decide)
  exact T_ret ⟨c103, f104, rfl⟩
abbrev R_X9_copyFrom_6_87 (a b : Int) : Prop := (8 ≤ a ∧ a ≤ 18) ∨ (a = 6 ∧ (b = 6 ∨ b = 7 ∨ b = 8))
abbrev P_X9_copyFrom_6_87 (r0 : z_M) : z_V → z_M → Prop := fun v s' => z_CI s' ∧ z_Fr R_X9_copyFrom_6_87 r0 s' ∧ (v = vN)
theorem sf_X9_copyFrom_6_87 {fu : Nat} (hfu : 8589934592 ≤ fu) (r0 : z_M) (c0 : z_CI r0) : z_T (fX9_copyFrom fu r0 6 87) (P_X9_copyFrom_6_87 r0) := by
  refine T_of (fX9_copyFrom.eq_1 ..) ?_
  refine T_if1 (by decide +kernel) ?_
  refine T_leq (fun x1 e2 => ?_)
  have u3 := CI_b c0 (k := 87) (j := 6) bd_87_6
  refine T_if1 (by decide +kernel) ?_
  refine T_upg c0 bd_6_6 (by omega) (fun s4 c5 g7 g8 e9 => ?_)
  have f6 := z_Fr.upf (R := R_X9_copyFrom_6_87) z_Fr.rf g7 g8 (Or.inr (⟨rfl, by decide⟩))
  have t10 : s4 87 6 = r0 87 6 := g7 87 6 (by decide)
  have t11 : s4 87 7 = r0 87 7 := g7 87 7 (by decide)
  have t12 : s4 87 8 = r0 87 8 := g7 87 8 (by decide)
  refine T_if1 (by decide +kernel) ?_
  refine T_leq (fun x13 e14 => ?_)
  have u15 := CI_b c5 (k := 87) (j := 7) bd_87_7
  refine T_if1 (by decide +kernel) ?_
  refine T_upg c5 bd_6_7 (by omega) (fun s16 c17 g19 g20 e21 => ?_)
  have f18 := z_Fr.upf (R := R_X9_copyFrom_6_87) f6 g19 g20 (Or.inr (⟨rfl, by decide⟩))
  have t22 : s16 6 6 = s4 6 6 := g20 6 (by decide)
  have t23 : s16 87 6 = s4 87 6 := g19 87 6 (by decide)
  have t24 : s16 87 7 = s4 87 7 := g19 87 7 (by decide)
  have t25 : s16 87 8 = s4 87 8 := g19 87 8 (by decide)
  refine T_if1 (by decide +kernel) ?_
  refine T_leq (fun x26 e27 => ?_)
  have u28 := CI_b c17 (k := 87) (j := 8) bd_87_8
  refine T_if1 (by decide +kernel) ?_
  refine T_upg c17 bd_6_8 (by omega) (fun s29 c30 g32 g33 e34 => ?_)
  have f31 := z_Fr.upf (R := R_X9_copyFrom_6_87) f18 g32 g33 (Or.inr (⟨rfl, by decide⟩))
  have t35 : s29 6 6 = s16 6 6 := g33 6 (by decide)
  have t36 : s29 87 6 = s16 87 6 := g32 87 6 (by decide)
  have t37 : s29 87 7 = s16 87 7 := g32 87 7 (by decide)
  have t38 : s29 87 8 = s16 87 8 := g32 87 8 (by decide)
  refine T_if1 (by decide +kernel) ?_
  refine T_let 7 (by decide +kernel) ?_
  refine T_if1 (by decide +kernel) ?_
  refine T_let 88 (by decide +kernel) ?_
  refine T_if1 (by decide +kernel) ?_
  refine T_leq (fun x39 e40 => ?_)
  have u41 := CI_b c30 (k := 6) (j := 6) bd_6_6
  refine T_if1 (by decide +kernel) ?_
  refine T_copy hfu (by decide +kernel) (by decide +kernel) (c := 8) (c2 := 89) (by decide +kernel) (by decide +kernel) (by decide) (by omega) bdr_8 bdr_89 (by decide) (by decide) c30 (fun s42 e45 c43 g46 => ?_)
  have f44 := z_Fr.up (R := R_X9_copyFrom_6_87) f31 g46 (fun _ => (Or.inl (⟨by decide, by decide⟩)))
  have t47 : s42 6 6 = s29 6 6 := g46 6 6 (by decide)
  have t48 : s42 87 6 = s29 87 6 := g46 87 6 (by decide)
  have t49 : s42 87 7 = s29 87 7 := g46 87 7 (by decide)
  have t50 : s42 87 8 = s29 87 8 := g46 87 8 (by decide)
  refine T_if1 (by decide +kernel) ?_
  refine T_let 9 (by decide +kernel) ?_
  refine T_if1 (by decide +kernel) ?_
  refine T_let 90 (by decide +kernel) ?_
  refine T_if1 (by decide +kernel) ?_
  refine T_leq (fun x51 e52 => ?_)
  have u53 := CI_b c43 (k := 6) (j := 6) bd_6_6
  refine T_if1 (by decide +kernel) ?_
  refine T_copy hfu (by decide +kernel) (by decide +kernel) (c := 10) (c2 := 91) (by decide +kernel) (by decide +kernel) (by decide) (by omega) bdr_10 bdr_91 (by decide) (by decide) c43 (fun s54 e57 c55 g58 => ?_)
  have f56 := z_Fr.up (R := R_X9_copyFrom_6_87) f44 g58 (fun _ => (Or.inl (⟨by decide, by decide⟩)))
  have t59 : s54 6 6 = s42 6 6 := g58 6 6 (by decide)
  have t60 : s54 87 6 = s42 87 6 := g58 87 6 (by decide)
  have t61 : s54 87 7 = s42 87 7 := g58 87 7 (by decide)
  have t62 : s54 87 8 = s42 87 8 := g58 87 8 (by decide)
  refine T_if1 (by decide +kernel) ?_
  refine T_let 11 (by decide +kernel) ?_
  refine T_if1 (by decide +kernel) ?_
  refine T_let 92 (by decide +kernel) ?_
  refine T_if1 (by decide +kernel) ?_
  refine T_leq (fun x63 e64 => ?_)
  have u65 := CI_b c55 (k := 6) (j := 6) bd_6_6
  refine T_if1 (by decide +kernel) ?_
  refine T_copy hfu (by decide +kernel) (by decide +kernel) (c := 12) (c2 := 93) (by decide +kernel) (by decide +kernel) (by decide) (by omega) bdr_12 bdr_93 (by decide) (by decide) c55 (fun s66 e69 c67 g70 => ?_)
  have f68 := z_Fr.up (R := R_X9_copyFrom_6_87) f56 g70 (fun _ => (Or.inl (⟨by decide, by decide⟩)))
  have t71 : s66 6 6 = s54 6 6 := g70 6 6 (by decide)
  have t72 : s66 87 6 = s54 87 6 := g70 87 6 (by decide)
  have t73 : s66 87 7 = s54 87 7 := g70 87 7 (by decide)
  have t74 : s66 87 8 = s54 87 8 := g70 87 8 (by decide)
  refine T_if1 (by decide +kernel) ?_
  refine T_let 13 (by decide +kernel) ?_
  refine T_if1 (by decide +kernel) ?_
  refine T_let 94 (by decide +kernel) ?_
  refine T_if1 (by decide +kernel) ?_
  refine T_leq (fun x75 e76 => ?_)
  have u77 := CI_b c67 (k := 6) (j := 6) bd_6_6
  refine T_if1 (by decide +kernel) ?_
  refine T_copy hfu (by decide +kernel) (by decide +kernel) (c := 14) (c2 := 95) (by decide +kernel) (by decide +kernel) (by decide) (by omega) bdr_14 bdr_95 (by decide) (by decide) c67 (fun s78 e81 c79 g82 => ?_)
  have f80 := z_Fr.up (R := R_X9_copyFrom_6_87) f68 g82 (fun _ => (Or.inl (⟨by decide, by decide⟩)))
  have t83 : s78 6 6 = s66 6 6 := g82 6 6 (by decide)
  have t84 : s78 87 6 = s66 87 6 := g82 87 6 (by decide)
  have t85 : s78 87 7 = s66 87 7 := g82 87 7 (by decide)
  have t86 : s78 87 8 = s66 87 8 := g82 87 8 (by decide)
  refine T_if1 (by decide +kernel) ?_
  refine T_let 15 (by decide +kernel) ?_
  refine T_if1 (by decide +kernel) ?_
  refine T_let 96 (by decide +kernel) ?_
  refine T_if1 (by decide +kernel) ?_
  refine T_leq (fun x87 e88 => ?_)
  have u89 := CI_b c79 (k := 6) (j := 6) bd_6_6
  refine T_if1 (by decide +kernel) ?_
  refine T_lcopy hfu (by decide +kernel) (by decide +kernel) (c := 16) (c2 := 97) (by decide +kernel) (by decide +kernel) (by decide) (by omega) bdr_16 bdr_97 (by decide) (by decide) c79 (fun s90 e93 c91 g94 => ?_)
  have f92 := z_Fr.up (R := R_X9_copyFrom_6_87) f80 g94 (fun _ => (Or.inl (⟨by decide, by decide⟩)))
  have t95 : s90 6 6 = s78 6 6 := g94 6 6 (by decide)
  have t96 : s90 87 6 = s78 87 6 := g94 87 6 (by decide)
  have t97 : s90 87 7 = s78 87 7 := g94 87 7 (by decide)
  have t98 : s90 87 8 = s78 87 8 := g94 87 8 (by decide)
  refine T_if1 (by decide +kernel) ?_
  refine T_let 17 (by decide +kernel) ?_
  refine T_if1 (by decide +kernel) ?_
  refine T_let 98 (by decide +kernel) ?_
  refine T_if1 (by decide +kernel) ?_
  refine T_leq (fun x99 e100 => ?_)
  have u101 := CI_b c91 (k := 6) (j := 6) bd_6_6
  refine T_if1 (by decide +kernel) ?_
  refine T_lcopy hfu (by decide +kernel) (by decide +kernel) (c := 18) (c2 := 99) (by decide +kernel) (by decide +kernel) (by decide) (by omega) bdr_18 bdr_99 (by decide) (by decide) c91 (fun s102 e105 c103 g106 => ?_)
  have f104 := z_Fr.up (R := R_X9_copyFrom_6_87) f92 g106 (fun _ => (Or.inl (⟨by decide, by decide⟩)))
  have t107 : s102 6 6 = s90 6 6 := g106 6 6 (by decide)
  have t108 : s102 87 6 = s90 87 6 := g106 87 6 (by decide)
  have t109 : s102 87 7 = s90 87 7 := g106 87 7 (by decide)
  have t110 : s102 87 8 = s90 87 8 := g106 87 8 (by decide)
  exact T_ret ⟨c103, f104, rfl⟩
abbrev R_X9_copyFrom_6_74 (a b : Int) : Prop := (8 ≤ a ∧ a ≤ 18) ∨ (a = 6 ∧ (b = 6 ∨ b = 7 ∨ b = 8))
abbrev P_X9_copyFrom_6_74 (r0 : z_M) : z_V → z_M → Prop := fun v s' => z_CI s' ∧ z_Fr R_X9_copyFrom_6_74 r0 s' ∧ (v = vN)
theorem sf_X9_copyFrom_6_74 {fu : Nat} (hfu : 8589934592 ≤ fu) (r0 : z_M) (c0 : z_CI r0) : z_T (fX9_copyFrom fu r0 6 74) (P_X9_copyFrom_6_74 r0) := by
  refine T_of (fX9_copyFrom.eq_1 ..) ?_
  refine T_if1 (by decide +kernel) ?_
  refine T_leq (fun x1 e2 => ?_)
  have u3 := CI_b c0 (k := 74) (j := 6) bd_74_6
  refine T_if1 (by decide +kernel) ?_
  refine T_upg c0 bd_6_6 (by omega) (fun s4 c5 g7 g8 e9 => ?_)
  have f6 := z_Fr.upf (R := R_X9_copyFrom_6_74) z_Fr.rf g7 g8 (Or.inr (⟨rfl, by decide⟩))
  have t10 : s4 74 6 = r0 74 6 := g7 74 6 (by decide)
  have t11 : s4 74 7 = r0 74 7 := g7 74 7 (by decide)
  have t12 : s4 74 8 = r0 74 8 := g7 74 8 (by decide)
  refine T_if1 (by decide +kernel) ?_
  refine T_leq (fun x13 e14 => ?_)
  have u15 := CI_b c5 (k := 74) (j := 7) bd_74_7
  refine T_if1 (by decide +kernel) ?_
  refine T_upg c5 bd_6_7 (by omega) (fun s16 c17 g19 g20 e21 => ?_)
  have f18 := z_Fr.upf (R := R_X9_copyFrom_6_74) f6 g19 g20 (Or.inr (⟨rfl, by decide⟩))
  have t22 : s16 6 6 = s4 6 6 := g20 6 (by decide)
  have t23 : s16 74 6 = s4 74 6 := g19 74 6 (by decide)
  have t24 : s16 74 7 = s4 74 7 := g19 74 7 (by decide)
  have t25 : s16 74 8 = s4 74 8 := g19 74 8 (by decide)
  refine T_if1 (by decide +kernel) ?_
  refine T_leq (fun x26 e27 => ?_)
  have u28 := CI_b c17 (k := 74) (j := 8) bd_74_8
  refine T_if1 (by decide +kernel) ?_
  refine T_upg c17 bd_6_8 (by omega) (fun s29 c30 g32 g33 e34 => ?_)
  have f31 := z_Fr.upf (R := R_X9_copyFrom_6_74) f18 g32 g33 (Or.inr (⟨rfl, by decide⟩))
  have t35 : s29 6 6 = s16 6 6 := g33 6 (by decide)
  have t36 : s29 74 6 = s16 74 6 := g32 74 6 (by decide)
  have t37 : s29 74 7 = s16 74 7 := g32 74 7 (by decide)
  have t38 : s29 74 8 = s16 74 8 := g32 74 8 (by decide)
  refine T_if1 (by decide +kernel) ?_
  refine T_let 7 (by decide +kernel) ?_
  refine T_if1 (by decide +kernel) ?_
  refine T_let 75 (by decide +kernel) ?_
  refine T_if1 (by decide +kernel) ?_
  refine T_leq (fun x39 e40 => ?_)
  have u41 := CI_b c30 (k := 6) (j := 6) bd_6_6
  refine T_if1 (by decide +kernel) ?_
  refine T_copy hfu (by decide +kernel) (by decide +kernel) (c := 8) (c2 := 76) (by decide +kernel) (by decide +kernel) (by decide) (by omega) bdr_8 bdr_76 (by decide) (by decide) c30 (fun s42 e45 c43 g46 => ?_)
  have f44 := z_Fr.up (R := R_X9_copyFrom_6_74) f31 g46 (fun _ => (Or.inl (⟨by decide, by decide⟩)))
  have t47 : s42 6 6 = s29 6 6 := g46 6 6 (by decide)
  have t48 : s42 74 6 = s29 74 6 := g46 74 6 (by decide)
  have t49 : s42 74 7 = s29 74 7 := g46 74 7 (by decide)
  have t50 : s42 74 8 = s29 74 8 := g46 74 8 (by decide)
  refine T_if1 (by decide +kernel) ?_
  refine T_let 9 (by decide +kernel) ?_
  refine T_if1 (by decide +kernel) ?_
  refine T_let 77 (by decide +kernel) ?_
  refine T_if1 (by decide +kernel) ?_
  refine T_leq (fun x51 e52 => ?_)
  have u53 := CI_b c43 (k := 6) (j := 6) bd_6_6
  refine T_if1 (by decide +kernel) ?_
  refine T_copy hfu (by decide +kernel) (by decide +kernel) (c := 10) (c2 := 78) (by decide +kernel) (by decide +kernel) (by decide) (by omega) bdr_10 bdr_78 (by decide) (by decide) c43 (fun s54 e57 c55 g58 => ?_)
  have f56 := z_Fr.up (R := R_X9_copyFrom_6_74) f44 g58 (fun _ => (Or.inl (⟨by decide, by decide⟩)))
  have t59 : s54 6 6 = s42 6 6 := g58 6 6 (by decide)
  have t60 : s54 74 6 = s42 74 6 := g58 74 6 (by decide)
  have t61 : s54 74 7 = s42 74 7 := g58 74 7 (by decide)
  have t62 : s54 74 8 = s42 74 8 := g58 74 8 (by decide)
  refine T_if1 (by decide +kernel) ?_
  refine T_let 11 (by decide +kernel) ?_
  refine T_if1 (by decide +kernel) ?_
  refine T_let 79 (by decide +kernel) ?_
  refine T_if1 (by decide +kernel) ?_
  refine T_leq (fun x63 e64 => ?_)
  have u65 := CI_b c55 (k := 6) (j := 6) bd_6_6
  refine T_if1 (by decide +kernel) ?_
  refine T_copy hfu (by decide +kernel) (by decide +kernel) (c := 12) (c2 := 80) (by decide +kernel) (by decide +kernel) (by decide) (by omega) bdr_12 bdr_80 (by decide) (by decide) c55 (fun s66 e69 c67 g70 => ?_)
  have f68 := z_Fr.up (R := R_X9_copyFrom_6_74) f56 g70 (fun _ => (Or.inl (⟨by decide, by decide⟩)))
  have t71 : s66 6 6 = s54 6 6 := g70 6 6 (by decide)
  have t72 : s66 74 6 = s54 74 6 := g70 74 6 (by decide)
  have t73 : s66 74 7 = s54 74 7 := g70 74 7 (by decide)
  have t74 : s66 74 8 = s54 74 8 := g70 74 8 (by decide)
  refine T_if1 (by decide +kernel) ?_
  refine T_let 13 (by decide +kernel) ?_
  refine T_if1 (by decide +kernel) ?_
  refine T_let 81 (by decide +kernel) ?_
  refine T_if1 (by decide +kernel) ?_
  refine T_leq (fun x75 e76 => ?_)
  have u77 := CI_b c67 (k := 6) (j := 6) bd_6_6
  refine T_if1 (by decide +kernel) ?_
  refine T_copy hfu (by decide +kernel) (by decide +kernel) (c := 14) (c2 := 82) (by decide +kernel) (by decide +kernel) (by decide) (by omega) bdr_14 bdr_82 (by decide) (by decide) c67 (fun s78 e81 c79 g82 => ?_)
  have f80 := z_Fr.up (R := R_X9_copyFrom_6_74) f68 g82 (fun _ => (Or.inl (⟨by decide, by decide⟩)))
  have t83 : s78 6 6 = s66 6 6 := g82 6 6 (by decide)
  have t84 : s78 74 6 = s66 74 6 := g82 74 6 (by decide)
  have t85 : s78 74 7 = s66 74 7 := g82 74 7 (by decide)
  have t86 : s78 74 8 = s66 74 8 := g82 74 8 (by decide)
  refine T_if1 (by decide +kernel) ?_
  refine T_let 15 (by decide +kernel) ?_
  refine T_if1 (by decide +kernel) ?_
  refine T_let 83 (by decide +kernel) ?_
  refine T_if1 (by decide +kernel) ?_
  refine T_leq (fun x87 e88 => ?_)
  have u89 := CI_b c79 (k := 6) (j := 6) bd_6_6
  refine T_if1 (by decide +kernel) ?_
  refine T_lcopy hfu (by decide +kernel) (by decide +kernel) (c := 16) (c2 := 84) (by decide +kernel) (by decide +kernel) (by decide) (by omega) bdr_16 bdr_84 (by decide) (by decide) c79 (fun s90 e93 c91 g94 => ?_)
  have f92 := z_Fr.up (R := R_X9_copyFrom_6_74) f80 g94 (fun _ => (Or.inl (⟨by decide, by decide⟩)))
  have t95 : s90 6 6 = s78 6 6 := g94 6 6 (by decide)
  have t96 : s90 74 6 = s78 74 6 := g94 74 6 (by decide)
  have t97 : s90 74 7 = s78 74 7 := g94 74 7 (by decide)
  have t98 : s90 74 8 = s78 74 8 := g94 74 8 (by decide)
  refine T_if1 (by decide +kernel) ?_
  refine T_let 17 (by decide +kernel) ?_
  refine T_if1 (by decide +kernel) ?_
  refine T_let 85 (by decide +kernel) ?_
  refine T_if1 (by decide +kernel) ?_
  refine T_leq (fun x99 e100 => ?_)
  have u101 := CI_b c91 (k := 6) (j := 6) bd_6_6
  refine T_if1 (by decide +kernel) ?_
  refine T_lcopy hfu (by decide +kernel) (by decide +kernel) (c := 18) (c2 := 86) (by decide +kernel) (by decide +kernel) (by decide) (by omega) bdr_18 bdr_86 (by decide) (by decide) c91 (fun s102 e105 c103 g106 => ?_)
  have f104 := z_Fr.up (R := R_X9_copyFrom_6_74) f92 g106 (fun _ => (Or.inl (⟨by decide, by decide⟩)))
  have t107 : s102 6 6 = s90 6 6 := g106 6 6 (by decide)
  have t108 : s102 74 6 = s90 74 6 := g106 74 6 (by decide)
  have t109 : s102 74 7 = s90 74 7 := g106 74 7 (by decide)
  have t110 : s102 74 8 = s90 74 8 := g106 74 8 (by decide)
  exact T_ret ⟨c103, f104, rfl⟩
abbrev R_X9_copyFrom_6_61 (a b : Int) : Prop := (8 ≤ a ∧ a ≤ 18) ∨ (a = 6 ∧ (b = 6 ∨ b = 7 ∨ b = 8))
abbrev P_X9_copyFrom_6_61 (r0 : z_M) : z_V → z_M → Prop := fun v s' => z_CI s' ∧ z_Fr R_X9_copyFrom_6_61 r0 s' ∧ (v = vN)
theorem sf_X9_copyFrom_6_61 {fu : Nat} (hfu : 8589934592 ≤ fu) (r0 : z_M) (c0 : z_CI r0) : z_T (fX9_copyFrom fu r0 6 61) (P_X9_copyFrom_6_61 r0) := by
  refine T_of (fX9_copyFrom.eq_1 ..) ?_
  refine T_if1 (by decide +kernel) ?_
  refine T_leq (fun x1 e2 => ?_)
  have u3 := CI_b c0 (k := 61) (j := 6) bd_61_6
  refine T_if1 (by decide +kernel) ?_
  refine T_upg c0 bd_6_6 (by omega) (fun s4 c5 g7 g8 e9 => ?_)
  have f6 := z_Fr.upf (R := R_X9_copyFrom_6_61) z_Fr.rf g7 g8 (Or.inr (⟨rfl, by decide⟩))
  have t10 : s4 61 6 = r0 61 6 := g7 61 6 (by decide)
  have t11 : s4 61 7 = r0 61 7 := g7 61 7 (by decide)
  have t12 : s4 61 8 = r0 61 8 := g7 61 8 (by decide)
  refine T_if1 (by decide +kernel) ?_
  refine T_leq (fun x13 e14 => ?_)
  have u15 := CI_b c5 (k := 61) (j := 7) bd_61_7
  refine T_if1 (by decide +kernel) ?_
  refine T_upg c5 bd_6_7 (by omega) (fun s16 c17 g19 g20 e21 => ?_)
  have f18 := z_Fr.upf (R := R_X9_copyFrom_6_61) f6 g19 g20 (Or.inr (⟨rfl, by decide⟩))
  have t22 : s16 6 6 = s4 6 6 := g20 6 (by decide)
  have t23 : s16 61 6 = s4 61 6 := g19 61 6 (by decide)
  have t24 : s16 61 7 = s4 61 7 := g19 61 7 (by decide)
  have t25 : s16 61 8 = s4 61 8 := g19 61 8 (by decide)
  refine T_if1 (by decide +kernel) ?_
  refine T_leq (fun x26 e27 => ?_)
  have u28 := CI_b c17 (k := 61) (j := 8) bd_61_8
  refine T_if1 (by decide +kernel) ?_
  refine T_upg c17 bd_6_8 (by omega) (fun s29 c30 g32 g33 e34 => ?_)
  have f31 := z_Fr.upf (R := R_X9_copyFrom_6_61) f18 g32 g33 (Or.inr (⟨rfl, by decide⟩))
  have t35 : s29 6 6 = s16 6 6 := g33 6 (by decide)
  have t36 : s29 61 6 = s16 61 6 := g32 61 6 (by decide)
  have t37 : s29 61 7 = s16 61 7 := g32 61 7 (by decide)
  have t38 : s29 61 8 = s16 61 8 := g32 61 8 (by decide)
  refine T_if1 (by decide +kernel) ?_
  refine T_let 7 (by decide +kernel) ?_
  refine T_if1 (by decide +kernel) ?_
  refine T_let 62 (by decide +kernel) ?_
  refine T_if1 (by decide +kernel) ?_
  refine T_leq (fun x39 e40 => ?_)
  have u41 := CI_b c30 (k := 6) (j := 6) bd_6_6
  refine T_if1 (by decide +kernel) ?_
  refine T_copy hfu (by decide +kernel) (by decide +kernel) (c := 8) (c2 := 63) (by decide +kernel) (by decide +kernel) (by decide) (by omega) bdr_8 bdr_63 (by decide) (by decide) c30 (fun s42 e45 c43 g46 => ?_)
  have f44 := z_Fr.up (R := R_X9_copyFrom_6_61) f31 g46 (fun _ => (Or.inl (⟨by decide, by decide⟩)))
  have t47 : s42 6 6 = s29 6 6 := g46 6 6 (by decide)
  have t48 : s42 61 6 = s29 61 6 := g46 61 6 (by decide)
  have t49 : s42 61 7 = s29 61 7 := g46 61 7 (by decide)
  have t50 : s42 61 8 = s29 61 8 := g46 61 8 (by decide)
  refine T_if1 (by decide +kernel) ?_
  refine T_let 9 (by decide +kernel) ?_
  refine T_if1 (by decide +kernel) ?_
  refine T_let 64 (by decide +kernel) ?_
  refine T_if1 (by decide +kernel) ?_
  refine T_leq (fun x51 e52 => ?_)
  have u53 := CI_b c43 (k := 6) (j := 6) bd_6_6
  refine T_if1 (by decide +kernel) ?_
  refine T_copy hfu (by decide +kernel) (by decide +kernel) (c := 10) (c2 := 65) (by decide +kernel) (by decide +kernel) (by decide) (by omega) bdr_10 bdr_65 (by decide) (by decide) c43 (fun s54 e57 c55 g58 => ?_)
  have f56 := z_Fr.up (R := R_X9_copyFrom_6_61) f44 g58 (fun _ => (Or.inl (⟨by decide, by decide⟩)))
  have t59 : s54 6 6 = s42 6 6 := g58 6 6 (by decide)
  have t60 : s54 61 6 = s42 61 6 := g58 61 6 (by decide)
  have t61 : s54 61 7 = s42 61 7 := g58 61 7 (by decide)
  have t62 : s54 61 8 = s42 61 8 := g58 61 8 (by decide)
  refine T_if1 (by decide +kernel) ?_
  refine T_let 11 (by decide +kernel) ?_
  refine T_if1 (by decide +kernel) ?_
  refine T_let 66 (by decide +kernel) ?_
  refine T_if1 (by decide +kernel) ?_
  refine T_leq (fun x63 e64 => ?_)
  have u65 := CI_b c55 (k := 6) (j := 6) bd_6_6
  refine T_if1 (by decide +kernel) ?_
  refine T_copy hfu (by decide +kernel) (by decide +kernel) (c := 12) (c2 := 67) (by decide +kernel) (by decide +kernel) (by decide) (by omega) bdr_12 bdr_67 (by decide) (by decide) c55 (fun s66 e69 c67 g70 => ?_)
  have f68 := z_Fr.up (R := R_X9_copyFrom_6_61) f56 g70 (fun _ => (Or.inl (⟨by decide, by decide⟩)))
  have t71 : s66 6 6 = s54 6 6 := g70 6 6 (by decide)
  have t72 : s66 61 6 = s54 61 6 := g70 61 6 (by decide)
  have t73 : s66 61 7 = s54 61 7 := g70 61 7 (by decide)
  have t74 : s66 61 8 = s54 61 8 := g70 61 8 (by decide)
  refine T_if1 (by decide +kernel) ?_
  refine T_let 13 (by decide +kernel) ?_
  refine T_if1 (by decide +kernel) ?_
  refine T_let 68 (by decide +kernel) ?_
  refine T_if1 (by decide +kernel) ?_
  refine T_leq (fun x75 e76 => ?_)
  have u77 := CI_b c67 (k := 6) (j := 6) bd_6_6
  refine T_if1 (by decide +kernel) ?_
  refine T_copy hfu (by decide +kernel) (by decide +kernel) (c := 14) (c2 := 69) (by decide +kernel) (by decide +kernel) (by decide) (by omega) bdr_14 bdr_69 (by decide) (by decide) c67 (fun s78 e81 c79 g82 => ?_)
  have f80 := z_Fr.up (R := R_X9_copyFrom_6_61) f68 g82 (fun _ => (Or.inl (⟨by decide, by decide⟩)))
  have t83 : s78 6 6 = s66 6 6 := g82 6 6 (by decide)
  have t84 : s78 61 6 = s66 61 6 := g82 61 6 (by decide)
  have t85 : s78 61 7 = s66 61 7 := g82 61 7 (by decide)
  have t86 : s78 61 8 = s66 61 8 := g82 61 8 (by decide)
  refine T_if1 (by decide +kernel) ?_
  refine T_let 15 (by decide +kernel) ?_
  refine T_if1 (by decide +kernel) ?_
  refine T_let 70 (by decide +kernel) ?_
  refine T_if1 (by decide +kernel) ?_
  refine T_leq (fun x87 e88 => ?_)
  have u89 := CI_b c79 (k := 6) (j := 6) bd_6_6
  refine T_if1 (by decide +kernel) ?_
  refine T_lcopy hfu (by decide +kernel) (by decide +kernel) (c := 16) (c2 := 71) (by decide +kernel) (by decide +kernel) (by decide) (by omega) bdr_16 bdr_71 (by decide) (by decide) c79 (fun s90 e93 c91 g94 => ?_)
  have f92 := z_Fr.up (R := R_X9_copyFrom_6_61) f80 g94 (fun _ => (Or.inl (⟨by decide, by decide⟩)))
  have t95 : s90 6 6 = s78 6 6 := g94 6 6 (by decide)
  have t96 : s90 61 6 = s78 61 6 := g94 61 6 (by decide)
  have t97 : s90 61 7 = s78 61 7 := g94 61 7 (by decide)
  have t98 : s90 61 8 = s78 61 8 := g94 61 8 (by decide)
  refine T_if1 (by decide +kernel) ?_
  refine T_let 17 (by decide +kernel) ?_
  refine T_if1 (by decide +kernel) ?_
  refine T_let 72 (by decide +kernel) ?_
  refine T_if1 (by decide +kernel) ?_
  refine T_leq (fun x99 e100 => ?_)
  have u101 := CI_b c91 (k := 6) (j := 6) bd_6_6
  refine T_if1 (by decide +kernel) ?_
  refine T_lcopy hfu (by decide +kernel) (by decide +kernel) (c := 18) (c2 := 73) (by decide +kernel) (by decide +kernel) (by decide) (by omega) bdr_18 bdr_73 (by decide) (by decide) c91 (fun s102 e105 c103 g106 => ?_)
  have f104 := z_Fr.up (R := R_X9_copyFrom_6_61) f92 g106 (fun _ => (Or.inl (⟨by decide, by decide⟩)))
  have t107 : s102 6 6 = s90 6 6 := g106 6 6 (by decide)
  have t108 : s102 61 6 = s90 61 6 := g106 61 6 (by decide)
  have t109 : s102 61 7 = s90 61 7 := g106 61 7 (by decide)
  have t110 : s102 61 8 = s90 61 8 := g106 61 8 (by decide)
  exact T_ret ⟨c103, f104, rfl⟩
abbrev R_X9_copyFrom_6_48 (a b : Int) : Prop := (8 ≤ a ∧ a ≤ 18) ∨ (a = 6 ∧ (b = 6 ∨ b = 7 ∨ b = 8))
abbrev P_X9_copyFrom_6_48 (r0 : z_M) : z_V → z_M → Prop := fun v s' => z_CI s' ∧ z_Fr R_X9_copyFrom_6_48 r0 s' ∧ (v = vN)
theorem sf_X9_copyFrom_6_48 {fu : Nat} (hfu : 8589934592 ≤ fu) (r0 : z_M) (c0 : z_CI r0) : z_T (fX9_copyFrom fu r0 6 48) (P_X9_copyFrom_6_48 r0) := by
  refine T_of (fX9_copyFrom.eq_1 ..) ?_
  refine T_if1 (by decide +kernel) ?_
  refine T_leq (fun x1 e2 => ?_)
  have u3 := CI_b c0 (k := 48) (j := 6) bd_48_6
  refine T_if1 (by decide +kernel) ?_
  refine T_upg c0 bd_6_6 (by omega) (fun s4 c5 g7 g8 e9 => ?_)
  have f6 := z_Fr.upf (R := R_X9_copyFrom_6_48) z_Fr.rf g7 g8 (Or.inr (⟨rfl, by decide⟩))
  have t10 : s4 48 6 = r0 48 6 := g7 48 6 (by decide)
  have t11 : s4 48 7 = r0 48 7 := g7 48 7 (by decide)
  have t12 : s4 48 8 = r0 48 8 := g7 48 8 (by decide)
  refine T_if1 (by decide +kernel) ?_
  refine T_leq (fun x13 e14 => ?_)
  have u15 := CI_b c5 (k := 48) (j := 7) bd_48_7
  refine T_if1 (by decide +kernel) ?_
  refine T_upg c5 bd_6_7 (by omega) (fun s16 c17 g19 g20 e21 => ?_)
  have f18 := z_Fr.upf (R := R_X9_copyFrom_6_48) f6 g19 g20 (Or.inr (⟨rfl, by decide⟩))
  have t22 : s16 6 6 = s4 6 6 := g20 6 (by decide)
  have t23 : s16 48 6 = s4 48 6 := g19 48 6 (by decide)
  have t24 : s16 48 7 = s4 48 7 := g19 48 7 (by decide)
  have t25 : s16 48 8 = s4 48 8 := g19 48 8 (by decide)
  refine T_if1 (by decide +kernel) ?_
  refine T_leq (fun x26 e27 => ?_)
  have u28 := CI_b c17 (k := 48) (j := 8) bd_48_8
  refine T_if1 (by decide +kernel) ?_
  refine T_upg c17 bd_6_8 (by omega) (fun s29 c30 g32 g33 e34 => ?_)
  have f31 := z_Fr.upf (R := R_X9_copyFrom_6_48) f18 g32 g33 (Or.inr (⟨rfl, by decide⟩))
  have t35 : s29 6 6 = s16 6 6 := g33 6 (by decide)
  have t36 : s29 48 6 = s16 48 6 := g32 48 6 (by decide)
  have t37 : s29 48 7 = s16 48 7 := g32 48 7 (by decide)
  have t38 : s29 48 8 = s16 48 8 := g32 48 8 (by decide)
  refine T_if1 (by decide +kernel) ?_
  refine T_let 7 (by decide +kernel) ?_
  refine T_if1 (by decide +kernel) ?_
  refine T_let 49 (by decide +kernel) ?_
  refine T_if1 (by decide +kernel) ?_
  refine T_leq (fun x39 e40 => ?_)
  have u41 := CI_b c30 (k := 6) (j := 6) bd_6_6
  refine T_if1 (by decide +kernel) ?_
  refine T_copy hfu (by decide +kernel) (by decide +kernel) (c := 8) (c2 := 50) (by decide +kernel) (by decide +kernel) (by decide) (by omega) bdr_8 bdr_50 (by decide) (by decide) c30 (fun s42 e45 c43 g46 => ?_)
  have f44 := z_Fr.up (R := R_X9_copyFrom_6_48) f31 g46 (fun _ => (Or.inl (⟨by decide, by decide⟩)))
  have t47 : s42 6 6 = s29 6 6 := g46 6 6 (by decide)
  have t48 : s42 48 6 = s29 48 6 := g46 48 6 (by decide)
  have t49 : s42 48 7 = s29 48 7 := g46 48 7 (by decide)
  have t50 : s42 48 8 = s29 48 8 := g46 48 8 (by decide)
  refine T_if1 (by decide +kernel) ?_
  refine T_let 9 (by decide +kernel) ?_
  refine T_if1 (by decide +kernel) ?_
  refine T_let 51 (by decide +kernel) ?_
  refine T_if1 (by decide +kernel) ?_
  refine T_leq (fun x51 e52 => ?_)
  have u53 := CI_b c43 (k := 6) (j := 6) bd_6_6
  refine T_if1 (by decide +kernel) ?_
  refine T_copy hfu (by decide +kernel) (by decide +kernel) (c := 10) (c2 := 52) (by decide +kernel) (by decide +kernel) (by decide) (by omega) bdr_10 bdr_52 (by decide) (by decide) c43 (fun s54 e57 c55 g58 => ?_)
  have f56 := z_Fr.up (R := R_X9_copyFrom_6_48) f44 g58 (fun _ => (Or.inl (⟨by decide, by decide⟩)))
  have t59 : s54 6 6 = s42 6 6 := g58 6 6 (by decide)
  have t60 : s54 48 6 = s42 48 6 := g58 48 6 (by decide)
  have t61 : s54 48 7 = s42 48 7 := g58 48 7 (by decide)
  have t62 : s54 48 8 = s42 48 8 := g58 48 8 (by decide)
  refine T_if1 (by decide +kernel) ?_
  refine T_let 11 (by decide +kernel) ?_
  refine T_if1 (by decide +kernel) ?_
  refine T_let 53 (by decide +kernel) ?_
  refine T_if1 (by decide +kernel) ?_
  refine T_leq (fun x63 e64 => ?_)
  have u65 := CI_b c55 (k := 6) (j := 6) bd_6_6
  refine T_if1 (by decide +kernel) ?_
  refine T_copy hfu (by decide +kernel) (by decide +kernel) (c := 12) (c2 := 54) (by decide +kernel) (by decide +kernel) (by decide) (by omega) bdr_12 bdr_54 (by decide) (by decide) c55 (fun s66 e69 c67 g70 => ?_)
  have f68 := z_Fr.up (R := R_X9_copyFrom_6_48) f56 g70 (fun _ => (Or.inl (⟨by decide, by decide⟩)))
  have t71 : s66 6 6 = s54 6 6 := g70 6 6 (by decide)
  have t72 : s66 48 6 = s54 48 6 := g70 48 6 (by decide)
  have t73 : s66 48 7 = s54 48 7 := g70 48 7 (by decide)
  have t74 : s66 48 8 = s54 48 8 := g70 48 8 (by decide)
  refine T_if1 (by decide +kernel) ?_
  refine T_let 13 (by decide +kernel) ?_
  refine T_if1 (by decide +kernel) ?_
  refine T_let 55 (by decide +kernel) ?_
  refine T_if1 (by decide +kernel) ?_
  refine T_leq (fun x75 e76 => ?_)
  have u77 := CI_b c67 (k := 6) (j := 6) bd_6_6
  refine T_if1 (by decide +kernel) ?_
  refine T_copy hfu (by decide +kernel) (by decide +kernel) (c := 14) (c2 := 56) (by decide +kernel) (by decide +kernel) (by decide) (by omega) bdr_14 bdr_56 (by decide) (by decide) c67 (fun s78 e81 c79 g82 => ?_)
  have f80 := z_Fr.up (R := R_X9_copyFrom_6_48) f68 g82 (fun _ => (Or.inl (⟨by decide, by decide⟩)))
  have t83 : s78 6 6 = s66 6 6 := g82 6 6 (by decide)
  have t84 : s78 48 6 = s66 48 6 := g82 48 6 (by decide)
  have t85 : s78 48 7 = s66 48 7 := g82 48 7 (by decide)
  have t86 : s78 48 8 = s66 48 8 := g82 48 8 (by decide)
  refine T_if1 (by decide +kernel) ?_
  refine T_let 15 (by decide +kernel) ?_
  refine T_if1 (by decide +kernel) ?_
  refine T_let 57 (by decide +kernel) ?_
  refine T_if1 (by decide +kernel) ?_
  refine T_leq (fun x87 e88 => ?_)
  have u89 := CI_b c79 (k := 6) (j := 6) bd_6_6
  refine T_if1 (by decide +kernel) ?_
  refine T_lcopy hfu (by decide +kernel) (by decide +kernel) (c := 16) (c2 := 58) (by decide +kernel) (by decide +kernel) (by decide) (by omega) bdr_16 bdr_58 (by decide) (by decide) c79 (fun s90 e93 c91 g94 => ?_)
  have f92 := z_Fr.up (R := R_X9_copyFrom_6_48) f80 g94 (fun _ => (Or.inl (⟨by decide, by decide⟩)))
  have t95 : s90 6 6 = s78 6 6 := g94 6 6 (by decide)
  have t96 : s90 48 6 = s78 48 6 := g94 48 6 (by decide)
  have t97 : s90 48 7 = s78 48 7 := g94 48 7 (by decide)
  have t98 : s90 48 8 = s78 48 8 := g94 48 8 (by decide)
  refine T_if1 (by decide +kernel) ?_
  refine T_let 17 (by decide +kernel) ?_
  refine T_if1 (by decide +kernel) ?_
  refine T_let 59 (by decide +kernel) ?_
  refine T_if1 (by decide +kernel) ?_
  refine T_leq (fun x99 e100 => ?_)
  have u101 := CI_b c91 (k := 6) (j := 6) bd_6_6
  refine T_if1 (by decide +kernel) ?_
  refine T_lcopy hfu (by decide +kernel) (by decide +kernel) (c := 18) (c2 := 60) (by decide +kernel) (by decide +kernel) (by decide) (by omega) bdr_18 bdr_60 (by decide) (by decide) c91 (fun s102 e105 c103 g106 => ?_)
  have f104 := z_Fr.up (R := R_X9_copyFrom_6_48) f92 g106 (fun _ => (Or.inl (⟨by decide, by decide⟩)))
  have t107 : s102 6 6 = s90 6 6 := g106 6 6 (by decide)
  have t108 : s102 48 6 = s90 48 6 := g106 48 6 (by decide)
  have t109 : s102 48 7 = s90 48 7 := g106 48 7 (by decide)
  have t110 : s102 48 8 = s90 48 8 := g106 48 8 (by decide)
  exact T_ret ⟨c103, f104, rfl⟩
abbrev R_X9_copyFrom_6_35 (a b : Int) : Prop := (8 ≤ a ∧ a ≤ 18) ∨ (a = 6 ∧ (b = 6 ∨ b = 7 ∨ b = 8))
abbrev P_X9_copyFrom_6_35 (r0 : z_M) : z_V → z_M → Prop := fun v s' => z_CI s' ∧ z_Fr R_X9_copyFrom_6_35 r0 s' ∧ (v = vN)
theorem sf_X9_copyFrom_6_35 {fu : Nat} (hfu : 8589934592 ≤ fu) (r0 : z_M) (c0 : z_CI r0) : z_T (fX9_copyFrom fu r0 6 35) (P_X9_copyFrom_6_35 r0) := by
  refine T_of (fX9_copyFrom.eq_1 ..) ?_
  refine T_if1 (by decide +kernel) ?_
  refine T_leq (fun x1 e2 => ?_)
  have u3 := CI_b c0 (k := 35) (j := 6) bd_35_6
  refine T_if1 (by decide +kernel) ?_
  refine T_upg c0 bd_6_6 (by omega) (fun s4 c5 g7 g8 e9 => ?_)
  have f6 := z_Fr.upf (R := R_X9_copyFrom_6_35) z_Fr.rf g7 g8 (Or.inr (⟨rfl, by decide⟩))
  have t10 : s4 35 6 = r0 35 6 := g7 35 6 (by decide)
  have t11 : s4 35 7 = r0 35 7 := g7 35 7 (by decide)
  have t12 : s4 35 8 = r0 35 8 := g7 35 8 (by decide)
  refine T_if1 (by decide +kernel) ?_
  refine T_leq (fun x13 e14 => ?_)
  have u15 := CI_b c5 (k := 35) (j := 7) bd_35_7
  refine T_if1 (by decide +kernel) ?_
  refine T_upg c5 bd_6_7 (by omega) (fun s16 c17 g19 g20 e21 => ?_)
  have f18 := z_Fr.upf (R := R_X9_copyFrom_6_35) f6 g19 g20 (Or.inr (⟨rfl, by decide⟩))
  have t22 : s16 6 6 = s4 6 6 := g20 6 (by decide)
  have t23 : s16 35 6 = s4 35 6 := g19 35 6 (by decide)
  have t24 : s16 35 7 = s4 35 7 := g19 35 7 (by decide)
  have t25 : s16 35 8 = s4 35 8 := g19 35 8 (by decide)
  refine T_if1 (by decide +kernel) ?_
  refine T_leq (fun x26 e27 => ?_)
  have u28 := CI_b c17 (k := 35) (j := 8) bd_35_8
  refine T_if1 (by decide +kernel) ?_
  refine T_upg c17 bd_6_8 (by omega) (fun s29 c30 g32 g33 e34 => ?_)
  have f31 := z_Fr.upf (R := R_X9_copyFrom_6_35) f18 g32 g33 (Or.inr (⟨rfl, by decide⟩))
  have t35 : s29 6 6 = s16 6 6 := g33 6 (by decide)
  have t36 : s29 35 6 = s16 35 6 := g32 35 6 (by decide)
  have t37 : s29 35 7 = s16 35 7 := g32 35 7 (by decide)
  have t38 : s29 35 8 = s16 35 8 := g32 35 8 (by decide)
  refine T_if1 (by decide +kernel) ?_
  refine T_let 7 (by decide +kernel) ?_
  refine T_if1 (by decide +kernel) ?_
  refine T_let 36 (by decide +kernel) ?_
  refine T_if1 (by decide +kernel) ?_
  refine T_leq (fun x39 e40 => ?_)
  have u41 := CI_b c30 (k := 6) (j := 6) bd_6_6
  refine T_if1 (by decide +kernel) ?_
  refine T_copy hfu (by decide +kernel) (by decide +kernel) (c := 8) (c2 := 37) (by decide +kernel) (by decide +kernel) (by decide) (by omega) bdr_8 bdr_37 (by decide) (by decide) c30 (fun s42 e45 c43 g46 => ?_)
  have f44 := z_Fr.up (R := R_X9_copyFrom_6_35) f31 g46 (fun _ => (Or.inl (⟨by decide, by decide⟩)))
  have t47 : s42 6 6 = s29 6 6 := g46 6 6 (by decide)
  have t48 : s42 35 6 = s29 35 6 := g46 35 6 (by decide)
  have t49 : s42 35 7 = s29 35 7 := g46 35 7 (by decide)
  have t50 : s42 35 8 = s29 35 8 := g46 35 8 (by decide)
  refine T_if1 (by decide +kernel) ?_
  refine T_let 9 (by decide +kernel) ?_
  refine T_if1 (by decide +kernel) ?_
  refine T_let 38 (by decide +kernel) ?_
  refine T_if1 (by decide +kernel) ?_
  refine T_leq (fun x51 e52 => ?_)
  have u53 := CI_b c43 (k := 6) (j := 6) bd_6_6
  refine T_if1 (by decide +kernel) ?_
  refine T_copy hfu (by decide +kernel) (by decide +kernel) (c := 10) (c2 := 39) (by decide +kernel) (by decide +kernel) (by decide) (by omega) bdr_10 bdr_39 (by decide) (by decide) c43 (fun s54 e57 c55 g58 => ?_)
  have f56 := z_Fr.up (R := R_X9_copyFrom_6_35) f44 g58 (fun _ => (Or.inl (⟨by decide, by decide⟩)))
  have t59 : s54 6 6 = s42 6 6 := g58 6 6 (by decide)
  have t60 : s54 35 6 = s42 35 6 := g58 35 6 (by decide)
  have t61 : s54 35 7 = s42 35 7 := g58 35 7 (by decide)
  have t62 : s54 35 8 = s42 35 8 := g58 35 8 (by decide)
  refine T_if1 (by decide +kernel) ?_
  refine T_let 11 (by decide +kernel) ?_
  refine T_if1 (by decide +kernel) ?_
  refine T_let 40 (by decide +kernel) ?_
  refine T_if1 (by decide +kernel) ?_
  refine T_leq (fun x63 e64 => ?_)
  have u65 := CI_b c55 (k := 6) (j := 6) bd_6_6
  refine T_if1 (by decide +kernel) ?_
  refine T_copy hfu (by decide +kernel) (by decide +kernel) (c := 12) (c2 := 41) (by decide +kernel) (by decide +kernel) (by decide) (by omega) bdr_12 bdr_41 (by decide) (by decide) c55 (fun s66 e69 c67 g70 => ?_)
  have f68 := z_Fr.up (R := R_X9_copyFrom_6_35) f56 g70 (fun _ => (Or.inl (⟨by decide, by decide⟩)))
  have t71 : s66 6 6 = s54 6 6 := g70 6 6 (by decide)
  have t72 : s66 35 6 = s54 35 6 := g70 35 6 (by decide)
  have t73 : s66 35 7 = s54 35 7 := g70 35 7 (by decide)
  have t74 : s66 35 8 = s54 35 8 := g70 35 8 (by decide)
  refine T_if1 (by decide +kernel) ?_
  refine T_let 13 (by decide +kernel) ?_
  refine T_if1 (by decide +kernel) ?_
  refine T_let 42 (by decide +kernel) ?_
  refine T_if1 (by decide +kernel) ?_
  refine T_leq (fun x75 e76 => ?_)
  have u77 := CI_b c67 (k := 6) (j := 6) bd_6_6
  refine T_if1 (by decide +kernel) ?_
  refine T_copy hfu (by decide +kernel) (by decide +kernel) (c := 14) (c2 := 43) (by decide +kernel) (by decide +kernel) (by decide) (by omega) bdr_14 bdr_43 (by decide) (by decide) c67 (fun s78 e81 c79 g82 => ?_)
  have f80 := z_Fr.up (R := R_X9_copyFrom_6_35) f68 g82 (fun _ => (Or.inl (⟨by decide, by decide⟩)))
  have t83 : s78 6 6 = s66 6 6 := g82 6 6 (by decide)
  have t84 : s78 35 6 = s66 35 6 := g82 35 6 (by decide)
  have t85 : s78 35 7 = s66 35 7 := g82 35 7 (by decide)
  have t86 : s78 35 8 = s66 35 8 := g82 35 8 (by decide)
  refine T_if1 (by decide +kernel) ?_
  refine T_let 15 (by decide +kernel) ?_
  refine T_if1 (by decide +kernel) ?_
  refine T_let 44 (by decide +kernel) ?_
  refine T_if1 (by decide +kernel) ?_
  refine T_leq (fun x87 e88 => ?_)
  have u89 := CI_b c79 (k := 6) (j := 6) bd_6_6
  refine T_if1 (by decide +kernel) ?_
  refine T_lcopy hfu (by decide +kernel) (by decide +kernel) (c := 16) (c2 := 45) (by decide +kernel) (by decide +kernel) (by decide) (by omega) bdr_16 bdr_45 (by decide) (by decide) c79 (fun s90 e93 c91 g94 => ?_)
  have f92 := z_Fr.up (R := R_X9_copyFrom_6_35) f80 g94 (fun _ => (Or.inl (⟨by decide, by decide⟩)))
  have t95 : s90 6 6 = s78 6 6 := g94 6 6 (by decide)
  have t96 : s90 35 6 = s78 35 6 := g94 35 6 (by decide)
  have t97 : s90 35 7 = s78 35 7 := g94 35 7 (by decide)
  have t98 : s90 35 8 = s78 35 8 := g94 35 8 (by decide)
  refine T_if1 (by decide +kernel) ?_
  refine T_let 17 (by decide +kernel) ?_
  refine T_if1 (by decide +kernel) ?_
  refine T_let 46 (by decide +kernel) ?_
  refine T_if1 (by decide +kernel) ?_
  refine T_leq (fun x99 e100 => ?_)
  have u101 := CI_b c91 (k := 6) (j := 6) bd_6_6
  refine T_if1 (by decide +kernel) ?_
  refine T_lcopy hfu (by decide +kernel) (by decide +kernel) (c := 18) (c2 := 47) (by decide +kernel) (by decide +kernel) (by decide) (by omega) bdr_18 bdr_47 (by decide) (by decide) c91 (fun s102 e105 c103 g106 => ?_)
  have f104 := z_Fr.up (R := R_X9_copyFrom_6_35) f92 g106 (fun _ => (Or.inl (⟨by decide, by decide⟩)))
  have t107 : s102 6 6 = s90 6 6 := g106 6 6 (by decide)
  have t108 : s102 35 6 = s90 35 6 := g106 35 6 (by decide)
  have t109 : s102 35 7 = s90 35 7 := g106 35 7 (by decide)
  have t110 : s102 35 8 = s90 35 8 := g106 35 8 (by decide)
  exact T_ret ⟨c103, f104, rfl⟩
abbrev R_X2_takeBack_33_6 (a b : Int) : Prop := (8 ≤ a ∧ a ≤ 18) ∨ (33 ≤ a ∧ a ≤ 33) ∨ (a = 6 ∧ (b = 6 ∨ b = 7 ∨ b = 8))
abbrev P_X2_takeBack_33_6 (r0 : z_M) : z_V → z_M → Prop := fun v s' => z_CI s' ∧ z_Fr R_X2_takeBack_33_6 r0 s' ∧ (∃ x, v = vI x ∧ 0 ≤ x ∧ x ≤ 1)
abbrev R_X11_undo_1 (a b : Int) : Prop := (8 ≤ a ∧ a ≤ 18) ∨ (33 ≤ a ∧ a ≤ 33) ∨ (193 ≤ a ∧ a ≤ 219) ∨ (222 ≤ a ∧ a ≤ 222) ∨ (225 ≤ a ∧ a ≤ 239) ∨ (242 ≤ a ∧ a ≤ 244) ∨ (248 ≤ a ∧ a ≤ 248) ∨ (260 ≤ a ∧ a ≤ 278) ∨ (281 ≤ a ∧ a ≤ 295) ∨ (a = 1 ∧ (b = 16 ∨ b = 17 ∨ b = 18)) ∨ (a = 6 ∧ (b = 6 ∨ b = 7 ∨ b = 8)) ∨ (a = 191 ∧ (b = 16 ∨ b = 17 ∨ b = 18)) ∨ (a = 220 ∧ (b = 4 ∨ b = 5)) ∨ (a = 223 ∧ (b = 9)) ∨ (a = 240 ∧ (b = 6)) ∨ (a = 279 ∧ (b = 9))
abbrev P_X11_undo_1 (r0 : z_M) : z_V → z_M → Prop := fun v s' => z_CI s' ∧ z_Fr R_X11_undo_1 r0 s' ∧ (z_V16 s') ∧ (∃ x, v = vI x ∧ -2147483648 ≤ x ∧ x ≤ 2147483647)
theorem rs_X9_copyFrom_6_35__X11_undo_1 (a b : Int) (h : R_X9_copyFrom_6_35 a b) : R_X11_undo_1 a b := (h.elim (fun h => (Or.inl (⟨by omega, by omega⟩))) (fun h => (Or.inr (Or.inr (Or.inr (Or.inr (Or.inr (Or.inr (Or.inr (Or.inr (Or.inr (Or.inr (Or.inl (⟨h.1, by omega⟩))))))))))))))
theorem nr_X9_copyFrom_6_35__195 (b : Int) : ¬ R_X9_copyFrom_6_35 195 b := by
  unfold R_X9_copyFrom_6_35; omega
theorem nr_X9_copyFrom_6_35__197 (b : Int) : ¬ R_X9_copyFrom_6_35 197 b := by
  unfold R_X9_copyFrom_6_35; omega
theorem rs_X11_refresh_1__X11_undo_1 (a b : Int) (h : R_X11_refresh_1 a b) : R_X11_undo_1 a b := (h.elim (fun h => (Or.inr (Or.inr (Or.inl (⟨by omega, by omega⟩))))) (fun h => (h.elim (fun h => (Or.inr (Or.inr (Or.inr (Or.inl (⟨by omega, by omega⟩)))))) (fun h => (h.elim (fun h => (Or.inr (Or.inr (Or.inr (Or.inr (Or.inl (⟨by omega, by omega⟩))))))) (fun h => (h.elim (fun h => (Or.inr (Or.inr (Or.inr (Or.inr (Or.inr (Or.inl (⟨by omega, by omega⟩)))))))) (fun h => (h.elim (fun h => (Or.inr (Or.inr (Or.inr (Or.inr (Or.inr (Or.inr (Or.inl (⟨by omega, by omega⟩))))))))) (fun h => (h.elim (fun h => (Or.inr (Or.inr (Or.inr (Or.inr (Or.inr (Or.inr (Or.inr (Or.inl (⟨by omega, by omega⟩)))))))))) (fun h => (h.elim (fun h => (Or.inr (Or.inr (Or.inr (Or.inr (Or.inr (Or.inr (Or.inr (Or.inr (Or.inl (⟨by omega, by omega⟩))))))))))) (fun h => (h.elim (fun h => (Or.inr (Or.inr (Or.inr (Or.inr (Or.inr (Or.inr (Or.inr (Or.inr (Or.inr (Or.inl (⟨h.1, by omega⟩)))))))))))) (fun h => (h.elim (fun h => (Or.inr (Or.inr (Or.inr (Or.inr (Or.inr (Or.inr (Or.inr (Or.inr (Or.inr (Or.inr (Or.inr (Or.inl (⟨h.1, by omega⟩)))))))))))))) (fun h => (h.elim (fun h => (Or.inr (Or.inr (Or.inr (Or.inr (Or.inr (Or.inr (Or.inr (Or.inr (Or.inr (Or.inr (Or.inr (Or.inr (Or.inl (⟨h.1, by omega⟩))))))))))))))) (fun h => (h.elim (fun h => (Or.inr (Or.inr (Or.inr (Or.inr (Or.inr (Or.inr (Or.inr (Or.inr (Or.inr (Or.inr (Or.inr (Or.inr (Or.inr (Or.inl (⟨h.1, by omega⟩)))))))))))))))) (fun h => (h.elim (fun h => (Or.inr (Or.inr (Or.inr (Or.inr (Or.inr (Or.inr (Or.inr (Or.inr (Or.inr (Or.inr (Or.inr (Or.inr (Or.inr (Or.inr (Or.inl (⟨h.1, by omega⟩))))))))))))))))) (fun h => (Or.inr (Or.inr (Or.inr (Or.inr (Or.inr (Or.inr (Or.inr (Or.inr (Or.inr (Or.inr (Or.inr (Or.inr (Or.inr (Or.inr (Or.inr (⟨h.1, by omega⟩))))))))))))))))))))))))))))))))))))))))
theorem rs_X9_copyFrom_6_48__X11_undo_1 (a b : Int) (h : R_X9_copyFrom_6_48 a b) : R_X11_undo_1 a b := (h.elim (fun h => (Or.inl (⟨by omega, by omega⟩))) (fun h => (Or.inr (Or.inr (Or.inr (Or.inr (Or.inr (Or.inr (Or.inr (Or.inr (Or.inr (Or.inr (Or.inl (⟨h.1, by omega⟩))))))))))))))
theorem nr_X9_copyFrom_6_48__195 (b : Int) : ¬ R_X9_copyFrom_6_48 195 b := by
  unfold R_X9_copyFrom_6_48; omega
theorem nr_X9_copyFrom_6_48__197 (b : Int) : ¬ R_X9_copyFrom_6_48 197 b := by
  unfold R_X9_copyFrom_6_48; omega
theorem rs_X9_copyFrom_6_61__X11_undo_1 (a b : Int) (h : R_X9_copyFrom_6_61 a b) : R_X11_undo_1 a b := (h.elim (fun h => (Or.inl (⟨by omega, by omega⟩))) (fun h => (Or.inr (Or.inr (Or.inr (Or.inr (Or.inr (Or.inr (Or.inr (Or.inr (Or.inr (Or.inr (Or.inl (⟨h.1, by omega⟩))))))))))))))
theorem nr_X9_copyFrom_6_61__195 (b : Int) : ¬ R_X9_copyFrom_6_61 195 b := by
  unfold R_X9_copyFrom_6_61; omega
theorem nr_X9_copyFrom_6_61__197 (b : Int) : ¬ R_X9_copyFrom_6_61 197 b := by
  unfold R_X9_copyFrom_6_61; omega
theorem rs_X9_copyFrom_6_74__X11_undo_1 (a b : Int) (h : R_X9_copyFrom_6_74 a b) : R_X11_undo_1 a b := (h.elim (fun h => (Or.inl (⟨by omega, by omega⟩))) (fun h => (Or.inr (Or.inr (Or.inr (Or.inr (Or.inr (Or.inr (Or.inr (Or.inr (Or.inr (Or.inr (Or.inl (⟨h.1, by omega⟩))))))))))))))
theorem nr_X9_copyFrom_6_74__195 (b : Int) : ¬ R_X9_copyFrom_6_74 195 b := by
  unfold R_X9_copyFrom_6_74; omega
theorem nr_X9_copyFrom_6_74__197 (b : Int) : ¬ R_X9_copyFrom_6_74 197 b := by
  unfold R_X9_copyFrom_6_74; omega
theorem rs_X9_copyFrom_6_87__X11_undo_1 (a b : Int) (h : R_X9_copyFrom_6_87 a b) : R_X11_undo_1 a b := (h.elim (fun h => (Or.inl (⟨by omega, by omega⟩))) (fun h => (Or.inr (Or.inr (Or.inr (Or.inr (Or.inr (Or.inr (Or.inr (Or.inr (Or.inr (Or.inr (Or.inl (⟨h.1, by omega⟩))))))))))))))
theorem nr_X9_copyFrom_6_87__195 (b : Int) : ¬ R_X9_copyFrom_6_87 195 b := by
  unfold R_X9_copyFrom_6_87; omega
theorem nr_X9_copyFrom_6_87__197 (b : Int) : ¬ R_X9_copyFrom_6_87 197 b := by
  unfold R_X9_copyFrom_6_87; omega
theorem rs_X9_copyFrom_6_100__X11_undo_1 (a b : Int) (h : R_X9_copyFrom_6_100 a b) : R_X11_undo_1 a b := (h.elim (fun h => (Or.inl (⟨by omega, by omega⟩))) (fun h => (Or.inr (Or.inr (Or.inr (Or.inr (Or.inr (Or.inr (Or.inr (Or.inr (Or.inr (Or.inr (Or.inl (⟨h.1, by omega⟩))))))))))))))
theorem nr_X9_copyFrom_6_100__195 (b : Int) : ¬ R_X9_copyFrom_6_100 195 b := by
  unfold R_X9_copyFrom_6_100; omega
theorem nr_X9_copyFrom_6_100__197 (b : Int) : ¬ R_X9_copyFrom_6_100 197 b := by
  unfold R_X9_copyFrom_6_100; omega
theorem rs_X9_copyFrom_6_113__X11_undo_1 (a b : Int) (h : R_X9_copyFrom_6_113 a b) : R_X11_undo_1 a b := (h.elim (fun h => (Or.inl (⟨by omega, by omega⟩))) (fun h => (Or.inr (Or.inr (Or.inr (Or.inr (Or.inr (Or.inr (Or.inr (Or.inr (Or.inr (Or.inr (Or.inl (⟨h.1, by omega⟩))))))))))))))
theorem nr_X9_copyFrom_6_113__195 (b : Int) : ¬ R_X9_copyFrom_6_113 195 b := by
  unfold R_X9_copyFrom_6_113; omega
theorem nr_X9_copyFrom_6_113__197 (b : Int) : ¬ R_X9_copyFrom_6_113 197 b := by
  unfold R_X9_copyFrom_6_113; omega
theorem rs_X9_copyFrom_6_126__X11_undo_1 (a b : Int) (h : R_X9_copyFrom_6_126 a b) : R_X11_undo_1 a b := (h.elim (fun h => (Or.inl (⟨by omega, by omega⟩))) (fun h => (Or.inr (Or.inr (Or.inr (Or.inr (Or.inr (Or.inr (Or.inr (Or.inr (Or.inr (Or.inr (Or.inl (⟨h.1, by omega⟩))))))))))))))
theorem nr_X9_copyFrom_6_126__195 (b : Int) : ¬ R_X9_copyFrom_6_126 195 b := by
  unfold R_X9_copyFrom_6_126; omega
theorem nr_X9_copyFrom_6_126__197 (b : Int) : ¬ R_X9_copyFrom_6_126 197 b := by
  unfold R_X9_copyFrom_6_126; omega
theorem rs_X9_copyFrom_6_139__X11_undo_1 (a b : Int) (h : R_X9_copyFrom_6_139 a b) : R_X11_undo_1 a b := (h.elim (fun h => (Or.inl (⟨by omega, by omega⟩))) (fun h => (Or.inr (Or.inr (Or.inr (Or.inr (Or.inr (Or.inr (Or.inr (Or.inr (Or.inr (Or.inr (Or.inl (⟨h.1, by omega⟩))))))))))))))
theorem nr_X9_copyFrom_6_139__195 (b : Int) : ¬ R_X9_copyFrom_6_139 195 b := by
  unfold R_X9_copyFrom_6_139; omega
theorem nr_X9_copyFrom_6_139__197 (b : Int) : ¬ R_X9_copyFrom_6_139 197 b := by
  unfold R_X9_copyFrom_6_139; omega
theorem rs_X9_copyFrom_6_152__X11_undo_1 (a b : Int) (h : R_X9_copyFrom_6_152 a b) : R_X11_undo_1 a b := (h.elim (fun h => (Or.inl (⟨by omega, by omega⟩))) (fun h => (Or.inr (Or.inr (Or.inr (Or.inr (Or.inr (Or.inr (Or.inr (Or.inr (Or.inr (Or.inr (Or.inl (⟨h.1, by omega⟩))))))))))))))
theorem nr_X9_copyFrom_6_152__195 (b : Int) : ¬ R_X9_copyFrom_6_152 195 b := by
  unfold R_X9_copyFrom_6_152; omega
theorem nr_X9_copyFrom_6_152__197 (b : Int) : ¬ R_X9_copyFrom_6_152 197 b := by
  unfold R_X9_copyFrom_6_152; omega
theorem rs_X9_copyFrom_6_165__X11_undo_1 (a b : Int) (h : R_X9_copyFrom_6_165 a b) : R_X11_undo_1 a b := (h.elim (fun h => (Or.inl (⟨by omega, by omega⟩))) (fun h => (Or.inr (Or.inr (Or.inr (Or.inr (Or.inr (Or.inr (Or.inr (Or.inr (Or.inr (Or.inr (Or.inl (⟨h.1, by omega⟩))))))))))))))
theorem nr_X9_copyFrom_6_165__195 (b : Int) : ¬ R_X9_copyFrom_6_165 195 b := by
  unfold R_X9_copyFrom_6_165; omega
theorem nr_X9_copyFrom_6_165__197 (b : Int) : ¬ R_X9_copyFrom_6_165 197 b := by
  unfold R_X9_copyFrom_6_165; omega
theorem rs_X9_copyFrom_6_178__X11_undo_1 (a b : Int) (h : R_X9_copyFrom_6_178 a b) : R_X11_undo_1 a b := (h.elim (fun h => (Or.inl (⟨by omega, by omega⟩))) (fun h => (Or.inr (Or.inr (Or.inr (Or.inr (Or.inr (Or.inr (Or.inr (Or.inr (Or.inr (Or.inr (Or.inl (⟨h.1, by omega⟩))))))))))))))
theorem nr_X9_copyFrom_6_178__195 (b : Int) : ¬ R_X9_copyFrom_6_178 195 b := by
  unfold R_X9_copyFrom_6_178; omega
theorem nr_X9_copyFrom_6_178__197 (b : Int) : ¬ R_X9_copyFrom_6_178 197 b := by
  unfold R_X9_copyFrom_6_178; omega
theorem sf_X11_undo_1 {fu : Nat} (hfu : 8589934592 ≤ fu) (r0 : z_M) (c0 : z_CI r0) (p0 : z_V16 r0) : z_T (fX11_undo fu r0 1) (P_X11_undo_1 r0) := by
  refine T_of (fX11_undo.eq_1 ..) ?_
  refine T_if1 (by decide +kernel) ?_
  refine T_let 33 (by decide +kernel) ?_
  refine T_if1 (by decide +kernel) ?_
  refine T_let 6 (by decide +kernel) ?_
  refine T_if1 (by decide +kernel) ?_
  refine T_bI ?_
  refine T_of (fX2_takeBack.eq_1 ..) ?_
  refine T_if1 (by decide +kernel) ?_
  refine T_leq (fun x1 e2 => ?_)
  have u3 := CI_b c0 (k := 33) (j := 2) bd_33_2
  refine T_ite (fun h4 => ?_) (fun h4 => ?_)
  · refine T_if1 (by decide +kernel) ?_
    refine T_leq (fun x5 e6 => ?_)
    have u7 := CI_b c0 (k := 33) (j := 2) bd_33_2
    refine T_leq (fun x8 e9 => ?_)
    have w10 := z_wb e9
    refine T_if1 (by decide +kernel) ?_
    refine T_upg c0 bd_33_2 (by omega) (fun s11 c12 g14 g15 e16 => ?_)
    have f13 := z_Fr.upf (R := R_X11_undo_1) z_Fr.rf g14 g15 (Or.inr (Or.inl (⟨by decide, by decide⟩)))
    have t17 : s11 33 1 = r0 33 1 := g15 1 (by decide)
    have t18 : s11 191 16 = r0 191 16 := g14 191 16 (by decide)
    have r19 := z_V16.fr p0 (g14 1 16 (by decide)) (g14 191 16 (by decide)) (g14 6 6 (by decide)) (fun b => g14 195 b (by decide)) (fun b => g14 197 b (by decide))
    refine T_if1 (by decide +kernel) ?_
    refine T_leq (fun x20 e21 => ?_)
    have u22 := CI_b c12 (k := 33) (j := 1) bd_33_1
    refine T_ite (fun h23 => ?_) (fun h23 => ?_)
    · refine T_of (fX2_takeBack_J38.eq_1 ..) ?_
      refine T_if1 (by decide +kernel) ?_
      refine T_upg c12 bd_33_1 (by omega) (fun s24 c25 g27 g28 e29 => ?_)
      have f26 := z_Fr.upf (R := R_X11_undo_1) f13 g27 g28 (Or.inr (Or.inl (⟨by decide, by decide⟩)))
      have t30 : s24 33 2 = s11 33 2 := g28 2 (by decide)
      have t31 : s24 191 16 = s11 191 16 := g27 191 16 (by decide)
      have r32 := z_V16.fr r19 (g27 1 16 (by decide)) (g27 191 16 (by decide)) (g27 6 6 (by decide)) (fun b => g27 195 b (by decide)) (fun b => g27 197 b (by decide))
      refine T_if1 (by decide +kernel) ?_
      refine T_bR ?_
      refine T_of (fX2_place.eq_1 ..) ?_
      refine T_if1 (by decide +kernel) ?_
      refine T_leq (fun x33 e34 => ?_)
      have u35 := CI_b c25 (k := 33) (j := 1) bd_33_1
      refine T_ite (fun h36 => ?_) (fun h36 => ?_)
      · refine T_of (fX2_place_J31.eq_1 ..) ?_
        exfalso
        omega
      · refine T_if1 (by decide +kernel) ?_
        refine T_leq (fun x37 e38 => ?_)
        have u39 := CI_b c25 (k := 33) (j := 1) bd_33_1
        refine T_if1 (by decide +kernel) ?_
        refine T_let 34 (by decide +kernel) ?_
        refine T_if1 (by decide +kernel) ?_
        refine T_let 12 (by decide +kernel) ?_
        refine T_ite (fun h40 => ?_) (fun h40 => ?_)
        · refine T_of (fX2_place_J31.eq_1 ..) ?_
          exfalso
          omega
        · refine T_if1 (by decide +kernel) ?_
          refine T_let 34 (by decide +kernel) ?_
          refine T_if1 (by decide +kernel) ?_
          refine T_leq (fun x41 e42 => ?_)
          have u43 := CI_b c25 (k := 33) (j := 1) bd_33_1
          rcases (show x41 = 0 ∨ x41 = 1 ∨ x41 = 2 ∨ x41 = 3 ∨ x41 = 4 ∨ x41 = 5 ∨ x41 = 6 ∨ x41 = 7 ∨ x41 = 8 ∨ x41 = 9 ∨ x41 = 10 ∨ x41 = 11 by omega) with rfl | rfl | rfl | rfl | rfl | rfl | rfl | rfl | rfl | rfl | rfl | rfl
          · refine T_if1 (by decide +kernel) ?_
            refine T_let 35 (by decide +kernel) ?_
            refine T_of (fX2_place_J32.eq_1 ..) ?_
            refine T_rR ?_
            refine T_if1 (by decide) ?_
            refine T_if1 (by decide +kernel) ?_
            refine T_useN (sf_X9_copyFrom_6_35 hfu s24 c25) (fun v50 s45 hq => ?_)
            obtain ⟨c46, f47, rfl⟩ := hq
            refine T_vN ?_
            have f48 := z_Fr.tr (R := R_X11_undo_1) f26 f47 rs_X9_copyFrom_6_35__X11_undo_1
            have t53 : s45 33 1 = s24 33 1 := f47 33 1 (by decide)
            have t54 : s45 33 2 = s24 33 2 := f47 33 2 (by decide)
            have t55 : s45 191 16 = s24 191 16 := f47 191 16 (by decide)
            refine T_if1 (by unfold z_bl; omega) ?_
            refine T_rI ?_
            refine T_ite (fun h56 => ?_) (fun h56 => ?_)
            · refine T_if1 ⟨(by decide +kernel), by unfold z_bl; omega⟩ ?_
              refine T_upg c46 bd_1_16 (by omega) (fun s57 c58 g60 g61 e62 => ?_)
              have f59 := z_Fr.upf (R := R_X11_undo_1) f48 g60 g61 (Or.inr (Or.inr (Or.inr (Or.inr (Or.inr (Or.inr (Or.inr (Or.inr (Or.inr (Or.inl (⟨rfl, by decide⟩)))))))))))
              have t63 : s57 33 1 = s45 33 1 := g60 33 1 (by decide)
              have t64 : s57 33 2 = s45 33 2 := g60 33 2 (by decide)
              have t65 : s57 191 16 = s45 191 16 := g60 191 16 (by decide)
              refine T_if1 (by decide +kernel) ?_
              refine T_useN (sf_X11_refresh_1 hfu s57 c58 (Or.inl (by omega))) (fun v71 s66 hq => ?_)
              obtain ⟨c67, f68, o72, rfl⟩ := hq
              refine T_vN ?_
              have f69 := z_Fr.tr (R := R_X11_undo_1) f59 f68 rs_X11_refresh_1__X11_undo_1
              have t75 : s66 33 1 = s57 33 1 := f68 33 1 (by decide)
              have t76 : s66 33 2 = s57 33 2 := f68 33 2 (by decide)
              have u77 := CI_b c67 (k := 191) (j := 16) bd_191_16
              refine T_if1 (by decide +kernel) ?_
              refine T_let 191 (by decide +kernel) ?_
              refine T_if1 (by decide +kernel) ?_
              refine T_leq (fun x78 e79 => ?_)
              have u80 := CI_b c67 (k := 191) (j := 16) bd_191_16
              exact T_ret ⟨c67, f69, (Or.inr o72), ⟨x78, rfl, by omega, by omega⟩⟩
            · exact T_ret ⟨c46, f48, (Or.inl (by omega)), ⟨(-1), rfl, by omega, by omega⟩⟩
          · refine T_if1 (by decide +kernel) ?_
            refine T_let 48 (by decide +kernel) ?_
            refine T_of (fX2_place_J32.eq_1 ..) ?_
            refine T_rR ?_
            refine T_if1 (by decide) ?_
            refine T_if1 (by decide +kernel) ?_
            refine T_useN (sf_X9_copyFrom_6_48 hfu s24 c25) (fun v86 s81 hq => ?_)
            obtain ⟨c82, f83, rfl⟩ := hq
            refine T_vN ?_
            have f84 := z_Fr.tr (R := R_X11_undo_1) f26 f83 rs_X9_copyFrom_6_48__X11_undo_1
            have t89 : s81 33 1 = s24 33 1 := f83 33 1 (by decide)
            have t90 : s81 33 2 = s24 33 2 := f83 33 2 (by decide)
            have t91 : s81 191 16 = s24 191 16 := f83 191 16 (by decide)
            refine T_if1 (by unfold z_bl; omega) ?_
            refine T_rI ?_
            refine T_ite (fun h92 => ?_) (fun h92 => ?_)
            · refine T_if1 ⟨(by decide +kernel), by unfold z_bl; omega⟩ ?_
              refine T_upg c82 bd_1_16 (by omega) (fun s93 c94 g96 g97 e98 => ?_)
              have f95 := z_Fr.upf (R := R_X11_undo_1) f84 g96 g97 (Or.inr (Or.inr (Or.inr (Or.inr (Or.inr (Or.inr (Or.inr (Or.inr (Or.inr (Or.inl (⟨rfl, by decide⟩)))))))))))
              have t99 : s93 33 1 = s81 33 1 := g96 33 1 (by decide)
              have t100 : s93 33 2 = s81 33 2 := g96 33 2 (by decide)
              have t101 : s93 191 16 = s81 191 16 := g96 191 16 (by decide)
              refine T_if1 (by decide +kernel) ?_
              refine T_useN (sf_X11_refresh_1 hfu s93 c94 (Or.inl (by omega))) (fun v107 s102 hq => ?_)
              obtain ⟨c103, f104, o108, rfl⟩ := hq
              refine T_vN ?_
              have f105 := z_Fr.tr (R := R_X11_undo_1) f95 f104 rs_X11_refresh_1__X11_undo_1
              have t111 : s102 33 1 = s93 33 1 := f104 33 1 (by decide)
              have t112 : s102 33 2 = s93 33 2 := f104 33 2 (by decide)
              have u113 := CI_b c103 (k := 191) (j := 16) bd_191_16
              refine T_if1 (by decide +kernel) ?_
              refine T_let 191 (by decide +kernel) ?_
              refine T_if1 (by decide +kernel) ?_
              refine T_leq (fun x114 e115 => ?_)
              have u116 := CI_b c103 (k := 191) (j := 16) bd_191_16
              exact T_ret ⟨c103, f105, (Or.inr o108), ⟨x114, rfl, by omega, by omega⟩⟩
            · exact T_ret ⟨c82, f84, (Or.inl (by omega)), ⟨(-1), rfl, by omega, by omega⟩⟩
          · refine T_if1 (by decide +kernel) ?_
            refine T_let 61 (by decide +kernel) ?_
            refine T_of (fX2_place_J32.eq_1 ..) ?_
            refine T_rR ?_
            refine T_if1 (by decide) ?_
            refine T_if1 (by decide +kernel) ?_
            refine T_useN (sf_X9_copyFrom_6_61 hfu s24 c25) (fun v122 s117 hq => ?_)
            obtain ⟨c118, f119, rfl⟩ := hq
            refine T_vN ?_
            have f120 := z_Fr.tr (R := R_X11_undo_1) f26 f119 rs_X9_copyFrom_6_61__X11_undo_1
            have t125 : s117 33 1 = s24 33 1 := f119 33 1 (by decide)
            have t126 : s117 33 2 = s24 33 2 := f119 33 2 (by decide)
            have t127 : s117 191 16 = s24 191 16 := f119 191 16 (by decide)
            refine T_if1 (by unfold z_bl; omega) ?_
            refine T_rI ?_
            refine T_ite (fun h128 => ?_) (fun h128 => ?_)
            · refine T_if1 ⟨(by decide +kernel), by unfold z_bl; omega⟩ ?_
              refine T_upg c118 bd_1_16 (by omega) (fun s129 c130 g132 g133 e134 => ?_)
              have f131 := z_Fr.upf (R := R_X11_undo_1) f120 g132 g133 (Or.inr (Or.inr (Or.inr (Or.inr (Or.inr (Or.inr (Or.inr (Or.inr (Or.inr (Or.inl (⟨rfl, by decide⟩)))))))))))
              have t135 : s129 33 1 = s117 33 1 := g132 33 1 (by decide)
              have t136 : s129 33 2 = s117 33 2 := g132 33 2 (by decide)
              have t137 : s129 191 16 = s117 191 16 := g132 191 16 (by decide)
              refine T_if1 (by decide +kernel) ?_
              refine T_useN (sf_X11_refresh_1 hfu s129 c130 (Or.inl (by omega))) (fun v143 s138 hq => ?_)
              obtain ⟨c139, f140, o144, rfl⟩ := hq
              refine T_vN ?_
              have f141 := z_Fr.tr (R := R_X11_undo_1) f131 f140 rs_X11_refresh_1__X11_undo_1
              have t147 : s138 33 1 = s129 33 1 := f140 33 1 (by decide)
              have t148 : s138 33 2 = s129 33 2 := f140 33 2 (by decide)
              have u149 := CI_b c139 (k := 191) (j := 16) bd_191_16
              refine T_if1 (by decide +kernel) ?_
              refine T_let 191 (by decide +kernel) ?_
              refine T_if1 (by decide +kernel) ?_
              refine T_leq (fun x150 e151 => ?_)
              have u152 := CI_b c139 (k := 191) (j := 16) bd_191_16
              exact T_ret ⟨c139, f141, (Or.inr o144), ⟨x150, rfl, by omega, by omega⟩⟩
            · exact T_ret ⟨c118, f120, (Or.inl (by omega)), ⟨(-1), rfl, by omega, by omega⟩⟩
          · refine T_if1 (by decide +kernel) ?_
            refine T_let 74 (by decide +kernel) ?_
            refine T_of (fX2_place_J32.eq_1 ..) ?_
            refine T_rR ?_
            refine T_if1 (by decide) ?_
            refine T_if1 (by decide +kernel) ?_
            refine T_useN (sf_X9_copyFrom_6_74 hfu s24 c25) (fun v158 s153 hq => ?_)
            obtain ⟨c154, f155, rfl⟩ := hq
            refine T_vN ?_
            have f156 := z_Fr.tr (R := R_X11_undo_1) f26 f155 rs_X9_copyFrom_6_74__X11_undo_1
            have t161 : s153 33 1 = s24 33 1 := f155 33 1 (by decide)
            have t162 : s153 33 2 = s24 33 2 := f155 33 2 (by decide)
            have t163 : s153 191 16 = s24 191 16 := f155 191 16 (by decide)
            refine T_if1 (by unfold z_bl; omega) ?_
            refine T_rI ?_
            refine T_ite (fun h164 => ?_) (fun h164 => ?_)
            · refine T_if1 ⟨(by decide +kernel), by unfold z_bl; omega⟩ ?_
              refine T_upg c154 bd_1_16 (by omega) (fun s165 c166 g168 g169 e170 => ?_)
              have f167 := z_Fr.upf (R := R_X11_undo_1) f156 g168 g169 (Or.inr (Or.inr (Or.inr (Or.inr (Or.inr (Or.inr (Or.inr (Or.inr (Or.inr (Or.inl (⟨rfl, by decide⟩)))))))))))
              have t171 : s165 33 1 = s153 33 1 := g168 33 1 (by decide)
              have t172 : s165 33 2 = s153 33 2 := g168 33 2 (by decide)
              have t173 : s165 191 16 = s153 191 16 := g168 191 16 (by decide)
              refine T_if1 (by decide +kernel) ?_
              refine T_useN (sf_X11_refresh_1 hfu s165 c166 (Or.inl (by omega))) (fun v179 s174 hq => ?_)
              obtain ⟨c175, f176, o180, rfl⟩ := hq
              refine T_vN ?_
              have f177 := z_Fr.tr (R := R_X11_undo_1) f167 f176 rs_X11_refresh_1__X11_undo_1
              have t183 : s174 33 1 = s165 33 1 := f176 33 1 (by decide)
              have t184 : s174 33 2 = s165 33 2 := f176 33 2 (by decide)
              have u185 := CI_b c175 (k := 191) (j := 16) bd_191_16
              refine T_if1 (by decide +kernel) ?_
              refine T_let 191 (by decide +kernel) ?_
              refine T_if1 (by decide +kernel) ?_
              refine T_leq (fun x186 e187 => ?_)
              have u188 := CI_b c175 (k := 191) (j := 16) bd_191_16
              exact T_ret ⟨c175, f177, (Or.inr o180), ⟨x186, rfl, by omega, by omega⟩⟩
            · exact T_ret ⟨c154, f156, (Or.inl (by omega)), ⟨(-1), rfl, by omega, by omega⟩⟩
          · refine T_if1 (by decide +kernel) ?_
            refine T_let 87 (by decide +kernel) ?_
            refine T_of (fX2_place_J32.eq_1 ..) ?_
            refine T_rR ?_
            refine T_if1 (by decide) ?_
            refine T_if1 (by decide +kernel) ?_
            refine T_useN (sf_X9_copyFrom_6_87 hfu s24 c25) (fun v194 s189 hq => ?_)
            obtain ⟨c190, f191, rfl⟩ := hq
            refine T_vN ?_
            have f192 := z_Fr.tr (R := R_X11_undo_1) f26 f191 rs_X9_copyFrom_6_87__X11_undo_1
            have t197 : s189 33 1 = s24 33 1 := f191 33 1 (by decide)
            have t198 : s189 33 2 = s24 33 2 := f191 33 2 (by decide)
            have t199 : s189 191 16 = s24 191 16 := f191 191 16 (by decide)
            refine T_if1 (by unfold z_bl; omega) ?_
            refine T_rI ?_
            refine T_ite (fun h200 => ?_) (fun h200 => ?_)
            · refine T_if1 ⟨(by decide +kernel), by unfold z_bl; omega⟩ ?_
              refine T_upg c190 bd_1_16 (by omega) (fun s201 c202 g204 g205 e206 => ?_)
              have f203 := z_Fr.upf (R := R_X11_undo_1) f192 g204 g205 (Or.inr (Or.inr (Or.inr (Or.inr (Or.inr (Or.inr (Or.inr (Or.inr (Or.inr (Or.inl (⟨rfl, by decide⟩)))))))))))
              have t207 : s201 33 1 = s189 33 1 := g204 33 1 (by decide)
              have t208 : s201 33 2 = s189 33 2 := g204 33 2 (by decide)
              have t209 : s201 191 16 = s189 191 16 := g204 191 16 (by decide)
              refine T_if1 (by decide +kernel) ?_
              refine T_useN (sf_X11_refresh_1 hfu s201 c202 (Or.inl (by omega))) (fun v215 s210 hq => ?_)
              obtain ⟨c211, f212, o216, rfl⟩ := hq
              refine T_vN ?_
              have f213 := z_Fr.tr (R := R_X11_undo_1) f203 f212 rs_X11_refresh_1__X11_undo_1
              have t219 : s210 33 1 = s201 33 1 := f212 33 1 (by decide)
              have t220 : s210 33 2 = s201 33 2 := f212 33 2 (by decide)
              have u221 := CI_b c211 (k := 191) (j := 16) bd_191_16
              refine T_if1 (by decide +kernel) ?_
              refine T_let 191 (by decide +kernel) ?_
              refine T_if1 (by decide +kernel) ?_
              refine T_leq (fun x222 e223 => ?_)
              have u224 := CI_b c211 (k := 191) (j := 16) bd_191_16
              exact T_ret ⟨c211, f213, (Or.inr o216), ⟨x222, rfl, by omega, by omega⟩⟩
            · exact T_ret ⟨c190, f192, (Or.inl (by omega)), ⟨(-1), rfl, by omega, by omega⟩⟩
          · refine T_if1 (by decide +kernel) ?_
            refine T_let 100 (by decide +kernel) ?_
            refine T_of (fX2_place_J32.eq_1 ..) ?_
            refine T_rR ?_
            refine T_if1 (by decide) ?_
            refine T_if1 (by decide +kernel) ?_
            refine T_useN (sf_X9_copyFrom_6_100 hfu s24 c25) (fun v230 s225 hq => ?_)
            obtain ⟨c226, f227, rfl⟩ := hq
            refine T_vN ?_
            have f228 := z_Fr.tr (R := R_X11_undo_1) f26 f227 rs_X9_copyFrom_6_100__X11_undo_1
            have t233 : s225 33 1 = s24 33 1 := f227 33 1 (by decide)
            have t234 : s225 33 2 = s24 33 2 := f227 33 2 (by decide)
            have t235 : s225 191 16 = s24 191 16 := f227 191 16 (by decide)
            refine T_if1 (by unfold z_bl; omega) ?_
            refine T_rI ?_
            refine T_ite (fun h236 => ?_) (fun h236 => ?_)
            · refine T_if1 ⟨(by decide +kernel), by unfold z_bl; omega⟩ ?_
              refine T_upg c226 bd_1_16 (by omega) (fun s237 c238 g240 g241 e242 => ?_)
              have f239 := z_Fr.upf (R := R_X11_undo_1) f228 g240 g241 (Or.inr (Or.inr (Or.inr (Or.inr (Or.inr (Or.inr (Or.inr (Or.inr (Or.inr (Or.inl (⟨rfl, by decide⟩)))))))))))
              have t243 : s237 33 1 = s225 33 1 := g240 33 1 (by decide)
              have t244 : s237 33 2 = s225 33 2 := g240 33 2 (by decide)
              have t245 : s237 191 16 = s225 191 16 := g240 191 16 (by decide)
              refine T_if1 (by decide +kernel) ?_
              refine T_useN (sf_X11_refresh_1 hfu s237 c238 (Or.inl (by omega))) (fun v251 s246 hq => ?_)
              obtain ⟨c247, f248, o252, rfl⟩ := hq
              refine T_vN ?_
              have f249 := z_Fr.tr (R := R_X11_undo_1) f239 f248 rs_X11_refresh_1__X11_undo_1
              have t255 : s246 33 1 = s237 33 1 := f248 33 1 (by decide)
              have t256 : s246 33 2 = s237 33 2 := f248 33 2 (by decide)
              have u257 := CI_b c247 (k := 191) (j := 16) bd_191_16
              refine T_if1 (by decide +kernel) ?_
              refine T_let 191 (by decide +kernel) ?_
              refine T_if1 (by decide +kernel) ?_
              refine T_leq (fun x258 e259 => ?_)
              have u260 := CI_b c247 (k := 191) (j := 16) bd_191_16
              exact T_ret ⟨c247, f249, (Or.inr o252), ⟨x258, rfl, by omega, by omega⟩⟩
            · exact T_ret ⟨c226, f228, (Or.inl (by omega)), ⟨(-1), rfl, by omega, by omega⟩⟩
          · refine T_if1 (by decide +kernel) ?_
            refine T_let 113 (by decide +kernel) ?_
            refine T_of (fX2_place_J32.eq_1 ..) ?_
            refine T_rR ?_
            refine T_if1 (by decide) ?_
            refine T_if1 (by decide +kernel) ?_
            refine T_useN (sf_X9_copyFrom_6_113 hfu s24 c25) (fun v266 s261 hq => ?_)
            obtain ⟨c262, f263, rfl⟩ := hq
            refine T_vN ?_
            have f264 := z_Fr.tr (R := R_X11_undo_1) f26 f263 rs_X9_copyFrom_6_113__X11_undo_1
            have t269 : s261 33 1 = s24 33 1 := f263 33 1 (by decide)
            have t270 : s261 33 2 = s24 33 2 := f263 33 2 (by decide)
            have t271 : s261 191 16 = s24 191 16 := f263 191 16 (by decide)
            refine T_if1 (by unfold z_bl; omega) ?_
            refine T_rI ?_
            refine T_ite (fun h272 => ?_) (fun h272 => ?_)
            · refine T_if1 ⟨(by decide +kernel), by unfold z_bl; omega⟩ ?_
              refine T_upg c262 bd_1_16 (by omega) (fun s273 c274 g276 g277 e278 => ?_)
              have f275 := z_Fr.upf (R := R_X11_undo_1) f264 g276 g277 (Or.inr (Or.inr (Or.inr (Or.inr (Or.inr (Or.inr (Or.inr (Or.inr (Or.inr (Or.inl (⟨rfl, by decide⟩)))))))))))
              have t279 : s273 33 1 = s261 33 1 := g276 33 1 (by decide)
              have t280 : s273 33 2 = s261 33 2 := g276 33 2 (by decide)
              have t281 : s273 191 16 = s261 191 16 := g276 191 16 (by decide)
              refine T_if1 (by decide +kernel) ?_
              refine T_useN (sf_X11_refresh_1 hfu s273 c274 (Or.inl (by omega))) (fun v287 s282 hq => ?_)
              obtain ⟨c283, f284, o288, rfl⟩ := hq
              refine T_vN ?_
              have f285 := z_Fr.tr (R := R_X11_undo_1) f275 f284 rs_X11_refresh_1__X11_undo_1
              have t291 : s282 33 1 = s273 33 1 := f284 33 1 (by decide)
              have t292 : s282 33 2 = s273 33 2 := f284 33 2 (by decide)
              have u293 := CI_b c283 (k := 191) (j := 16) bd_191_16
              refine T_if1 (by decide +kernel) ?_
              refine T_let 191 (by decide +kernel) ?_
              refine T_if1 (by decide +kernel) ?_
              refine T_leq (fun x294 e295 => ?_)
              have u296 := CI_b c283 (k := 191) (j := 16) bd_191_16
              exact T_ret ⟨c283, f285, (Or.inr o288), ⟨x294, rfl, by omega, by omega⟩⟩
            · exact T_ret ⟨c262, f264, (Or.inl (by omega)), ⟨(-1), rfl, by omega, by omega⟩⟩
          · refine T_if1 (by decide +kernel) ?_
            refine T_let 126 (by decide +kernel) ?_
            refine T_of (fX2_place_J32.eq_1 ..) ?_
            refine T_rR ?_
            refine T_if1 (by decide) ?_
            refine T_if1 (by decide +kernel) ?_
            refine T_useN (sf_X9_copyFrom_6_126 hfu s24 c25) (fun v302 s297 hq => ?_)
            obtain ⟨c298, f299, rfl⟩ := hq
            refine T_vN ?_
            have f300 := z_Fr.tr (R := R_X11_undo_1) f26 f299 rs_X9_copyFrom_6_126__X11_undo_1
            have t305 : s297 33 1 = s24 33 1 := f299 33 1 (by decide)
            have t306 : s297 33 2 = s24 33 2 := f299 33 2 (by decide)
            have t307 : s297 191 16 = s24 191 16 := f299 191 16 (by decide)
            refine T_if1 (by unfold z_bl; omega) ?_
            refine T_rI ?_
            refine T_ite (fun h308 => ?_) (fun h308 => ?_)
            · refine T_if1 ⟨(by decide +kernel), by unfold z_bl; omega⟩ ?_
              refine T_upg c298 bd_1_16 (by omega) (fun s309 c310 g312 g313 e314 => ?_)
              have f311 := z_Fr.upf (R := R_X11_undo_1) f300 g312 g313 (Or.inr (Or.inr (Or.inr (Or.inr (Or.inr (Or.inr (Or.inr (Or.inr (Or.inr (Or.inl (⟨rfl, by decide⟩)))))))))))
              have t315 : s309 33 1 = s297 33 1 := g312 33 1 (by decide)
              have t316 : s309 33 2 = s297 33 2 := g312 33 2 (by decide)
              have t317 : s309 191 16 = s297 191 16 := g312 191 16 (by decide)
              refine T_if1 (by decide +kernel) ?_
              refine T_useN (sf_X11_refresh_1 hfu s309 c310 (Or.inl (by omega))) (fun v323 s318 hq => ?_)
              obtain ⟨c319, f320, o324, rfl⟩ := hq
              refine T_vN ?_
              have f321 := z_Fr.tr (R := R_X11_undo_1) f311 f320 rs_X11_refresh_1__X11_undo_1
              have t327 : s318 33 1 = s309 33 1 := f320 33 1 (by decide)
              have t328 : s318 33 2 = s309 33 2 := f320 33 2 (by decide)
              have u329 := CI_b c319 (k := 191) (j := 16) bd_191_16
              refine T_if1 (by decide +kernel) ?_
              refine T_let 191 (by decide +kernel) ?_
              refine T_if1 (by decide +kernel) ?_
              refine T_leq (fun x330 e331 => ?_)
              have u332 := CI_b c319 (k := 191) (j := 16) bd_191_16
              exact T_ret ⟨c319, f321, (Or.inr o324), ⟨x330, rfl, by omega, by omega⟩⟩
            · exact T_ret ⟨c298, f300, (Or.inl (by omega)), ⟨(-1), rfl, by omega, by omega⟩⟩
          · refine T_if1 (by decide +kernel) ?_
            refine T_let 139 (by decide +kernel) ?_
            refine T_of (fX2_place_J32.eq_1 ..) ?_
            refine T_rR ?_
            refine T_if1 (by decide) ?_
            refine T_if1 (by decide +kernel) ?_
            refine T_useN (sf_X9_copyFrom_6_139 hfu s24 c25) (fun v338 s333 hq => ?_)
            obtain ⟨c334, f335, rfl⟩ := hq
            refine T_vN ?_
            have f336 := z_Fr.tr (R := R_X11_undo_1) f26 f335 rs_X9_copyFrom_6_139__X11_undo_1
            have t341 : s333 33 1 = s24 33 1 := f335 33 1 (by decide)
            have t342 : s333 33 2 = s24 33 2 := f335 33 2 (by decide)
            have t343 : s333 191 16 = s24 191 16 := f335 191 16 (by decide)
            refine T_if1 (by unfold z_bl; omega) ?_
            refine T_rI ?_
            refine T_ite (fun h344 => ?_) (fun h344 => ?_)
            · refine T_if1 ⟨(by decide +kernel), by unfold z_bl; omega⟩ ?_
              refine T_upg c334 bd_1_16 (by omega) (fun s345 c346 g348 g349 e350 => ?_)
              have f347 := z_Fr.upf (R := R_X11_undo_1) f336 g348 g349 (Or.inr (Or.inr (Or.inr (Or.inr (Or.inr (Or.inr (Or.inr (Or.inr (Or.inr (Or.inl (⟨rfl, by decide⟩)))))))))))
              have t351 : s345 33 1 = s333 33 1 := g348 33 1 (by decide)
              have t352 : s345 33 2 = s333 33 2 := g348 33 2 (by decide)
              have t353 : s345 191 16 = s333 191 16 := g348 191 16 (by decide)
              refine T_if1 (by decide +kernel) ?_
              refine T_useN (sf_X11_refresh_1 hfu s345 c346 (Or.inl (by omega))) (fun v359 s354 hq => ?_)
              obtain ⟨c355, f356, o360, rfl⟩ := hq
              refine T_vN ?_
              have f357 := z_Fr.tr (R := R_X11_undo_1) f347 f356 rs_X11_refresh_1__X11_undo_1
              have t363 : s354 33 1 = s345 33 1 := f356 33 1 (by decide)
              have t364 : s354 33 2 = s345 33 2 := f356 33 2 (by decide)
              have u365 := CI_b c355 (k := 191) (j := 16) bd_191_16
              refine T_if1 (by decide +kernel) ?_
              refine T_let 191 (by decide +kernel) ?_
              refine T_if1 (by decide +kernel) ?_
              refine T_leq (fun x366 e367 => ?_)
              have u368 := CI_b c355 (k := 191) (j := 16) bd_191_16
              exact T_ret ⟨c355, f357, (Or.inr o360), ⟨x366, rfl, by omega, by omega⟩⟩
            · exact T_ret ⟨c334, f336, (Or.inl (by omega)), ⟨(-1), rfl, by omega, by omega⟩⟩
          · refine T_if1 (by decide +kernel) ?_
            refine T_let 152 (by decide +kernel) ?_
            refine T_of (fX2_place_J32.eq_1 ..) ?_
            refine T_rR ?_
            refine T_if1 (by decide) ?_
            refine T_if1 (by decide +kernel) ?_
            refine T_useN (sf_X9_copyFrom_6_152 hfu s24 c25) (fun v374 s369 hq => ?_)
            obtain ⟨c370, f371, rfl⟩ := hq
            refine T_vN ?_
            have f372 := z_Fr.tr (R := R_X11_undo_1) f26 f371 rs_X9_copyFrom_6_152__X11_undo_1
            have t377 : s369 33 1 = s24 33 1 := f371 33 1 (by decide)
            have t378 : s369 33 2 = s24 33 2 := f371 33 2 (by decide)
            have t379 : s369 191 16 = s24 191 16 := f371 191 16 (by decide)
            refine T_if1 (by unfold z_bl; omega) ?_
            refine T_rI ?_
            refine T_ite (fun h380 => ?_) (fun h380 => ?_)
            · refine T_if1 ⟨(by decide +kernel), by unfold z_bl; omega⟩ ?_
              refine T_upg c370 bd_1_16 (by omega) (fun s381 c382 g384 g385 e386 => ?_)
              have f383 := z_Fr.upf (R := R_X11_undo_1) f372 g384 g385 (Or.inr (Or.inr (Or.inr (Or.inr (Or.inr (Or.inr (Or.inr (Or.inr (Or.inr (Or.inl (⟨rfl, by decide⟩)))))))))))
              have t387 : s381 33 1 = s369 33 1 := g384 33 1 (by decide)
              have t388 : s381 33 2 = s369 33 2 := g384 33 2 (by decide)
              have t389 : s381 191 16 = s369 191 16 := g384 191 16 (by decide)
              refine T_if1 (by decide +kernel) ?_
              refine T_useN (sf_X11_refresh_1 hfu s381 c382 (Or.inl (by omega))) (fun v395 s390 hq => ?_)
              obtain ⟨c391, f392, o396, rfl⟩ := hq
              refine T_vN ?_
              have f393 := z_Fr.tr (R := R_X11_undo_1) f383 f392 rs_X11_refresh_1__X11_undo_1
              have t399 : s390 33 1 = s381 33 1 := f392 33 1 (by decide)
              have t400 : s390 33 2 = s381 33 2 := f392 33 2 (by decide)
              have u401 := CI_b c391 (k := 191) (j := 16) bd_191_16
              refine T_if1 (by decide +kernel) ?_
              refine T_let 191 (by decide +kernel) ?_
              refine T_if1 (by decide +kernel) ?_
              refine T_leq (fun x402 e403 => ?_)
              have u404 := CI_b c391 (k := 191) (j := 16) bd_191_16
              exact T_ret ⟨c391, f393, (Or.inr o396), ⟨x402, rfl, by omega, by omega⟩⟩
            · exact T_ret ⟨c370, f372, (Or.inl (by omega)), ⟨(-1), rfl, by omega, by omega⟩⟩
          · refine T_if1 (by decide +kernel) ?_
            refine T_let 165 (by decide +kernel) ?_
            refine T_of (fX2_place_J32.eq_1 ..) ?_
            refine T_rR ?_
            refine T_if1 (by decide) ?_
            refine T_if1 (by decide +kernel) ?_
            refine T_useN (sf_X9_copyFrom_6_165 hfu s24 c25) (fun v410 s405 hq => ?_)
            obtain ⟨c406, f407, rfl⟩ := hq
            refine T_vN ?_
            have f408 := z_Fr.tr (R := R_X11_undo_1) f26 f407 rs_X9_copyFrom_6_165__X11_undo_1
            have t413 : s405 33 1 = s24 33 1 := f407 33 1 (by decide)
            have t414 : s405 33 2 = s24 33 2 := f407 33 2 (by decide)
            have t415 : s405 191 16 = s24 191 16 := f407 191 16 (by decide)
            refine T_if1 (by unfold z_bl; omega) ?_
            refine T_rI ?_
            refine T_ite (fun h416 => ?_) (fun h416 => ?_)
            · refine T_if1 ⟨(by decide +kernel), by unfold z_bl; omega⟩ ?_
              refine T_upg c406 bd_1_16 (by omega) (fun s417 c418 g420 g421 e422 => ?_)
              have f419 := z_Fr.upf (R := R_X11_undo_1) f408 g420 g421 (Or.inr (Or.inr (Or.inr (Or.inr (Or.inr (Or.inr (Or.inr (Or.inr (Or.inr (Or.inl (⟨rfl, by decide⟩)))))))))))
              have t423 : s417 33 1 = s405 33 1 := g420 33 1 (by decide)
              have t424 : s417 33 2 = s405 33 2 := g420 33 2 (by decide)
              have t425 : s417 191 16 = s405 191 16 := g420 191 16 (by decide)
              refine T_if1 (by decide +kernel) ?_
              refine T_useN (sf_X11_refresh_1 hfu s417 c418 (Or.inl (by omega))) (fun v431 s426 hq => ?_)
              obtain ⟨c427, f428, o432, rfl⟩ := hq
              refine T_vN ?_
              have f429 := z_Fr.tr (R := R_X11_undo_1) f419 f428 rs_X11_refresh_1__X11_undo_1
              have t435 : s426 33 1 = s417 33 1 := f428 33 1 (by decide)
              have t436 : s426 33 2 = s417 33 2 := f428 33 2 (by decide)
              have u437 := CI_b c427 (k := 191) (j := 16) bd_191_16
              refine T_if1 (by decide +kernel) ?_
              refine T_let 191 (by decide +kernel) ?_
              refine T_if1 (by decide +kernel) ?_
              refine T_leq (fun x438 e439 => ?_)
              have u440 := CI_b c427 (k := 191) (j := 16) bd_191_16
              exact T_ret ⟨c427, f429, (Or.inr o432), ⟨x438, rfl, by omega, by omega⟩⟩
            · exact T_ret ⟨c406, f408, (Or.inl (by omega)), ⟨(-1), rfl, by omega, by omega⟩⟩
          · refine T_if1 (by decide +kernel) ?_
            refine T_let 178 (by decide +kernel) ?_
            refine T_of (fX2_place_J32.eq_1 ..) ?_
            refine T_rR ?_
            refine T_if1 (by decide) ?_
            refine T_if1 (by decide +kernel) ?_
            refine T_useN (sf_X9_copyFrom_6_178 hfu s24 c25) (fun v446 s441 hq => ?_)
            obtain ⟨c442, f443, rfl⟩ := hq
            refine T_vN ?_
            have f444 := z_Fr.tr (R := R_X11_undo_1) f26 f443 rs_X9_copyFrom_6_178__X11_undo_1
            have t449 : s441 33 1 = s24 33 1 := f443 33 1 (by decide)
            have t450 : s441 33 2 = s24 33 2 := f443 33 2 (by decide)
            have t451 : s441 191 16 = s24 191 16 := f443 191 16 (by decide)
            refine T_if1 (by unfold z_bl; omega) ?_
            refine T_rI ?_
            refine T_ite (fun h452 => ?_) (fun h452 => ?_)
            · refine T_if1 ⟨(by decide +kernel), by unfold z_bl; omega⟩ ?_
              refine T_upg c442 bd_1_16 (by omega) (fun s453 c454 g456 g457 e458 => ?_)
              have f455 := z_Fr.upf (R := R_X11_undo_1) f444 g456 g457 (Or.inr (Or.inr (Or.inr (Or.inr (Or.inr (Or.inr (Or.inr (Or.inr (Or.inr (Or.inl (⟨rfl, by decide⟩)))))))))))
              have t459 : s453 33 1 = s441 33 1 := g456 33 1 (by decide)
              have t460 : s453 33 2 = s441 33 2 := g456 33 2 (by decide)
              have t461 : s453 191 16 = s441 191 16 := g456 191 16 (by decide)
              refine T_if1 (by decide +kernel) ?_
              refine T_useN (sf_X11_refresh_1 hfu s453 c454 (Or.inl (by omega))) (fun v467 s462 hq => ?_)
              obtain ⟨c463, f464, o468, rfl⟩ := hq
              refine T_vN ?_
              have f465 := z_Fr.tr (R := R_X11_undo_1) f455 f464 rs_X11_refresh_1__X11_undo_1
              have t471 : s462 33 1 = s453 33 1 := f464 33 1 (by decide)
              have t472 : s462 33 2 = s453 33 2 := f464 33 2 (by decide)
              have u473 := CI_b c463 (k := 191) (j := 16) bd_191_16
              refine T_if1 (by decide +kernel) ?_
              refine T_let 191 (by decide +kernel) ?_
              refine T_if1 (by decide +kernel) ?_
              refine T_leq (fun x474 e475 => ?_)
              have u476 := CI_b c463 (k := 191) (j := 16) bd_191_16
              exact T_ret ⟨c463, f465, (Or.inr o468), ⟨x474, rfl, by omega, by omega⟩⟩
            · exact T_ret ⟨c442, f444, (Or.inl (by omega)), ⟨(-1), rfl, by omega, by omega⟩⟩
    · refine T_if1 (by decide +kernel) ?_
      refine T_leq (fun x477 e478 => ?_)
      have u479 := CI_b c12 (k := 33) (j := 1) bd_33_1
      refine T_leq (fun x480 e481 => ?_)
      have w482 := z_wb e481
      refine T_of (fX2_takeBack_J38.eq_1 ..) ?_
      refine T_if1 (by decide +kernel) ?_
      refine T_upg c12 bd_33_1 (by omega) (fun s483 c484 g486 g487 e488 => ?_)
      have f485 := z_Fr.upf (R := R_X11_undo_1) f13 g486 g487 (Or.inr (Or.inl (⟨by decide, by decide⟩)))
      have t489 : s483 33 2 = s11 33 2 := g487 2 (by decide)
      have t490 : s483 191 16 = s11 191 16 := g486 191 16 (by decide)
      have r491 := z_V16.fr r19 (g486 1 16 (by decide)) (g486 191 16 (by decide)) (g486 6 6 (by decide)) (fun b => g486 195 b (by decide)) (fun b => g486 197 b (by decide))
      refine T_if1 (by decide +kernel) ?_
      refine T_bR ?_
      refine T_of (fX2_place.eq_1 ..) ?_
      refine T_if1 (by decide +kernel) ?_
      refine T_leq (fun x492 e493 => ?_)
      have u494 := CI_b c484 (k := 33) (j := 1) bd_33_1
      refine T_ite (fun h495 => ?_) (fun h495 => ?_)
      · refine T_of (fX2_place_J31.eq_1 ..) ?_
        exfalso
        omega
      · refine T_if1 (by decide +kernel) ?_
        refine T_leq (fun x496 e497 => ?_)
        have u498 := CI_b c484 (k := 33) (j := 1) bd_33_1
        refine T_if1 (by decide +kernel) ?_
        refine T_let 34 (by decide +kernel) ?_
        refine T_if1 (by decide +kernel) ?_
        refine T_let 12 (by decide +kernel) ?_
        refine T_ite (fun h499 => ?_) (fun h499 => ?_)
        · refine T_of (fX2_place_J31.eq_1 ..) ?_
          exfalso
          omega
        · refine T_if1 (by decide +kernel) ?_
          refine T_let 34 (by decide +kernel) ?_
          refine T_if1 (by decide +kernel) ?_
          refine T_leq (fun x500 e501 => ?_)
          have u502 := CI_b c484 (k := 33) (j := 1) bd_33_1
          rcases (show x500 = 0 ∨ x500 = 1 ∨ x500 = 2 ∨ x500 = 3 ∨ x500 = 4 ∨ x500 = 5 ∨ x500 = 6 ∨ x500 = 7 ∨ x500 = 8 ∨ x500 = 9 ∨ x500 = 10 ∨ x500 = 11 by omega) with rfl | rfl | rfl | rfl | rfl | rfl | rfl | rfl | rfl | rfl | rfl | rfl
          · refine T_if1 (by decide +kernel) ?_
            refine T_let 35 (by decide +kernel) ?_
            refine T_of (fX2_place_J32.eq_1 ..) ?_
            refine T_rR ?_
            refine T_if1 (by decide) ?_
            refine T_if1 (by decide +kernel) ?_
            refine T_useN (sf_X9_copyFrom_6_35 hfu s483 c484) (fun v509 s504 hq => ?_)
            obtain ⟨c505, f506, rfl⟩ := hq
            refine T_vN ?_
            have f507 := z_Fr.tr (R := R_X11_undo_1) f485 f506 rs_X9_copyFrom_6_35__X11_undo_1
            have t512 : s504 33 1 = s483 33 1 := f506 33 1 (by decide)
            have t513 : s504 33 2 = s483 33 2 := f506 33 2 (by decide)
            have t514 : s504 191 16 = s483 191 16 := f506 191 16 (by decide)
            refine T_if1 (by unfold z_bl; omega) ?_
            refine T_rI ?_
            refine T_ite (fun h515 => ?_) (fun h515 => ?_)
            · refine T_if1 ⟨(by decide +kernel), by unfold z_bl; omega⟩ ?_
              refine T_upg c505 bd_1_16 (by omega) (fun s516 c517 g519 g520 e521 => ?_)
              have f518 := z_Fr.upf (R := R_X11_undo_1) f507 g519 g520 (Or.inr (Or.inr (Or.inr (Or.inr (Or.inr (Or.inr (Or.inr (Or.inr (Or.inr (Or.inl (⟨rfl, by decide⟩)))))))))))
              have t522 : s516 33 1 = s504 33 1 := g519 33 1 (by decide)
              have t523 : s516 33 2 = s504 33 2 := g519 33 2 (by decide)
              have t524 : s516 191 16 = s504 191 16 := g519 191 16 (by decide)
              refine T_if1 (by decide +kernel) ?_
              refine T_useN (sf_X11_refresh_1 hfu s516 c517 (Or.inl (by omega))) (fun v530 s525 hq => ?_)
              obtain ⟨c526, f527, o531, rfl⟩ := hq
              refine T_vN ?_
              have f528 := z_Fr.tr (R := R_X11_undo_1) f518 f527 rs_X11_refresh_1__X11_undo_1
              have t534 : s525 33 1 = s516 33 1 := f527 33 1 (by decide)
              have t535 : s525 33 2 = s516 33 2 := f527 33 2 (by decide)
              have u536 := CI_b c526 (k := 191) (j := 16) bd_191_16
              refine T_if1 (by decide +kernel) ?_
              refine T_let 191 (by decide +kernel) ?_
              refine T_if1 (by decide +kernel) ?_
              refine T_leq (fun x537 e538 => ?_)
              have u539 := CI_b c526 (k := 191) (j := 16) bd_191_16
              exact T_ret ⟨c526, f528, (Or.inr o531), ⟨x537, rfl, by omega, by omega⟩⟩
            · exact T_ret ⟨c505, f507, (Or.inl (by omega)), ⟨(-1), rfl, by omega, by omega⟩⟩
          · refine T_if1 (by decide +kernel) ?_
            refine T_let 48 (by decide +kernel) ?_
            refine T_of (fX2_place_J32.eq_1 ..) ?_
            refine T_rR ?_
            refine T_if1 (by decide) ?_
            refine T_if1 (by decide +kernel) ?_
            refine T_useN (sf_X9_copyFrom_6_48 hfu s483 c484) (fun v545 s540 hq => ?_)
            obtain ⟨c541, f542, rfl⟩ := hq
            refine T_vN ?_
            have f543 := z_Fr.tr (R := R_X11_undo_1) f485 f542 rs_X9_copyFrom_6_48__X11_undo_1
            have t548 : s540 33 1 = s483 33 1 := f542 33 1 (by decide)
            have t549 : s540 33 2 = s483 33 2 := f542 33 2 (by decide)
            have t550 : s540 191 16 = s483 191 16 := f542 191 16 (by decide)
            refine T_if1 (by unfold z_bl; omega) ?_
            refine T_rI ?_
            refine T_ite (fun h551 => ?_) (fun h551 => ?_)
            · refine T_if1 ⟨(by decide +kernel), by unfold z_bl; omega⟩ ?_
              refine T_upg c541 bd_1_16 (by omega) (fun s552 c553 g555 g556 e557 => ?_)
              have f554 := z_Fr.upf (R := R_X11_undo_1) f543 g555 g556 (Or.inr (Or.inr (Or.inr (Or.inr (Or.inr (Or.inr (Or.inr (Or.inr (Or.inr (Or.inl (⟨rfl, by decide⟩)))))))))))
              have t558 : s552 33 1 = s540 33 1 := g555 33 1 (by decide)
              have t559 : s552 33 2 = s540 33 2 := g555 33 2 (by decide)
              have t560 : s552 191 16 = s540 191 16 := g555 191 16 (by decide)
              refine T_if1 (by decide +kernel) ?_
              refine T_useN (sf_X11_refresh_1 hfu s552 c553 (Or.inl (by omega))) (fun v566 s561 hq => ?_)
              obtain ⟨c562, f563, o567, rfl⟩ := hq
              refine T_vN ?_
              have f564 := z_Fr.tr (R := R_X11_undo_1) f554 f563 rs_X11_refresh_1__X11_undo_1
              have t570 : s561 33 1 = s552 33 1 := f563 33 1 (by decide)
              have t571 : s561 33 2 = s552 33 2 := f563 33 2 (by decide)
              have u572 := CI_b c562 (k := 191) (j := 16) bd_191_16
              refine T_if1 (by decide +kernel) ?_
              refine T_let 191 (by decide +kernel) ?_
              refine T_if1 (by decide +kernel) ?_
              refine T_leq (fun x573 e574 => ?_)
              have u575 := CI_b c562 (k := 191) (j := 16) bd_191_16
              exact T_ret ⟨c562, f564, (Or.inr o567), ⟨x573, rfl, by omega, by omega⟩⟩
            · exact T_ret ⟨c541, f543, (Or.inl (by omega)), ⟨(-1), rfl, by omega, by omega⟩⟩
          · refine T_if1 (by decide +kernel) ?_
            refine T_let 61 (by decide +kernel) ?_
            refine T_of (fX2_place_J32.eq_1 ..) ?_
            refine T_rR ?_
            refine T_if1 (by decide) ?_
            refine T_if1 (by decide +kernel) ?_
            refine T_useN (sf_X9_copyFrom_6_61 hfu s483 c484) (fun v581 s576 hq => ?_)
            obtain ⟨c577, f578, rfl⟩ := hq
            refine T_vN ?_
            have f579 := z_Fr.tr (R := R_X11_undo_1) f485 f578 rs_X9_copyFrom_6_61__X11_undo_1
            have t584 : s576 33 1 = s483 33 1 := f578 33 1 (by decide)
            have t585 : s576 33 2 = s483 33 2 := f578 33 2 (by decide)
            have t586 : s576 191 16 = s483 191 16 := f578 191 16 (by decide)
            refine T_if1 (by unfold z_bl; omega) ?_
            refine T_rI ?_
            refine T_ite (fun h587 => ?_) (fun h587 => ?_)
            · refine T_if1 ⟨(by decide +kernel), by unfold z_bl; omega⟩ ?_
              refine T_upg c577 bd_1_16 (by omega) (fun s588 c589 g591 g592 e593 => ?_)
              have f590 := z_Fr.upf (R := R_X11_undo_1) f579 g591 g592 (Or.inr (Or.inr (Or.inr (Or.inr (Or.inr (Or.inr (Or.inr (Or.inr (Or.inr (Or.inl (⟨rfl, by decide⟩)))))))))))
              have t594 : s588 33 1 = s576 33 1 := g591 33 1 (by decide)
              have t595 : s588 33 2 = s576 33 2 := g591 33 2 (by decide)
              have t596 : s588 191 16 = s576 191 16 := g591 191 16 (by decide)
              refine T_if1 (by decide +kernel) ?_
              refine T_useN (sf_X11_refresh_1 hfu s588 c589 (Or.inl (by omega))) (fun v602 s597 hq => ?_)
              obtain ⟨c598, f599, o603, rfl⟩ := hq
              refine T_vN ?_
              have f600 := z_Fr.tr (R := R_X11_undo_1) f590 f599 rs_X11_refresh_1__X11_undo_1
              have t606 : s597 33 1 = s588 33 1 := f599 33 1 (by decide)
              have t607 : s597 33 2 = s588 33 2 := f599 33 2 (by decide)
              have u608 := CI_b c598 (k := 191) (j := 16) bd_191_16
              refine T_if1 (by decide +kernel) ?_
              refine T_let 191 (by decide +kernel) ?_
              refine T_if1 (by decide +kernel) ?_
              refine T_leq (fun x609 e610 => ?_)
              have u611 := CI_b c598 (k := 191) (j := 16) bd_191_16
              exact T_ret ⟨c598, f600, (Or.inr o603), ⟨x609, rfl, by omega, by omega⟩⟩
            · exact T_ret ⟨c577, f579, (Or.inl (by omega)), ⟨(-1), rfl, by omega, by omega⟩⟩
          · refine T_if1 (by decide +kernel) ?_
            refine T_let 74 (by decide +kernel) ?_
            refine T_of (fX2_place_J32.eq_1 ..) ?_
            refine T_rR ?_
            refine T_if1 (by decide) ?_
            refine T_if1 (by decide +kernel) ?_
            refine T_useN (sf_X9_copyFrom_6_74 hfu s483 c484) (fun v617 s612 hq => ?_)
            obtain ⟨c613, f614, rfl⟩ := hq
            refine T_vN ?_
            have f615 := z_Fr.tr (R := R_X11_undo_1) f485 f614 rs_X9_copyFrom_6_74__X11_undo_1
            have t620 : s612 33 1 = s483 33 1 := f614 33 1 (by decide)
            have t621 : s612 33 2 = s483 33 2 := f614 33 2 (by decide)
            have t622 : s612 191 16 = s483 191 16 := f614 191 16 (by decide)
            refine T_if1 (by unfold z_bl; omega) ?_
            refine T_rI ?_
            refine T_ite (fun h623 => ?_) (fun h623 => ?_)
            · refine T_if1 ⟨(by decide +kernel), by unfold z_bl; omega⟩ ?_
              refine T_upg c613 bd_1_16 (by omega) (fun s624 c625 g627 g628 e629 => ?_)
              have f626 := z_Fr.upf (R := R_X11_undo_1) f615 g627 g628 (Or.inr (Or.inr (Or.inr (Or.inr (Or.inr (Or.inr (Or.inr (Or.inr (Or.inr (Or.inl (⟨rfl, by decide⟩)))))))))))
              have t630 : s624 33 1 = s612 33 1 := g627 33 1 (by decide)
              have t631 : s624 33 2 = s612 33 2 := g627 33 2 (by decide)
              have t632 : s624 191 16 = s612 191 16 := g627 191 16 (by decide)
              refine T_if1 (by decide +kernel) ?_
              refine T_useN (sf_X11_refresh_1 hfu s624 c625 (Or.inl (by omega))) (fun v638 s633 hq => ?_)
              obtain ⟨c634, f635, o639, rfl⟩ := hq
              refine T_vN ?_
              have f636 := z_Fr.tr (R := R_X11_undo_1) f626 f635 rs_X11_refresh_1__X11_undo_1
              have t642 : s633 33 1 = s624 33 1 := f635 33 1 (by decide)
              have t643 : s633 33 2 = s624 33 2 := f635 33 2 (by decide)
              have u644 := CI_b c634 (k := 191) (j := 16) bd_191_16
              refine T_if1 (by decide +kernel) ?_
              refine T_let 191 (by decide +kernel) ?_
              refine T_if1 (by decide +kernel) ?_
              refine T_leq (fun x645 e646 => ?_)
              have u647 := CI_b c634 (k := 191) (j := 16) bd_191_16
              exact T_ret ⟨c634, f636, (Or.inr o639), ⟨x645, rfl, by omega, by omega⟩⟩
            · exact T_ret ⟨c613, f615, (Or.inl (by omega)), ⟨(-1), rfl, by omega, by omega⟩⟩
          · refine T_if1 (by decide +kernel) ?_
            refine T_let 87 (by decide +kernel) ?_
            refine T_of (fX2_place_J32.eq_1 ..) ?_
            refine T_rR ?_
            refine T_if1 (by decide) ?_
            refine T_if1 (by decide +kernel) ?_
            refine T_useN (sf_X9_copyFrom_6_87 hfu s483 c484) (fun v653 s648 hq => ?_)
            obtain ⟨c649, f650, rfl⟩ := hq
            refine T_vN ?_
            have f651 := z_Fr.tr (R := R_X11_undo_1) f485 f650 rs_X9_copyFrom_6_87__X11_undo_1
            have t656 : s648 33 1 = s483 33 1 := f650 33 1 (by decide)
            have t657 : s648 33 2 = s483 33 2 := f650 33 2 (by decide)
            have t658 : s648 191 16 = s483 191 16 := f650 191 16 (by decide)
            refine T_if1 (by unfold z_bl; omega) ?_
            refine T_rI ?_
            refine T_ite (fun h659 => ?_) (fun h659 => ?_)
            · refine T_if1 ⟨(by decide +kernel), by unfold z_bl; omega⟩ ?_
              refine T_upg c649 bd_1_16 (by omega) (fun s660 c661 g663 g664 e665 => ?_)
              have f662 := z_Fr.upf (R := R_X11_undo_1) f651 g663 g664 (Or.inr (Or.inr (Or.inr (Or.inr (Or.inr (Or.inr (Or.inr (Or.inr (Or.inr (Or.inl (⟨rfl, by decide⟩)))))))))))
              have t666 : s660 33 1 = s648 33 1 := g663 33 1 (by decide)
              have t667 : s660 33 2 = s648 33 2 := g663 33 2 (by decide)
              have t668 : s660 191 16 = s648 191 16 := g663 191 16 (by decide)
              refine T_if1 (by decide +kernel) ?_
              refine T_useN (sf_X11_refresh_1 hfu s660 c661 (Or.inl (by omega))) (fun v674 s669 hq => ?_)
              obtain ⟨c670, f671, o675, rfl⟩ := hq
              refine T_vN ?_
              have f672 := z_Fr.tr (R := R_X11_undo_1) f662 f671 rs_X11_refresh_1__X11_undo_1
              have t678 : s669 33 1 = s660 33 1 := f671 33 1 (by decide)
              have t679 : s669 33 2 = s660 33 2 := f671 33 2 (by decide)
              have u680 := CI_b c670 (k := 191) (j := 16) bd_191_16
              refine T_if1 (by decide +kernel) ?_
              refine T_let 191 (by decide +kernel) ?_
              refine T_if1 (by decide +kernel) ?_
              refine T_leq (fun x681 e682 => ?_)
              have u683 := CI_b c670 (k := 191) (j := 16) bd_191_16
              exact T_ret ⟨c670, f672, (Or.inr o675), ⟨x681, rfl, by omega, by omega⟩⟩
            · exact T_ret ⟨c649, f651, (Or.inl (by omega)), ⟨(-1), rfl, by omega, by omega⟩⟩
          · refine T_if1 (by decide +kernel) ?_
            refine T_let 100 (by decide +kernel) ?_
            refine T_of (fX2_place_J32.eq_1 ..) ?_
            refine T_rR ?_
            refine T_if1 (by decide) ?_
            refine T_if1 (by decide +kernel) ?_
            refine T_useN (sf_X9_copyFrom_6_100 hfu s483 c484) (fun v689 s684 hq => ?_)
            obtain ⟨c685, f686, rfl⟩ := hq
            refine T_vN ?_
            have f687 := z_Fr.tr (R := R_X11_undo_1) f485 f686 rs_X9_copyFrom_6_100__X11_undo_1
            have t692 : s684 33 1 = s483 33 1 := f686 33 1 (by decide)
            have t693 : s684 33 2 = s483 33 2 := f686 33 2 (by decide)
            have t694 : s684 191 16 = s483 191 16 := f686 191 16 (by decide)
            refine T_if1 (by unfold z_bl; omega) ?_
            refine T_rI ?_
            refine T_ite (fun h695 => ?_) (fun h695 => ?_)
            · refine T_if1 ⟨(by decide +kernel), by unfold z_bl; omega⟩ ?_
              refine T_upg c685 bd_1_16 (by omega) (fun s696 c697 g699 g700 e701 => ?_)
              have f698 := z_Fr.upf (R := R_X11_undo_1) f687 g699 g700 (Or.inr (Or.inr (Or.inr (Or.inr (Or.inr (Or.inr (Or.inr (Or.inr (Or.inr (Or.inl (⟨rfl, by decide⟩)))))))))))
              have t702 : s696 33 1 = s684 33 1 := g699 33 1 (by decide)
              have t703 : s696 33 2 = s684 33 2 := g699 33 2 (by decide)
              have t704 : s696 191 16 = s684 191 16 := g699 191 16 (by decide)
              refine T_if1 (by decide +kernel) ?_
              refine T_useN (sf_X11_refresh_1 hfu s696 c697 (Or.inl (by omega))) (fun v710 s705 hq => ?_)
              obtain ⟨c706, f707, o711, rfl⟩ := hq
              refine T_vN ?_
              have f708 := z_Fr.tr (R := R_X11_undo_1) f698 f707 rs_X11_refresh_1__X11_undo_1
              have t714 : s705 33 1 = s696 33 1 := f707 33 1 (by decide)
              have t715 : s705 33 2 = s696 33 2 := f707 33 2 (by decide)
              have u716 := CI_b c706 (k := 191) (j := 16) bd_191_16
              refine T_if1 (by decide +kernel) ?_
              refine T_let 191 (by decide +kernel) ?_
              refine T_if1 (by decide +kernel) ?_
              refine T_leq (fun x717 e718 => ?_)
              have u719 := CI_b c706 (k := 191) (j := 16) bd_191_16
              exact T_ret ⟨c706, f708, (Or.inr o711), ⟨x717, rfl, by omega, by omega⟩⟩
            · exact T_ret ⟨c685, f687, (Or.inl (by omega)), ⟨(-1), rfl, by omega, by omega⟩⟩
          · refine T_if1 (by decide +kernel) ?_
            refine T_let 113 (by decide +kernel) ?_
            refine T_of (fX2_place_J32.eq_1 ..) ?_
            refine T_rR ?_
            refine T_if1 (by decide) ?_
            refine T_if1 (by decide +kernel) ?_
            refine T_useN (sf_X9_copyFrom_6_113 hfu s483 c484) (fun v725 s720 hq => ?_)
            obtain ⟨c721, f722, rfl⟩ := hq
            refine T_vN ?_
            have f723 := z_Fr.tr (R := R_X11_undo_1) f485 f722 rs_X9_copyFrom_6_113__X11_undo_1
            have t728 : s720 33 1 = s483 33 1 := f722 33 1 (by decide)
            have t729 : s720 33 2 = s483 33 2 := f722 33 2 (by decide)
            have t730 : s720 191 16 = s483 191 16 := f722 191 16 (by decide)
            refine T_if1 (by unfold z_bl; omega) ?_
            refine T_rI ?_
            refine T_ite (fun h731 => ?_) (fun h731 => ?_)
            · refine T_if1 ⟨(by decide +kernel), by unfold z_bl; omega⟩ ?_
              refine T_upg c721 bd_1_16 (by omega) (fun s732 c733 g735 g736 e737 => ?_)
              have f734 := z_Fr.upf (R := R_X11_undo_1) f723 g735 g736 (Or.inr (Or.inr (Or.inr (Or.inr (Or.inr (Or.inr (Or.inr (Or.inr (Or.inr (Or.inl (⟨rfl, by decide⟩)))))))))))
              have t738 : s732 33 1 = s720 33 1 := g735 33 1 (by decide)
              have t739 : s732 33 2 = s720 33 2 := g735 33 2 (by decide)
              have t740 : s732 191 16 = s720 191 16 := g735 191 16 (by decide)
              refine T_if1 (by decide +kernel) ?_
              refine T_useN (sf_X11_refresh_1 hfu s732 c733 (Or.inl (by omega))) (fun v746 s741 hq => ?_)
              obtain ⟨c742, f743, o747, rfl⟩ := hq
              refine T_vN ?_
              have f744 := z_Fr.tr (R := R_X11_undo_1) f734 f743 rs_X11_refresh_1__X11_undo_1
              have t750 : s741 33 1 = s732 33 1 := f743 33 1 (by decide)
              have t751 : s741 33 2 = s732 33 2 := f743 33 2 (by decide)
              have u752 := CI_b c742 (k := 191) (j := 16) bd_191_16
              refine T_if1 (by decide +kernel) ?_
              refine T_let 191 (by decide +kernel) ?_
              refine T_if1 (by decide +kernel) ?_
              refine T_leq (fun x753 e754 => ?_)
              have u755 := CI_b c742 (k := 191) (j := 16) bd_191_16
              exact T_ret ⟨c742, f744, (Or.inr o747), ⟨x753, rfl, by omega, by omega⟩⟩
            · exact T_ret ⟨c721, f723, (Or.inl (by omega)), ⟨(-1), rfl, by omega, by omega⟩⟩
          · refine T_if1 (by decide +kernel) ?_
            refine T_let 126 (by decide +kernel) ?_
            refine T_of (fX2_place_J32.eq_1 ..) ?_
            refine T_rR ?_
            refine T_if1 (by decide) ?_
            refine T_if1 (by decide +kernel) ?_
            refine T_useN (sf_X9_copyFrom_6_126 hfu s483 c484) (fun v761 s756 hq => ?_)
            obtain ⟨c757, f758, rfl⟩ := hq
            refine T_vN ?_
            have f759 := z_Fr.tr (R := R_X11_undo_1) f485 f758 rs_X9_copyFrom_6_126__X11_undo_1
            have t764 : s756 33 1 = s483 33 1 := f758 33 1 (by decide)
            have t765 : s756 33 2 = s483 33 2 := f758 33 2 (by decide)
            have t766 : s756 191 16 = s483 191 16 := f758 191 16 (by decide)
            refine T_if1 (by unfold z_bl; omega) ?_
            refine T_rI ?_
            refine T_ite (fun h767 => ?_) (fun h767 => ?_)
            · refine T_if1 ⟨(by decide +kernel), by unfold z_bl; omega⟩ ?_
              refine T_upg c757 bd_1_16 (by omega) (fun s768 c769 g771 g772 e773 => ?_)
              have f770 := z_Fr.upf (R := R_X11_undo_1) f759 g771 g772 (Or.inr (Or.inr (Or.inr (Or.inr (Or.inr (Or.inr (Or.inr (Or.inr (Or.inr (Or.inl (⟨rfl, by decide⟩)))))))))))
              have t774 : s768 33 1 = s756 33 1 := g771 33 1 (by decide)
              have t775 : s768 33 2 = s756 33 2 := g771 33 2 (by decide)
              have t776 : s768 191 16 = s756 191 16 := g771 191 16 (by decide)
              refine T_if1 (by decide +kernel) ?_
              refine T_useN (sf_X11_refresh_1 hfu s768 c769 (Or.inl (by omega))) (fun v782 s777 hq => ?_)
              obtain ⟨c778, f779, o783, rfl⟩ := hq
              refine T_vN ?_
              have f780 := z_Fr.tr (R := R_X11_undo_1) f770 f779 rs_X11_refresh_1__X11_undo_1
              have t786 : s777 33 1 = s768 33 1 := f779 33 1 (by decide)
              have t787 : s777 33 2 = s768 33 2 := f779 33 2 (by decide)
              have u788 := CI_b c778 (k := 191) (j := 16) bd_191_16
              refine T_if1 (by decide +kernel) ?_
              refine T_let 191 (by decide +kernel) ?_
              refine T_if1 (by decide +kernel) ?_
              refine T_leq (fun x789 e790 => ?_)
              have u791 := CI_b c778 (k := 191) (j := 16) bd_191_16
              exact T_ret ⟨c778, f780, (Or.inr o783), ⟨x789, rfl, by omega, by omega⟩⟩
            · exact T_ret ⟨c757, f759, (Or.inl (by omega)), ⟨(-1), rfl, by omega, by omega⟩⟩
          · refine T_if1 (by decide +kernel) ?_
            refine T_let 139 (by decide +kernel) ?_
            refine T_of (fX2_place_J32.eq_1 ..) ?_
            refine T_rR ?_
            refine T_if1 (by decide) ?_
            refine T_if1 (by decide +kernel) ?_
            refine T_useN (sf_X9_copyFrom_6_139 hfu s483 c484) (fun v797 s792 hq => ?_)
            obtain ⟨c793, f794, rfl⟩ := hq
            refine T_vN ?_
            have f795 := z_Fr.tr (R := R_X11_undo_1) f485 f794 rs_X9_copyFrom_6_139__X11_undo_1
            have t800 : s792 33 1 = s483 33 1 := f794 33 1 (by decide)
            have t801 : s792 33 2 = s483 33 2 := f794 33 2 (by decide)
            have t802 : s792 191 16 = s483 191 16 := f794 191 16 (by decide)
            refine T_if1 (by unfold z_bl; omega) ?_
            refine T_rI ?_
            refine T_ite (fun h803 => ?_) (fun h803 => ?_)
            · refine T_if1 ⟨(by decide +kernel), by unfold z_bl; omega⟩ ?_
              refine T_upg c793 bd_1_16 (by omega) (fun s804 c805 g807 g808 e809 => ?_)
              have f806 := z_Fr.upf (R := R_X11_undo_1) f795 g807 g808 (Or.inr (Or.inr (Or.inr (Or.inr (Or.inr (Or.inr (Or.inr (Or.inr (Or.inr (Or.inl (⟨rfl, by decide⟩)))))))))))
              have t810 : s804 33 1 = s792 33 1 := g807 33 1 (by decide)
              have t811 : s804 33 2 = s792 33 2 := g807 33 2 (by decide)
              have t812 : s804 191 16 = s792 191 16 := g807 191 16 (by decide)
              refine T_if1 (by decide +kernel) ?_
              refine T_useN (sf_X11_refresh_1 hfu s804 c805 (Or.inl (by omega))) (fun v818 s813 hq => ?_)
              obtain ⟨c814, f815, o819, rfl⟩ := hq
              refine T_vN ?_
              have f816 := z_Fr.tr (R := R_X11_undo_1) f806 f815 rs_X11_refresh_1__X11_undo_1
              have t822 : s813 33 1 = s804 33 1 := f815 33 1 (by decide)
              have t823 : s813 33 2 = s804 33 2 := f815 33 2 (by decide)
              have u824 := CI_b c814 (k := 191) (j := 16) bd_191_16
              refine T_if1 (by decide +kernel) ?_
              refine T_let 191 (by decide +kernel) ?_
              refine T_if1 (by decide +kernel) ?_
              refine T_leq (fun x825 e826 => ?_)
              have u827 := CI_b c814 (k := 191) (j := 16) bd_191_16
              exact T_ret ⟨c814, f816, (Or.inr o819), ⟨x825, rfl, by omega, by omega⟩⟩
            · exact T_ret ⟨c793, f795, (Or.inl (by omega)), ⟨(-1), rfl, by omega, by omega⟩⟩
          · refine T_if1 (by decide +kernel) ?_
            refine T_let 152 (by decide +kernel) ?_
            refine T_of (fX2_place_J32.eq_1 ..) ?_
            refine T_rR ?_
            refine T_if1 (by decide) ?_
            refine T_if1 (by decide +kernel) ?_
            refine T_useN (sf_X9_copyFrom_6_152 hfu s483 c484) (fun v833 s828 hq => ?_)
            obtain ⟨c829, f830, rfl⟩ := hq
            refine T_vN ?_
            have f831 := z_Fr.tr (R := R_X11_undo_1) f485 f830 rs_X9_copyFrom_6_152__X11_undo_1
            have t836 : s828 33 1 = s483 33 1 := f830 33 1 (by decide)
            have t837 : s828 33 2 = s483 33 2 := f830 33 2 (by decide)
            have t838 : s828 191 16 = s483 191 16 := f830 191 16 (by decide)
            refine T_if1 (by unfold z_bl; omega) ?_
            refine T_rI ?_
            refine T_ite (fun h839 => ?_) (fun h839 => ?_)
            · refine T_if1 ⟨(by decide +kernel), by unfold z_bl; omega⟩ ?_
              refine T_upg c829 bd_1_16 (by omega) (fun s840 c841 g843 g844 e845 => ?_)
              have f842 := z_Fr.upf (R := R_X11_undo_1) f831 g843 g844 (Or.inr (Or.inr (Or.inr (Or.inr (Or.inr (Or.inr (Or.inr (Or.inr (Or.inr (Or.inl (⟨rfl, by decide⟩)))))))))))
              have t846 : s840 33 1 = s828 33 1 := g843 33 1 (by decide)
              have t847 : s840 33 2 = s828 33 2 := g843 33 2 (by decide)
              have t848 : s840 191 16 = s828 191 16 := g843 191 16 (by decide)
              refine T_if1 (by decide +kernel) ?_
              refine T_useN (sf_X11_refresh_1 hfu s840 c841 (Or.inl (by omega))) (fun v854 s849 hq => ?_)
              obtain ⟨c850, f851, o855, rfl⟩ := hq
              refine T_vN ?_
              have f852 := z_Fr.tr (R := R_X11_undo_1) f842 f851 rs_X11_refresh_1__X11_undo_1
              have t858 : s849 33 1 = s840 33 1 := f851 33 1 (by decide)
              have t859 : s849 33 2 = s840 33 2 := f851 33 2 (by decide)
              have u860 := CI_b c850 (k := 191) (j := 16) bd_191_16
              refine T_if1 (by decide +kernel) ?_
              refine T_let 191 (by decide +kernel) ?_
              refine T_if1 (by decide +kernel) ?_
              refine T_leq (fun x861 e862 => ?_)
              have u863 := CI_b c850 (k := 191) (j := 16) bd_191_16
              exact T_ret ⟨c850, f852, (Or.inr o855), ⟨x861, rfl, by omega, by omega⟩⟩
            · exact T_ret ⟨c829, f831, (Or.inl (by omega)), ⟨(-1), rfl, by omega, by omega⟩⟩
          · refine T_if1 (by decide +kernel) ?_
            refine T_let 165 (by decide +kernel) ?_
            refine T_of (fX2_place_J32.eq_1 ..) ?_
            refine T_rR ?_
            refine T_if1 (by decide) ?_
            refine T_if1 (by decide +kernel) ?_
            refine T_useN (sf_X9_copyFrom_6_165 hfu s483 c484) (fun v869 s864 hq => ?_)
            obtain ⟨c865, f866, rfl⟩ := hq
            refine T_vN ?_
            have f867 := z_Fr.tr (R := R_X11_undo_1) f485 f866 rs_X9_copyFrom_6_165__X11_undo_1
            have t872 : s864 33 1 = s483 33 1 := f866 33 1 (by decide)
            have t873 : s864 33 2 = s483 33 2 := f866 33 2 (by decide)
            have t874 : s864 191 16 = s483 191 16 := f866 191 16 (by decide)
            refine T_if1 (by unfold z_bl; omega) ?_
            refine T_rI ?_
            refine T_ite (fun h875 => ?_) (fun h875 => ?_)
            · refine T_if1 ⟨(by decide +kernel), by unfold z_bl; omega⟩ ?_
              refine T_upg c865 bd_1_16 (by omega) (fun s876 c877 g879 g880 e881 => ?_)
              have f878 := z_Fr.upf (R := R_X11_undo_1) f867 g879 g880 (Or.inr (Or.inr (Or.inr (Or.inr (Or.inr (Or.inr (Or.inr (Or.inr (Or.inr (Or.inl (⟨rfl, by decide⟩)))))))))))
              have t882 : s876 33 1 = s864 33 1 := g879 33 1 (by decide)
              have t883 : s876 33 2 = s864 33 2 := g879 33 2 (by decide)
              have t884 : s876 191 16 = s864 191 16 := g879 191 16 (by decide)
              refine T_if1 (by decide +kernel) ?_
              refine T_useN (sf_X11_refresh_1 hfu s876 c877 (Or.inl (by omega))) (fun v890 s885 hq => ?_)
              obtain ⟨c886, f887, o891, rfl⟩ := hq
              refine T_vN ?_
              have f888 := z_Fr.tr (R := R_X11_undo_1) f878 f887 rs_X11_refresh_1__X11_undo_1
              have t894 : s885 33 1 = s876 33 1 := f887 33 1 (by decide)
              have t895 : s885 33 2 = s876 33 2 := f887 33 2 (by decide)
              have u896 := CI_b c886 (k := 191) (j := 16) bd_191_16
              refine T_if1 (by decide +kernel) ?_
              refine T_let 191 (by decide +kernel) ?_
              refine T_if1 (by decide +kernel) ?_
              refine T_leq (fun x897 e898 => ?_)
              have u899 := CI_b c886 (k := 191) (j := 16) bd_191_16
              exact T_ret ⟨c886, f888, (Or.inr o891), ⟨x897, rfl, by omega, by omega⟩⟩
            · exact T_ret ⟨c865, f867, (Or.inl (by omega)), ⟨(-1), rfl, by omega, by omega⟩⟩
          · refine T_if1 (by decide +kernel) ?_
            refine T_let 178 (by decide +kernel) ?_
            refine T_of (fX2_place_J32.eq_1 ..) ?_
            refine T_rR ?_
            refine T_if1 (by decide) ?_
            refine T_if1 (by decide +kernel) ?_
            refine T_useN (sf_X9_copyFrom_6_178 hfu s483 c484) (fun v905 s900 hq => ?_)
            obtain ⟨c901, f902, rfl⟩ := hq
            refine T_vN ?_
            have f903 := z_Fr.tr (R := R_X11_undo_1) f485 f902 rs_X9_copyFrom_6_178__X11_undo_1
            have t908 : s900 33 1 = s483 33 1 := f902 33 1 (by decide)
            have t909 : s900 33 2 = s483 33 2 := f902 33 2 (by decide)
            have t910 : s900 191 16 = s483 191 16 := f902 191 16 (by decide)
            refine T_if1 (by unfold z_bl; omega) ?_
            refine T_rI ?_
            refine T_ite (fun h911 => ?_) (fun h911 => ?_)
            · refine T_if1 ⟨(by decide +kernel), by unfold z_bl; omega⟩ ?_
              refine T_upg c901 bd_1_16 (by omega) (fun s912 c913 g915 g916 e917 => ?_)
              have f914 := z_Fr.upf (R := R_X11_undo_1) f903 g915 g916 (Or.inr (Or.inr (Or.inr (Or.inr (Or.inr (Or.inr (Or.inr (Or.inr (Or.inr (Or.inl (⟨rfl, by decide⟩)))))))))))
              have t918 : s912 33 1 = s900 33 1 := g915 33 1 (by decide)
              have t919 : s912 33 2 = s900 33 2 := g915 33 2 (by decide)
              have t920 : s912 191 16 = s900 191 16 := g915 191 16 (by decide)
              refine T_if1 (by decide +kernel) ?_
              refine T_useN (sf_X11_refresh_1 hfu s912 c913 (Or.inl (by omega))) (fun v926 s921 hq => ?_)
              obtain ⟨c922, f923, o927, rfl⟩ := hq
              refine T_vN ?_
              have f924 := z_Fr.tr (R := R_X11_undo_1) f914 f923 rs_X11_refresh_1__X11_undo_1
              have t930 : s921 33 1 = s912 33 1 := f923 33 1 (by decide)
              have t931 : s921 33 2 = s912 33 2 := f923 33 2 (by decide)
              have u932 := CI_b c922 (k := 191) (j := 16) bd_191_16
              refine T_if1 (by decide +kernel) ?_
              refine T_let 191 (by decide +kernel) ?_
              refine T_if1 (by decide +kernel) ?_
              refine T_leq (fun x933 e934 => ?_)
              have u935 := CI_b c922 (k := 191) (j := 16) bd_191_16
              exact T_ret ⟨c922, f924, (Or.inr o927), ⟨x933, rfl, by omega, by omega⟩⟩
            · exact T_ret ⟨c901, f903, (Or.inl (by omega)), ⟨(-1), rfl, by omega, by omega⟩⟩
  · refine T_if1 (by unfold z_bl; omega) ?_
    refine T_rI ?_
    refine T_ite (fun h936 => ?_) (fun h936 => ?_)
    · refine T_if1 ⟨(by decide +kernel), by unfold z_bl; omega⟩ ?_
      refine T_upg c0 bd_1_16 (by omega) (fun s937 c938 g940 g941 e942 => ?_)
      have f939 := z_Fr.upf (R := R_X11_undo_1) z_Fr.rf g940 g941 (Or.inr (Or.inr (Or.inr (Or.inr (Or.inr (Or.inr (Or.inr (Or.inr (Or.inr (Or.inl (⟨rfl, by decide⟩)))))))))))
      have t943 : s937 33 1 = r0 33 1 := g940 33 1 (by decide)
      have t944 : s937 33 2 = r0 33 2 := g940 33 2 (by decide)
      have t945 : s937 191 16 = r0 191 16 := g940 191 16 (by decide)
      refine T_if1 (by decide +kernel) ?_
      refine T_useN (sf_X11_refresh_1 hfu s937 c938 (Or.inl (by omega))) (fun v951 s946 hq => ?_)
      obtain ⟨c947, f948, o952, rfl⟩ := hq
      refine T_vN ?_
      have f949 := z_Fr.tr (R := R_X11_undo_1) f939 f948 rs_X11_refresh_1__X11_undo_1
      have t955 : s946 33 1 = s937 33 1 := f948 33 1 (by decide)
      have t956 : s946 33 2 = s937 33 2 := f948 33 2 (by decide)
      have u957 := CI_b c947 (k := 191) (j := 16) bd_191_16
      refine T_if1 (by decide +kernel) ?_
      refine T_let 191 (by decide +kernel) ?_
      refine T_if1 (by decide +kernel) ?_
      refine T_leq (fun x958 e959 => ?_)
      have u960 := CI_b c947 (k := 191) (j := 16) bd_191_16
      exact T_ret ⟨c947, f949, (Or.inr o952), ⟨x958, rfl, by omega, by omega⟩⟩
    · exact T_ret ⟨c0, z_Fr.rf, p0, ⟨(-1), rfl, by omega, by omega⟩⟩
abbrev R_X1_longOfLine_240 (a b : Int) : Prop := (222 ≤ a ∧ a ≤ 222) ∨ (225 ≤ a ∧ a ≤ 239) ∨ (a = 220 ∧ (b = 4 ∨ b = 5)) ∨ (a = 223 ∧ (b = 9))
abbrev P_X1_longOfLine_240 (r0 : z_M) : z_V → z_M → Prop := fun v s' => z_CI s' ∧ z_Fr R_X1_longOfLine_240 r0 s' ∧ (∃ x, v = vI x ∧ -2147483648 ≤ x ∧ x ≤ 2147483647)
theorem rs_X5_lengthOf_220__X1_longOfLine_240 (a b : Int) (h : R_X5_lengthOf_220 a b) : R_X1_longOfLine_240 a b := (h.elim (fun h => (Or.inl (⟨by omega, by omega⟩))) (fun h => (h.elim (fun h => (Or.inr (Or.inl (⟨by omega, by omega⟩)))) (fun h => (h.elim (fun h => (Or.inr (Or.inr (Or.inl (⟨h.1, by omega⟩))))) (fun h => (Or.inr (Or.inr (Or.inr (⟨h.1, by omega⟩))))))))))
theorem sf_X1_longOfLine_240 {fu : Nat} (hfu : 8589934592 ≤ fu) (r0 : z_M) (c0 : z_CI r0) (a1 : Int) (b1 : -2147483648 ≤ a1 ∧ a1 ≤ 2147483647) : z_T (fX1_longOfLine fu r0 240 a1) (P_X1_longOfLine_240 r0) := by
  refine T_of (fX1_longOfLine.eq_1 ..) ?_
  refine T_if1 (by decide +kernel) ?_
  refine T_let 220 (by decide +kernel) ?_
  refine T_if1 (by decide +kernel) ?_
  refine T_let 247 (by decide +kernel) ?_
  refine T_if1 (by decide +kernel) ?_
  refine T_get (by decide +kernel) (c := 248) (by decide +kernel) bdr_248 (by decide) c0 (fun x1 e2 b3 w4 => ?_)
  have l5 : z_ln 247 = 201 := by decide +kernel
  refine T_if1 (by decide +kernel) ?_
  refine T_let 247 (by decide +kernel) ?_
  refine T_leq (fun x6 e7 => ?_)
  have w8 := z_wb e7
  refine T_if1 (by decide +kernel) ?_
  refine T_get (by decide +kernel) (c := 248) (by decide +kernel) bdr_248 (by decide) c0 (fun x9 e10 b11 w12 => ?_)
  have l13 : z_ln 247 = 201 := by decide +kernel
  refine T_leq (fun x14 e15 => ?_)
  have w16 := z_wb e15
  refine T_if1 (by decide +kernel) ?_
  refine T_useI (sf_X5_lengthOf_220 hfu r0 c0 x1 x14 (by omega) (by omega)) (fun v22 s17 hq => ?_)
  obtain ⟨c18, f19, ⟨x21, rfl, b23, b24⟩⟩ := hq
  refine T_vI ?_
  have f20 := z_Fr.tr (R := R_X1_longOfLine_240) z_Fr.rf f19 rs_X5_lengthOf_220__X1_longOfLine_240
  exact T_ret ⟨c18, f20, ⟨x21, rfl, by omega, by omega⟩⟩
abbrev R_X1_tooLong_240 (a b : Int) : Prop := (222 ≤ a ∧ a ≤ 222) ∨ (225 ≤ a ∧ a ≤ 239) ∨ (a = 220 ∧ (b = 4 ∨ b = 5)) ∨ (a = 223 ∧ (b = 9))
abbrev P_X1_tooLong_240 (r0 : z_M) : z_V → z_M → Prop := fun v s' => z_CI s' ∧ z_Fr R_X1_tooLong_240 r0 s' ∧ (∃ x, v = vI x ∧ -2147483648 ≤ x ∧ x ≤ 2147483647)
theorem rs_X1_longOfLine_240__X1_tooLong_240 (a b : Int) (h : R_X1_longOfLine_240 a b) : R_X1_tooLong_240 a b := (h.elim (fun h => (Or.inl (⟨by omega, by omega⟩))) (fun h => (h.elim (fun h => (Or.inr (Or.inl (⟨by omega, by omega⟩)))) (fun h => (h.elim (fun h => (Or.inr (Or.inr (Or.inl (⟨h.1, by omega⟩))))) (fun h => (Or.inr (Or.inr (Or.inr (⟨h.1, by omega⟩))))))))))
theorem sj_X1_tooLong_240_J27 {fu : Nat} (hfu : 8589934592 ≤ fu) (r0 s : z_M) (c : z_CI s) (f : z_Fr R_X1_tooLong_240 r0 s) (a1 : Int) (a3 : Int) (t0 : Int) (t1 : Int) (b1 : -2147483648 ≤ a1 ∧ a1 ≤ 2147483647) (b3 : -2147483648 ≤ a3 ∧ a3 ≤ 2147483646) (d0 : -2147483648 ≤ t0 ∧ t0 ≤ 2147483647) (d1 : 0 ≤ t1 ∧ t1 ≤ 1) (M : Int) (pm : 2147483647 - a3 ≤ M) {r : z_M → Int → Int → z_O} {k : z_M → Int → z_O} (hr : ∀ (s' : z_M) (v2 : Int) (v3 : Int), z_CI s' → z_Fr R_X1_tooLong_240 r0 s' → (-2147483648 ≤ v2 ∧ v2 ≤ 2147483647) → (-2147483648 ≤ v3 ∧ v3 ≤ 2147483647) → (2147483647 - v3 < M) → z_T (r s' v2 v3) (P_X1_tooLong_240 r0)) (hk : ∀ (s' : z_M) (v2 : Int), z_CI s' → z_Fr R_X1_tooLong_240 r0 s' → (-2147483648 ≤ v2 ∧ v2 ≤ 2147483647) → z_T (k s' v2) (P_X1_tooLong_240 r0)) : z_T (fX1_tooLong_J27 fu s 240 a1 a3 t0 t1 r k) (P_X1_tooLong_240 r0) := by
  refine T_of (fX1_tooLong_J27.eq_1 ..) ?_
  have u1 := CI_b c (k := 240) (j := 6) bd_240_6
  refine T_leq (fun x2 e3 => ?_)
  have w4 := z_wb e3
  refine T_leq (fun x5 e6 => ?_)
  have w7 := z_wb e6
  exact hr s x2 x5 c f (by omega) (by omega) (by omega)
theorem sl_X1_tooLong_240_L4 {fu : Nat} (hfu : 8589934592 ≤ fu) (r0 : z_M) (a1 : Int) (b1 : -2147483648 ≤ a1 ∧ a1 ≤ 2147483647) {k : z_M → Int → z_O} (hk : ∀ (s' : z_M) (v2 : Int), z_CI s' → z_Fr R_X1_tooLong_240 r0 s' → (-2147483648 ≤ v2 ∧ v2 ≤ 2147483647) → z_T (k s' v2) (P_X1_tooLong_240 r0)) : ∀ (F : Nat) (s : z_M) (a2 : Int) (a3 : Int), z_CI s → z_Fr R_X1_tooLong_240 r0 s → (-2147483648 ≤ a2 ∧ a2 ≤ 2147483647) → (-2147483648 ≤ a3 ∧ a3 ≤ 2147483647) → (2147483647 - a3 < (F : Int)) → z_T (fX1_tooLong_L4 fu 240 a1 F s a2 a3 k) (P_X1_tooLong_240 r0) := by
  intro F
  induction F with
  | zero =>
    intro s a2 a3 c f b2 b3 hm
    have u16 := CI_b c (k := 240) (j := 6) bd_240_6
    exfalso; omega
  | succ F ih =>
    intro s a2 a3 c f b2 b3 hm
    refine T_of (fX1_tooLong_L4.eq_2 ..) ?_
    have u1 := CI_b c (k := 240) (j := 6) bd_240_6
    refine T_if1 (by decide +kernel) ?_
    refine T_leq (fun x2 e3 => ?_)
    have u4 := CI_b c (k := 240) (j := 6) bd_240_6
    refine T_ite (fun h5 => ?_) (fun h5 => ?_)
    · exact hk s a2 c f (by omega)
    · refine T_if1 (by decide +kernel) ?_
      refine T_useI (sf_X1_longOfLine_240 hfu s c a3 (by omega)) (fun v11 s6 hq => ?_)
      obtain ⟨c7, f8, ⟨x10, rfl, b12, b13⟩⟩ := hq
      refine T_vI ?_
      have f9 := z_Fr.tr (R := R_X1_tooLong_240) f f8 rs_X1_longOfLine_240__X1_tooLong_240
      have t14 : s6 240 6 = s 240 6 := f8 240 6 (by decide)
      refine T_ite (fun h15 => ?_) (fun h15 => ?_)
      · exact sj_X1_tooLong_240_J27 hfu r0 s6 c7 f9 a1 a3 a2 0 (by omega) (by omega) (by omega) (by omega) (2147483647 - a3) (by omega) (fun s' v2 v3 c' f' w2 w3 pg => ih s' v2 v3 c' f' w2 w3 (by omega)) hk
      · exact sj_X1_tooLong_240_J27 hfu r0 s6 c7 f9 a1 a3 a2 1 (by omega) (by omega) (by omega) (by omega) (2147483647 - a3) (by omega) (fun s' v2 v3 c' f' w2 w3 pg => ih s' v2 v3 c' f' w2 w3 (by omega)) hk
theorem sf_X1_tooLong_240 {fu : Nat} (hfu : 8589934592 ≤ fu) (r0 : z_M) (c0 : z_CI r0) (a1 : Int) (b1 : -2147483648 ≤ a1 ∧ a1 ≤ 2147483647) : z_T (fX1_tooLong fu r0 240 a1) (P_X1_tooLong_240 r0) := by
  refine T_of (fX1_tooLong.eq_1 ..) ?_
  refine sl_X1_tooLong_240_L4 hfu r0 a1 (by omega) (fun s1 y4 c2 f3 b5 => ?_) fu r0 0 0 c0 z_Fr.rf (by omega) (by omega) (by omega)
  have u6 := CI_b c2 (k := 240) (j := 6) bd_240_6
  exact T_ret ⟨c2, f3, ⟨y4, rfl, by omega, by omega⟩⟩
abbrev R_X1_costs_240 (a b : Int) : Prop := (222 ≤ a ∧ a ≤ 222) ∨ (225 ≤ a ∧ a ≤ 239) ∨ (a = 220 ∧ (b = 4 ∨ b = 5)) ∨ (a = 223 ∧ (b = 9))
abbrev P_X1_costs_240 (r0 : z_M) : z_V → z_M → Prop := fun v s' => z_CI s' ∧ z_Fr R_X1_costs_240 r0 s' ∧ (∃ x, v = vL x ∧ -9223372036854775808 ≤ x ∧ x ≤ 9223372036854775807)
theorem rs_X1_longOfLine_240__X1_costs_240 (a b : Int) (h : R_X1_longOfLine_240 a b) : R_X1_costs_240 a b := (h.elim (fun h => (Or.inl (⟨by omega, by omega⟩))) (fun h => (h.elim (fun h => (Or.inr (Or.inl (⟨by omega, by omega⟩)))) (fun h => (h.elim (fun h => (Or.inr (Or.inr (Or.inl (⟨h.1, by omega⟩))))) (fun h => (Or.inr (Or.inr (Or.inr (⟨h.1, by omega⟩))))))))))
theorem sj_X1_costs_240_J38 {fu : Nat} (hfu : 8589934592 ≤ fu) (r0 s : z_M) (c : z_CI s) (f : z_Fr R_X1_costs_240 r0 s) (a1 : Int) (a4 : Int) (t0 : Int) (t1 : Int) (t2 : Int) (t3 : Int) (b1 : -2147483648 ≤ a1 ∧ a1 ≤ 2147483647) (b4 : -2147483648 ≤ a4 ∧ a4 ≤ 2147483646) (d0 : -9223372036854775808 ≤ t0 ∧ t0 ≤ 9223372036854775807) (d1 : -2147483648 ≤ t1 ∧ t1 ≤ 2147483647) (d2 : -2147483648 ≤ t2 ∧ t2 ≤ 2147483647) (d3 : 0 ≤ t3 ∧ t3 ≤ 1) (M : Int) (pm : 2147483647 - a4 ≤ M) {r : z_M → Int → Int → z_O} {k : z_M → Int → z_O} (hr : ∀ (s' : z_M) (v2 : Int) (v4 : Int), z_CI s' → z_Fr R_X1_costs_240 r0 s' → (-9223372036854775808 ≤ v2 ∧ v2 ≤ 9223372036854775807) → (-2147483648 ≤ v4 ∧ v4 ≤ 2147483647) → (2147483647 - v4 < M) → z_T (r s' v2 v4) (P_X1_costs_240 r0)) (hk : ∀ (s' : z_M) (v2 : Int), z_CI s' → z_Fr R_X1_costs_240 r0 s' → (-9223372036854775808 ≤ v2 ∧ v2 ≤ 9223372036854775807) → z_T (k s' v2) (P_X1_costs_240 r0)) : z_T (fX1_costs_J38 fu s 240 a1 a4 t0 t1 t2 t3 r k) (P_X1_costs_240 r0) := by
  refine T_of (fX1_costs_J38.eq_1 ..) ?_
  have u1 := CI_b c (k := 240) (j := 6) bd_240_6
  refine T_useL (sf_X1_costFor hfu s c t1 t2 t3 (by omega) (by omega) (by omega)) (fun v7 s2 hq => ?_)
  obtain ⟨c3, f4, ⟨x6, rfl, b8, b9⟩⟩ := hq
  refine T_vL ?_
  have f5 := z_Fr.tr (R := R_X1_costs_240) f f4 (fun a b h => absurd h not_false)
  have t10 : s2 240 6 = s 240 6 := f4 240 6 (by decide)
  refine T_leq (fun x11 e12 => ?_)
  have w13 := z_wlr e12
  refine T_leq (fun x14 e15 => ?_)
  have w16 := z_wb e15
  exact hr s2 x11 x14 c3 f5 (by omega) (by omega) (by omega)
theorem sl_X1_costs_240_L5 {fu : Nat} (hfu : 8589934592 ≤ fu) (r0 : z_M) (a1 : Int) (b1 : -2147483648 ≤ a1 ∧ a1 ≤ 2147483647) {k : z_M → Int → z_O} (hk : ∀ (s' : z_M) (v2 : Int), z_CI s' → z_Fr R_X1_costs_240 r0 s' → (-9223372036854775808 ≤ v2 ∧ v2 ≤ 9223372036854775807) → z_T (k s' v2) (P_X1_costs_240 r0)) : ∀ (F : Nat) (s : z_M) (a2 : Int) (a4 : Int), z_CI s → z_Fr R_X1_costs_240 r0 s → (-9223372036854775808 ≤ a2 ∧ a2 ≤ 9223372036854775807) → (-2147483648 ≤ a4 ∧ a4 ≤ 2147483647) → (2147483647 - a4 < (F : Int)) → z_T (fX1_costs_L5 fu 240 a1 F s a2 a4 k) (P_X1_costs_240 r0) := by
  intro F
  induction F with
  | zero =>
    intro s a2 a4 c f b2 b4 hm
    have u22 := CI_b c (k := 240) (j := 6) bd_240_6
    exfalso; omega
  | succ F ih =>
    intro s a2 a4 c f b2 b4 hm
    refine T_of (fX1_costs_L5.eq_2 ..) ?_
    have u1 := CI_b c (k := 240) (j := 6) bd_240_6
    refine T_if1 (by decide +kernel) ?_
    refine T_leq (fun x2 e3 => ?_)
    have u4 := CI_b c (k := 240) (j := 6) bd_240_6
    refine T_ite (fun h5 => ?_) (fun h5 => ?_)
    · exact hk s a2 c f (by omega)
    · refine T_if1 (by decide +kernel) ?_
      refine T_useI (sf_X1_longOfLine_240 hfu s c a4 (by omega)) (fun v11 s6 hq => ?_)
      obtain ⟨c7, f8, ⟨x10, rfl, b12, b13⟩⟩ := hq
      refine T_vI ?_
      have f9 := z_Fr.tr (R := R_X1_costs_240) f f8 rs_X1_longOfLine_240__X1_costs_240
      have t14 : s6 240 6 = s 240 6 := f8 240 6 (by decide)
      refine T_if1 (by decide +kernel) ?_
      refine T_leq (fun x15 e16 => ?_)
      have u17 := CI_b c7 (k := 240) (j := 6) bd_240_6
      refine T_leq (fun x18 e19 => ?_)
      have w20 := z_wb e19
      refine T_ite (fun h21 => ?_) (fun h21 => ?_)
      · exact sj_X1_costs_240_J38 hfu r0 s6 c7 f9 a1 a4 a2 x10 a1 0 (by omega) (by omega) (by omega) (by omega) (by omega) (by omega) (2147483647 - a4) (by omega) (fun s' v2 v4 c' f' w2 w4 pg => ih s' v2 v4 c' f' w2 w4 (by omega)) hk
      · exact sj_X1_costs_240_J38 hfu r0 s6 c7 f9 a1 a4 a2 x10 a1 1 (by omega) (by omega) (by omega) (by omega) (by omega) (by omega) (2147483647 - a4) (by omega) (fun s' v2 v4 c' f' w2 w4 pg => ih s' v2 v4 c' f' w2 w4 (by omega)) hk
theorem sf_X1_costs_240 {fu : Nat} (hfu : 8589934592 ≤ fu) (r0 : z_M) (c0 : z_CI r0) (a1 : Int) (b1 : -2147483648 ≤ a1 ∧ a1 ≤ 2147483647) : z_T (fX1_costs fu r0 240 a1) (P_X1_costs_240 r0) := by
  refine T_of (fX1_costs.eq_1 ..) ?_
  refine sl_X1_costs_240_L5 hfu r0 a1 (by omega) (fun s1 y4 c2 f3 b5 => ?_) fu r0 0 0 c0 z_Fr.rf (by omega) (by omega) (by omega)
  have u6 := CI_b c2 (k := 240) (j := 6) bd_240_6
  exact T_ret ⟨c2, f3, ⟨y4, rfl, by omega, by omega⟩⟩
abbrev R_X3_longest_258 (a b : Int) : Prop := False
abbrev P_X3_longest_258 (r0 : z_M) : z_V → z_M → Prop := fun v s' => z_CI s' ∧ z_Fr R_X3_longest_258 r0 s' ∧ (∃ x, v = vI x ∧ -2147483648 ≤ x ∧ x ≤ 2147483647)
theorem sl_X3_longest_258_L4 {fu : Nat} (hfu : 8589934592 ≤ fu) (r0 : z_M) {k : z_M → Int → z_O} (hk : ∀ (s' : z_M) (v1 : Int), z_CI s' → z_Fr R_X3_longest_258 r0 s' → (-2147483648 ≤ v1 ∧ v1 ≤ 2147483647) → z_T (k s' v1) (P_X3_longest_258 r0)) : ∀ (F : Nat) (s : z_M) (a1 : Int) (a2 : Int), z_CI s → z_Fr R_X3_longest_258 r0 s → (-2147483648 ≤ a1 ∧ a1 ≤ 2147483647) → (-2147483648 ≤ a2 ∧ a2 ≤ 2147483647) → (2147483647 - a2 < (F : Int)) → z_T (fX3_longest_L4 fu 258 F s a1 a2 k) (P_X3_longest_258 r0) := by
  intro F
  induction F with
  | zero =>
    intro s a1 a2 c f b1 b2 hm
    have u17 := CI_b c (k := 240) (j := 6) bd_240_6
    exfalso; omega
  | succ F ih =>
    intro s a1 a2 c f b1 b2 hm
    refine T_of (fX3_longest_L4.eq_2 ..) ?_
    have u1 := CI_b c (k := 240) (j := 6) bd_240_6
    refine T_if1 (by decide +kernel) ?_
    refine T_let 240 (by decide +kernel) ?_
    refine T_if1 (by decide +kernel) ?_
    refine T_leq (fun x2 e3 => ?_)
    have u4 := CI_b c (k := 240) (j := 6) bd_240_6
    refine T_ite (fun h5 => ?_) (fun h5 => ?_)
    · exact hk s a1 c f (by omega)
    · refine T_if1 (by decide +kernel) ?_
      refine T_let 269 (by decide +kernel) ?_
      refine T_if1 (by decide +kernel) ?_
      refine T_get (by decide +kernel) (c := 270) (by decide +kernel) bdr_270 (by decide) c (fun x6 e7 b8 w9 => ?_)
      have l10 : z_ln 269 = 200 := by decide +kernel
      refine T_leq (fun x11 e12 => ?_)
      have w13 := z_maxb a1 x6
      rw [e12] at w13
      refine T_leq (fun x14 e15 => ?_)
      have w16 := z_wb e15
      exact ih s x11 x14 c f (by omega) (by omega) (by omega)
theorem sf_X3_longest_258 {fu : Nat} (hfu : 8589934592 ≤ fu) (r0 : z_M) (c0 : z_CI r0) : z_T (fX3_longest fu r0 258) (P_X3_longest_258 r0) := by
  refine T_of (fX3_longest.eq_1 ..) ?_
  refine sl_X3_longest_258_L4 hfu r0 (fun s1 y4 c2 f3 b5 => ?_) fu r0 0 0 c0 z_Fr.rf (by omega) (by omega) (by omega)
  have u6 := CI_b c2 (k := 240) (j := 6) bd_240_6
  exact T_ret ⟨c2, f3, ⟨y4, rfl, by omega, by omega⟩⟩
abbrev R_X11_told_1 (a b : Int) : Prop := (193 ≤ a ∧ a ≤ 219) ∨ (222 ≤ a ∧ a ≤ 222) ∨ (225 ≤ a ∧ a ≤ 239) ∨ (242 ≤ a ∧ a ≤ 244) ∨ (248 ≤ a ∧ a ≤ 248) ∨ (260 ≤ a ∧ a ≤ 278) ∨ (281 ≤ a ∧ a ≤ 295) ∨ (a = 1 ∧ (b = 15 ∨ b = 16 ∨ b = 17 ∨ b = 18)) ∨ (a = 191 ∧ (b = 16 ∨ b = 17 ∨ b = 18)) ∨ (a = 220 ∧ (b = 4 ∨ b = 5)) ∨ (a = 223 ∧ (b = 9)) ∨ (a = 240 ∧ (b = 6)) ∨ (a = 279 ∧ (b = 9))
abbrev P_X11_told_1 (r0 : z_M) : z_V → z_M → Prop := fun v s' => z_CI s' ∧ z_Fr R_X11_told_1 r0 s' ∧ (z_V16 s') ∧ ((∃ x, v = vL x ∧ -9223372036854775808 ≤ x ∧ x ≤ 9223372036854775807) ∨ v = vX 1)
theorem rs_X11_refresh_1__X11_told_1 (a b : Int) (h : R_X11_refresh_1 a b) : R_X11_told_1 a b := (h.elim (fun h => (Or.inl (⟨by omega, by omega⟩))) (fun h => (h.elim (fun h => (Or.inr (Or.inl (⟨by omega, by omega⟩)))) (fun h => (h.elim (fun h => (Or.inr (Or.inr (Or.inl (⟨by omega, by omega⟩))))) (fun h => (h.elim (fun h => (Or.inr (Or.inr (Or.inr (Or.inl (⟨by omega, by omega⟩)))))) (fun h => (h.elim (fun h => (Or.inr (Or.inr (Or.inr (Or.inr (Or.inl (⟨by omega, by omega⟩))))))) (fun h => (h.elim (fun h => (Or.inr (Or.inr (Or.inr (Or.inr (Or.inr (Or.inl (⟨by omega, by omega⟩)))))))) (fun h => (h.elim (fun h => (Or.inr (Or.inr (Or.inr (Or.inr (Or.inr (Or.inr (Or.inl (⟨by omega, by omega⟩))))))))) (fun h => (h.elim (fun h => (Or.inr (Or.inr (Or.inr (Or.inr (Or.inr (Or.inr (Or.inr (Or.inl (⟨h.1, by omega⟩)))))))))) (fun h => (h.elim (fun h => (Or.inr (Or.inr (Or.inr (Or.inr (Or.inr (Or.inr (Or.inr (Or.inr (Or.inl (⟨h.1, by omega⟩))))))))))) (fun h => (h.elim (fun h => (Or.inr (Or.inr (Or.inr (Or.inr (Or.inr (Or.inr (Or.inr (Or.inr (Or.inr (Or.inl (⟨h.1, by omega⟩)))))))))))) (fun h => (h.elim (fun h => (Or.inr (Or.inr (Or.inr (Or.inr (Or.inr (Or.inr (Or.inr (Or.inr (Or.inr (Or.inr (Or.inl (⟨h.1, by omega⟩))))))))))))) (fun h => (h.elim (fun h => (Or.inr (Or.inr (Or.inr (Or.inr (Or.inr (Or.inr (Or.inr (Or.inr (Or.inr (Or.inr (Or.inr (Or.inl (⟨h.1, by omega⟩)))))))))))))) (fun h => (Or.inr (Or.inr (Or.inr (Or.inr (Or.inr (Or.inr (Or.inr (Or.inr (Or.inr (Or.inr (Or.inr (Or.inr (⟨h.1, by omega⟩)))))))))))))))))))))))))))))))))))))
theorem nr_X3_longest_258__195 (b : Int) : ¬ R_X3_longest_258 195 b := not_false
theorem nr_X3_longest_258__197 (b : Int) : ¬ R_X3_longest_258 197 b := not_false
theorem rs_X1_costs_240__X11_told_1 (a b : Int) (h : R_X1_costs_240 a b) : R_X11_told_1 a b := (h.elim (fun h => (Or.inr (Or.inl (⟨by omega, by omega⟩)))) (fun h => (h.elim (fun h => (Or.inr (Or.inr (Or.inl (⟨by omega, by omega⟩))))) (fun h => (h.elim (fun h => (Or.inr (Or.inr (Or.inr (Or.inr (Or.inr (Or.inr (Or.inr (Or.inr (Or.inr (Or.inl (⟨h.1, by omega⟩)))))))))))) (fun h => (Or.inr (Or.inr (Or.inr (Or.inr (Or.inr (Or.inr (Or.inr (Or.inr (Or.inr (Or.inr (Or.inl (⟨h.1, by omega⟩))))))))))))))))))
theorem nr_X1_costs_240__195 (b : Int) : ¬ R_X1_costs_240 195 b := by
  unfold R_X1_costs_240; omega
theorem nr_X1_costs_240__197 (b : Int) : ¬ R_X1_costs_240 197 b := by
  unfold R_X1_costs_240; omega
theorem rs_X1_tooLong_240__X11_told_1 (a b : Int) (h : R_X1_tooLong_240 a b) : R_X11_told_1 a b := (h.elim (fun h => (Or.inr (Or.inl (⟨by omega, by omega⟩)))) (fun h => (h.elim (fun h => (Or.inr (Or.inr (Or.inl (⟨by omega, by omega⟩))))) (fun h => (h.elim (fun h => (Or.inr (Or.inr (Or.inr (Or.inr (Or.inr (Or.inr (Or.inr (Or.inr (Or.inr (Or.inl (⟨h.1, by omega⟩)))))))))))) (fun h => (Or.inr (Or.inr (Or.inr (Or.inr (Or.inr (Or.inr (Or.inr (Or.inr (Or.inr (Or.inr (Or.inl (⟨h.1, by omega⟩))))))))))))))))))
theorem nr_X1_tooLong_240__195 (b : Int) : ¬ R_X1_tooLong_240 195 b := by
  unfold R_X1_tooLong_240; omega
theorem nr_X1_tooLong_240__197 (b : Int) : ¬ R_X1_tooLong_240 197 b := by
  unfold R_X1_tooLong_240; omega
theorem sf_X11_told_1 {fu : Nat} (hfu : 8589934592 ≤ fu) (r0 : z_M) (c0 : z_CI r0) (a1 : Int) (b1 : -2147483648 ≤ a1 ∧ a1 ≤ 2147483647) (p0 : z_V16 r0) : z_T (fX11_told fu r0 1 a1) (P_X11_told_1 r0) := by
  refine T_of (fX11_told.eq_1 ..) ?_
  refine T_if1 (by decide +kernel) ?_
  refine T_nw ?_ (fun h1 h2 => ?_)
  · exact T_ret ⟨CI_up c0 bd_1_15 (z_wb rfl).1, z_Fr.upf (R := R_X11_told_1) z_Fr.rf (fun a b h => z_up_k h) (fun b h => z_up_j h) (Or.inr (Or.inr (Or.inr (Or.inr (Or.inr (Or.inr (Or.inr (Or.inl (⟨rfl, by decide⟩))))))))), z_V16.fr p0 (z_up_j (by decide)) (z_up_k (by decide)) (z_up_k (by decide)) (fun _ => z_up_k (by decide)) (fun _ => z_up_k (by decide)), Or.inr rfl⟩
  refine T_if1 (by decide +kernel) ?_
  refine T_useN (sf_X11_refresh_1 hfu r0 c0 p0) (fun v8 s3 hq => ?_)
  obtain ⟨c4, f5, o9, rfl⟩ := hq
  refine T_vN ?_
  have f6 := z_Fr.tr (R := R_X11_told_1) z_Fr.rf f5 rs_X11_refresh_1__X11_told_1
  have t12 : s3 1 12 = r0 1 12 := f5 1 12 (by decide)
  have t13 : s3 6 6 = r0 6 6 := f5 6 6 (by decide)
  have t14 : s3 6 7 = r0 6 7 := f5 6 7 (by decide)
  have t15 : s3 33 2 = r0 33 2 := f5 33 2 (by decide)
  have u16 := CI_b c4 (k := 191) (j := 16) bd_191_16
  have u17 := CI_b c4 (k := 191) (j := 17) bd_191_17
  have u18 := CI_b c4 (k := 191) (j := 18) bd_191_18
  have u19 := CI_b c4 (k := 240) (j := 6) bd_240_6
  refine T_ite (fun h20 => ?_) (fun h20 => ?_)
  · refine T_if1 (by decide +kernel) ?_
    refine T_let 191 (by decide +kernel) ?_
    refine T_if1 (by decide +kernel) ?_
    refine T_leq (fun x21 e22 => ?_)
    have u23 := CI_b c4 (k := 191) (j := 16) bd_191_16
    exact T_ret ⟨c4, f6, (Or.inr o9), Or.inl (⟨x21, rfl, by omega, by omega⟩)⟩
  · refine T_ite (fun h24 => ?_) (fun h24 => ?_)
    · refine T_if1 (by decide +kernel) ?_
      refine T_let 6 (by decide +kernel) ?_
      refine T_if1 (by decide +kernel) ?_
      refine T_leq (fun x25 e26 => ?_)
      have u27 := CI_b c4 (k := 6) (j := 6) bd_6_6
      exact T_ret ⟨c4, f6, (Or.inr o9), Or.inl (⟨x25, rfl, by omega, by omega⟩)⟩
    · refine T_ite (fun h28 => ?_) (fun h28 => ?_)
      · refine T_if1 (by decide +kernel) ?_
        refine T_let 6 (by decide +kernel) ?_
        refine T_if1 (by decide +kernel) ?_
        refine T_leq (fun x29 e30 => ?_)
        have u31 := CI_b c4 (k := 6) (j := 7) bd_6_7
        exact T_ret ⟨c4, f6, (Or.inr o9), Or.inl (⟨x29, rfl, by omega, by omega⟩)⟩
      · refine T_ite (fun h32 => ?_) (fun h32 => ?_)
        · refine T_if1 (by decide +kernel) ?_
          refine T_let 240 (by decide +kernel) ?_
          refine T_if1 (by decide +kernel) ?_
          refine T_leq (fun x33 e34 => ?_)
          have u35 := CI_b c4 (k := 240) (j := 6) bd_240_6
          exact T_ret ⟨c4, f6, (Or.inr o9), Or.inl (⟨x33, rfl, by omega, by omega⟩)⟩
        · refine T_ite (fun h36 => ?_) (fun h36 => ?_)
          · refine T_if1 (by decide +kernel) ?_
            refine T_let 258 (by decide +kernel) ?_
            refine T_if1 (by decide +kernel) ?_
            refine T_useI (sf_X3_longest_258 hfu s3 c4) (fun v42 s37 hq => ?_)
            obtain ⟨c38, f39, ⟨x41, rfl, b43, b44⟩⟩ := hq
            refine T_vI ?_
            have f40 := z_Fr.tr (R := R_X11_told_1) f6 f39 (fun a b h => absurd h not_false)
            have t45 : s37 1 12 = s3 1 12 := f39 1 12 (by decide)
            have t46 : s37 6 6 = s3 6 6 := f39 6 6 (by decide)
            have t47 : s37 6 7 = s3 6 7 := f39 6 7 (by decide)
            have t48 : s37 33 2 = s3 33 2 := f39 33 2 (by decide)
            have t49 : s37 191 16 = s3 191 16 := f39 191 16 (by decide)
            have t50 : s37 191 17 = s3 191 17 := f39 191 17 (by decide)
            have t51 : s37 191 18 = s3 191 18 := f39 191 18 (by decide)
            have t52 : s37 240 6 = s3 240 6 := f39 240 6 (by decide)
            have r53 := z_U.fr o9 (f39 191 16 (by decide)) (f39 6 6 (by decide)) (fun b => f39 195 b (nr_X3_longest_258__195 b)) (fun b => f39 197 b (nr_X3_longest_258__197 b))
            exact T_ret ⟨c38, f40, (Or.inr r53), Or.inl (⟨x41, rfl, by omega, by omega⟩)⟩
          · refine T_ite (fun h54 => ?_) (fun h54 => ?_)
            · refine T_if1 (by decide +kernel) ?_
              refine T_let 240 (by decide +kernel) ?_
              refine T_if1 (by decide +kernel) ?_
              refine T_let 2 (by decide +kernel) ?_
              refine T_if1 (by decide +kernel) ?_
              refine T_get (by decide +kernel) (c := 3) (by decide +kernel) bdr_3 (by decide) c4 (fun x55 e56 b57 w58 => ?_)
              have l59 : z_ln 2 = 9 := by decide +kernel
              refine T_if1 (by decide +kernel) ?_
              refine T_useL (sf_X1_costs_240 hfu s3 c4 x55 (by omega)) (fun v65 s60 hq => ?_)
              obtain ⟨c61, f62, ⟨x64, rfl, b66, b67⟩⟩ := hq
              refine T_vL ?_
              have f63 := z_Fr.tr (R := R_X11_told_1) f6 f62 rs_X1_costs_240__X11_told_1
              have t68 : s60 1 12 = s3 1 12 := f62 1 12 (by decide)
              have t69 : s60 6 6 = s3 6 6 := f62 6 6 (by decide)
              have t70 : s60 6 7 = s3 6 7 := f62 6 7 (by decide)
              have t71 : s60 33 2 = s3 33 2 := f62 33 2 (by decide)
              have t72 : s60 191 16 = s3 191 16 := f62 191 16 (by decide)
              have t73 : s60 191 17 = s3 191 17 := f62 191 17 (by decide)
              have t74 : s60 191 18 = s3 191 18 := f62 191 18 (by decide)
              have t75 : s60 240 6 = s3 240 6 := f62 240 6 (by decide)
              have r76 := z_U.fr o9 (f62 191 16 (by decide)) (f62 6 6 (by decide)) (fun b => f62 195 b (nr_X1_costs_240__195 b)) (fun b => f62 197 b (nr_X1_costs_240__197 b))
              exact T_ret ⟨c61, f63, (Or.inr r76), Or.inl (⟨x64, rfl, by omega, by omega⟩)⟩
            · refine T_ite (fun h77 => ?_) (fun h77 => ?_)
              · refine T_if1 (by decide +kernel) ?_
                refine T_let 2 (by decide +kernel) ?_
                refine T_leq (fun x78 e79 => ?_)
                have w80 := z_wr e79
                refine T_if1 (by decide +kernel) ?_
                refine T_get (by decide +kernel) (c := 3) (by decide +kernel) bdr_3 (by decide) c4 (fun x81 e82 b83 w84 => ?_)
                have l85 : z_ln 2 = 9 := by decide +kernel
                exact T_ret ⟨c4, f6, (Or.inr o9), Or.inl (⟨x81, rfl, by omega, by omega⟩)⟩
              · refine T_ite (fun h86 => ?_) (fun h86 => ?_)
                · refine T_if1 (by decide +kernel) ?_
                  refine T_let 2 (by decide +kernel) ?_
                  refine T_leq (fun x87 e88 => ?_)
                  have w89 := z_wr e88
                  refine T_if1 (by decide +kernel) ?_
                  refine T_get (by decide +kernel) (c := 3) (by decide +kernel) bdr_3 (by decide) c4 (fun x90 e91 b92 w93 => ?_)
                  have l94 : z_ln 2 = 9 := by decide +kernel
                  exact T_ret ⟨c4, f6, (Or.inr o9), Or.inl (⟨x90, rfl, by omega, by omega⟩)⟩
                · refine T_ite (fun h95 => ?_) (fun h95 => ?_)
                  · refine T_if1 (by decide +kernel) ?_
                    refine T_let 2 (by decide +kernel) ?_
                    refine T_leq (fun x96 e97 => ?_)
                    have w98 := z_wr e97
                    refine T_if1 (by decide +kernel) ?_
                    refine T_get (by decide +kernel) (c := 3) (by decide +kernel) bdr_3 (by decide) c4 (fun x99 e100 b101 w102 => ?_)
                    have l103 : z_ln 2 = 9 := by decide +kernel
                    exact T_ret ⟨c4, f6, (Or.inr o9), Or.inl (⟨x99, rfl, by omega, by omega⟩)⟩
                  · refine T_ite (fun h104 => ?_) (fun h104 => ?_)
                    · refine T_if1 (by decide +kernel) ?_
                      refine T_let 2 (by decide +kernel) ?_
                      refine T_leq (fun x105 e106 => ?_)
                      have w107 := z_wr e106
                      refine T_if1 (by decide +kernel) ?_
                      refine T_get (by decide +kernel) (c := 3) (by decide +kernel) bdr_3 (by decide) c4 (fun x108 e109 b110 w111 => ?_)
                      have l112 : z_ln 2 = 9 := by decide +kernel
                      exact T_ret ⟨c4, f6, (Or.inr o9), Or.inl (⟨x108, rfl, by omega, by omega⟩)⟩
                    · refine T_ite (fun h113 => ?_) (fun h113 => ?_)
                      · refine T_if1 (by decide +kernel) ?_
                        refine T_let 2 (by decide +kernel) ?_
                        refine T_leq (fun x114 e115 => ?_)
                        have w116 := z_wr e115
                        refine T_if1 (by decide +kernel) ?_
                        refine T_get (by decide +kernel) (c := 3) (by decide +kernel) bdr_3 (by decide) c4 (fun x117 e118 b119 w120 => ?_)
                        have l121 : z_ln 2 = 9 := by decide +kernel
                        exact T_ret ⟨c4, f6, (Or.inr o9), Or.inl (⟨x117, rfl, by omega, by omega⟩)⟩
                      · refine T_ite (fun h122 => ?_) (fun h122 => ?_)
                        · refine T_if1 (by decide +kernel) ?_
                          refine T_let 2 (by decide +kernel) ?_
                          refine T_leq (fun x123 e124 => ?_)
                          have w125 := z_wr e124
                          refine T_if1 (by decide +kernel) ?_
                          refine T_get (by decide +kernel) (c := 3) (by decide +kernel) bdr_3 (by decide) c4 (fun x126 e127 b128 w129 => ?_)
                          have l130 : z_ln 2 = 9 := by decide +kernel
                          exact T_ret ⟨c4, f6, (Or.inr o9), Or.inl (⟨x126, rfl, by omega, by omega⟩)⟩
                        · refine T_ite (fun h131 => ?_) (fun h131 => ?_)
                          · refine T_if1 (by decide +kernel) ?_
                            refine T_let 2 (by decide +kernel) ?_
                            refine T_leq (fun x132 e133 => ?_)
                            have w134 := z_wr e133
                            refine T_if1 (by decide +kernel) ?_
                            refine T_get (by decide +kernel) (c := 3) (by decide +kernel) bdr_3 (by decide) c4 (fun x135 e136 b137 w138 => ?_)
                            have l139 : z_ln 2 = 9 := by decide +kernel
                            exact T_ret ⟨c4, f6, (Or.inr o9), Or.inl (⟨x135, rfl, by omega, by omega⟩)⟩
                          · refine T_ite (fun h140 => ?_) (fun h140 => ?_)
                            · refine T_if1 (by decide +kernel) ?_
                              refine T_let 33 (by decide +kernel) ?_
                              refine T_if1 (by decide +kernel) ?_
                              refine T_leq (fun x141 e142 => ?_)
                              have u143 := CI_b c4 (k := 33) (j := 2) bd_33_2
                              exact T_ret ⟨c4, f6, (Or.inr o9), Or.inl (⟨x141, rfl, by omega, by omega⟩)⟩
                            · refine T_ite (fun h144 => ?_) (fun h144 => ?_)
                              · refine T_if1 (by decide +kernel) ?_
                                refine T_leq (fun x145 e146 => ?_)
                                have u147 := CI_b c4 (k := 1) (j := 12) bd_1_12
                                exact T_ret ⟨c4, f6, (Or.inr o9), Or.inl (⟨x145, rfl, by omega, by omega⟩)⟩
                              · refine T_ite (fun h148 => ?_) (fun h148 => ?_)
                                · refine T_if1 (by decide +kernel) ?_
                                  refine T_let 240 (by decide +kernel) ?_
                                  refine T_if1 (by decide +kernel) ?_
                                  refine T_let 2 (by decide +kernel) ?_
                                  refine T_if1 (by decide +kernel) ?_
                                  refine T_get (by decide +kernel) (c := 3) (by decide +kernel) bdr_3 (by decide) c4 (fun x149 e150 b151 w152 => ?_)
                                  have l153 : z_ln 2 = 9 := by decide +kernel
                                  refine T_if1 (by decide +kernel) ?_
                                  refine T_useI (sf_X1_tooLong_240 hfu s3 c4 x149 (by omega)) (fun v159 s154 hq => ?_)
                                  obtain ⟨c155, f156, ⟨x158, rfl, b160, b161⟩⟩ := hq
                                  refine T_vI ?_
                                  have f157 := z_Fr.tr (R := R_X11_told_1) f6 f156 rs_X1_tooLong_240__X11_told_1
                                  have t162 : s154 1 12 = s3 1 12 := f156 1 12 (by decide)
                                  have t163 : s154 6 6 = s3 6 6 := f156 6 6 (by decide)
                                  have t164 : s154 6 7 = s3 6 7 := f156 6 7 (by decide)
                                  have t165 : s154 33 2 = s3 33 2 := f156 33 2 (by decide)
                                  have t166 : s154 191 16 = s3 191 16 := f156 191 16 (by decide)
                                  have t167 : s154 191 17 = s3 191 17 := f156 191 17 (by decide)
                                  have t168 : s154 191 18 = s3 191 18 := f156 191 18 (by decide)
                                  have t169 : s154 240 6 = s3 240 6 := f156 240 6 (by decide)
                                  have r170 := z_U.fr o9 (f156 191 16 (by decide)) (f156 6 6 (by decide)) (fun b => f156 195 b (nr_X1_tooLong_240__195 b)) (fun b => f156 197 b (nr_X1_tooLong_240__197 b))
                                  exact T_ret ⟨c155, f157, (Or.inr r170), Or.inl (⟨x158, rfl, by omega, by omega⟩)⟩
                                · refine T_ite (fun h171 => ?_) (fun h171 => ?_)
                                  · refine T_if1 (by decide +kernel) ?_
                                    refine T_let 2 (by decide +kernel) ?_
                                    refine T_if1 (by decide +kernel) ?_
                                    refine T_get (by decide +kernel) (c := 3) (by decide +kernel) bdr_3 (by decide) c4 (fun x172 e173 b174 w175 => ?_)
                                    have l176 : z_ln 2 = 9 := by decide +kernel
                                    exact T_ret ⟨c4, f6, (Or.inr o9), Or.inl (⟨x172, rfl, by omega, by omega⟩)⟩
                                  · refine T_ite (fun h177 => ?_) (fun h177 => ?_)
                                    · refine T_if1 (by decide +kernel) ?_
                                      refine T_let 2 (by decide +kernel) ?_
                                      refine T_if1 (by decide +kernel) ?_
                                      refine T_get (by decide +kernel) (c := 3) (by decide +kernel) bdr_3 (by decide) c4 (fun x178 e179 b180 w181 => ?_)
                                      have l182 : z_ln 2 = 9 := by decide +kernel
                                      exact T_ret ⟨c4, f6, (Or.inr o9), Or.inl (⟨x178, rfl, by omega, by omega⟩)⟩
                                    · refine T_ite (fun h183 => ?_) (fun h183 => ?_)
                                      · refine T_if1 (by decide +kernel) ?_
                                        refine T_let 191 (by decide +kernel) ?_
                                        refine T_if1 (by decide +kernel) ?_
                                        refine T_leq (fun x184 e185 => ?_)
                                        have u186 := CI_b c4 (k := 191) (j := 17) bd_191_17
                                        exact T_ret ⟨c4, f6, (Or.inr o9), Or.inl (⟨x184, rfl, by omega, by omega⟩)⟩
                                      · refine T_ite (fun h187 => ?_) (fun h187 => ?_)
                                        · refine T_if1 (by decide +kernel) ?_
                                          refine T_let 191 (by decide +kernel) ?_
                                          refine T_if1 (by decide +kernel) ?_
                                          refine T_leq (fun x188 e189 => ?_)
                                          have u190 := CI_b c4 (k := 191) (j := 18) bd_191_18
                                          exact T_ret ⟨c4, f6, (Or.inr o9), Or.inl (⟨x188, rfl, by omega, by omega⟩)⟩
                                        · refine T_if1 (by decide +kernel) ?_
                                          refine T_let 2 (by decide +kernel) ?_
                                          refine T_leq (fun x191 e192 => ?_)
                                          have w193 := z_wr e192
                                          refine T_if1 (by decide +kernel) ?_
                                          refine T_get (by decide +kernel) (c := 3) (by decide +kernel) bdr_3 (by decide) c4 (fun x194 e195 b196 w197 => ?_)
                                          have l198 : z_ln 2 = 9 := by decide +kernel
                                          exact T_ret ⟨c4, f6, (Or.inr o9), Or.inl (⟨x194, rfl, by omega, by omega⟩)⟩
abbrev R_X11_unit_1 (a b : Int) : Prop := (193 ≤ a ∧ a ≤ 219) ∨ (222 ≤ a ∧ a ≤ 222) ∨ (225 ≤ a ∧ a ≤ 239) ∨ (242 ≤ a ∧ a ≤ 244) ∨ (248 ≤ a ∧ a ≤ 248) ∨ (260 ≤ a ∧ a ≤ 278) ∨ (281 ≤ a ∧ a ≤ 295) ∨ (a = 1 ∧ (b = 14 ∨ b = 15 ∨ b = 16 ∨ b = 17 ∨ b = 18)) ∨ (a = 191 ∧ (b = 16 ∨ b = 17 ∨ b = 18)) ∨ (a = 220 ∧ (b = 4 ∨ b = 5)) ∨ (a = 223 ∧ (b = 9)) ∨ (a = 240 ∧ (b = 6)) ∨ (a = 279 ∧ (b = 9))
abbrev P_X11_unit_1 (r0 : z_M) : z_V → z_M → Prop := fun v s' => z_CI s' ∧ z_Fr R_X11_unit_1 r0 s' ∧ (z_V16 s') ∧ ((∃ x, v = vI x ∧ -2147483648 ≤ x ∧ x ≤ 2147483647) ∨ v = vX 0 ∨ v = vX 1)
theorem rs_X11_refresh_1__X11_unit_1 (a b : Int) (h : R_X11_refresh_1 a b) : R_X11_unit_1 a b := (h.elim (fun h => (Or.inl (⟨by omega, by omega⟩))) (fun h => (h.elim (fun h => (Or.inr (Or.inl (⟨by omega, by omega⟩)))) (fun h => (h.elim (fun h => (Or.inr (Or.inr (Or.inl (⟨by omega, by omega⟩))))) (fun h => (h.elim (fun h => (Or.inr (Or.inr (Or.inr (Or.inl (⟨by omega, by omega⟩)))))) (fun h => (h.elim (fun h => (Or.inr (Or.inr (Or.inr (Or.inr (Or.inl (⟨by omega, by omega⟩))))))) (fun h => (h.elim (fun h => (Or.inr (Or.inr (Or.inr (Or.inr (Or.inr (Or.inl (⟨by omega, by omega⟩)))))))) (fun h => (h.elim (fun h => (Or.inr (Or.inr (Or.inr (Or.inr (Or.inr (Or.inr (Or.inl (⟨by omega, by omega⟩))))))))) (fun h => (h.elim (fun h => (Or.inr (Or.inr (Or.inr (Or.inr (Or.inr (Or.inr (Or.inr (Or.inl (⟨h.1, by omega⟩)))))))))) (fun h => (h.elim (fun h => (Or.inr (Or.inr (Or.inr (Or.inr (Or.inr (Or.inr (Or.inr (Or.inr (Or.inl (⟨h.1, by omega⟩))))))))))) (fun h => (h.elim (fun h => (Or.inr (Or.inr (Or.inr (Or.inr (Or.inr (Or.inr (Or.inr (Or.inr (Or.inr (Or.inl (⟨h.1, by omega⟩)))))))))))) (fun h => (h.elim (fun h => (Or.inr (Or.inr (Or.inr (Or.inr (Or.inr (Or.inr (Or.inr (Or.inr (Or.inr (Or.inr (Or.inl (⟨h.1, by omega⟩))))))))))))) (fun h => (h.elim (fun h => (Or.inr (Or.inr (Or.inr (Or.inr (Or.inr (Or.inr (Or.inr (Or.inr (Or.inr (Or.inr (Or.inr (Or.inl (⟨h.1, by omega⟩)))))))))))))) (fun h => (Or.inr (Or.inr (Or.inr (Or.inr (Or.inr (Or.inr (Or.inr (Or.inr (Or.inr (Or.inr (Or.inr (Or.inr (⟨h.1, by omega⟩)))))))))))))))))))))))))))))))))))))
theorem sf_X11_unit_1 {fu : Nat} (hfu : 8589934592 ≤ fu) (r0 : z_M) (c0 : z_CI r0) (a1 : Int) (a2 : Int) (b1 : -2147483648 ≤ a1 ∧ a1 ≤ 2147483647) (b2 : -2147483648 ≤ a2 ∧ a2 ≤ 2147483647) (p0 : z_V16 r0) : z_T (fX11_unit fu r0 1 a1 a2) (P_X11_unit_1 r0) := by
  refine T_of (fX11_unit.eq_1 ..) ?_
  refine T_if1 (by decide +kernel) ?_
  refine T_useN (sf_X11_refresh_1 hfu r0 c0 p0) (fun v6 s1 hq => ?_)
  obtain ⟨c2, f3, o7, rfl⟩ := hq
  refine T_vN ?_
  have f4 := z_Fr.tr (R := R_X11_unit_1) z_Fr.rf f3 rs_X11_refresh_1__X11_unit_1
  have u10 := CI_b c2 (k := 191) (j := 16) bd_191_16
  refine T_if1 (by decide +kernel) ?_
  refine T_let 191 (by decide +kernel) ?_
  refine T_if1 (by decide +kernel) ?_
  refine T_leq (fun x11 e12 => ?_)
  have u13 := CI_b c2 (k := 191) (j := 16) bd_191_16
  refine T_if1 (by decide +kernel) ?_
  refine T_ne ?_ (fun h14 h15 => ?_)
  · exact T_ret ⟨CI_up c2 bd_1_14 (z_wb rfl).1, z_Fr.upf (R := R_X11_unit_1) f4 (fun a b h => z_up_k h) (fun b h => z_up_j h) (Or.inr (Or.inr (Or.inr (Or.inr (Or.inr (Or.inr (Or.inr (Or.inl (⟨rfl, by decide⟩))))))))), Or.inr (z_U.fr o7 (z_up_k (by decide)) (z_up_k (by decide)) (fun _ => z_up_k (by decide)) (fun _ => z_up_k (by decide))), Or.inr (Or.inl rfl)⟩
  refine T_if1 (by decide +kernel) ?_
  refine T_nw ?_ (fun h16 h17 => ?_)
  · exact T_ret ⟨CI_up c2 bd_1_15 (z_wb rfl).1, z_Fr.upf (R := R_X11_unit_1) f4 (fun a b h => z_up_k h) (fun b h => z_up_j h) (Or.inr (Or.inr (Or.inr (Or.inr (Or.inr (Or.inr (Or.inr (Or.inl (⟨rfl, by decide⟩))))))))), Or.inr (z_U.fr o7 (z_up_k (by decide)) (z_up_k (by decide)) (fun _ => z_up_k (by decide)) (fun _ => z_up_k (by decide))), Or.inr (Or.inr rfl)⟩
  refine T_ite (fun h18 => ?_) (fun h18 => ?_)
  · refine T_if1 (by decide +kernel) ?_
    refine T_let 191 (by decide +kernel) ?_
    refine T_if1 (by decide +kernel) ?_
    refine T_let 192 (by decide +kernel) ?_
    refine T_if1 (by decide +kernel) ?_
    refine T_get (by decide +kernel) (c := 193) (by decide +kernel) bdr_193 (by decide) c2 (fun x19 e20 b21 w22 => ?_)
    have l23 : z_ln 192 = 200 := by decide +kernel
    exact T_ret ⟨c2, f4, (Or.inr o7), Or.inl (⟨x19, rfl, by omega, by omega⟩)⟩
  · refine T_ite (fun h24 => ?_) (fun h24 => ?_)
    · refine T_if1 (by decide +kernel) ?_
      refine T_let 191 (by decide +kernel) ?_
      refine T_if1 (by decide +kernel) ?_
      refine T_let 194 (by decide +kernel) ?_
      refine T_if1 (by decide +kernel) ?_
      refine T_get (by decide +kernel) (c := 195) (by decide +kernel) bdr_195 (by decide) c2 (fun x25 e26 b27 w28 => ?_)
      have l29 : z_ln 194 = 200 := by decide +kernel
      exact T_ret ⟨c2, f4, (Or.inr o7), Or.inl (⟨x25, rfl, by omega, by omega⟩)⟩
    · refine T_ite (fun h30 => ?_) (fun h30 => ?_)
      · refine T_if1 (by decide +kernel) ?_
        refine T_let 191 (by decide +kernel) ?_
        refine T_if1 (by decide +kernel) ?_
        refine T_let 196 (by decide +kernel) ?_
        refine T_if1 (by decide +kernel) ?_
        refine T_get (by decide +kernel) (c := 197) (by decide +kernel) bdr_197 (by decide) c2 (fun x31 e32 b33 w34 => ?_)
        have l35 : z_ln 196 = 200 := by decide +kernel
        exact T_ret ⟨c2, f4, (Or.inr o7), Or.inl (⟨x31, rfl, by omega, by omega⟩)⟩
      · refine T_ite (fun h36 => ?_) (fun h36 => ?_)
        · refine T_if1 (by decide +kernel) ?_
          refine T_let 258 (by decide +kernel) ?_
          refine T_if1 (by decide +kernel) ?_
          refine T_let 263 (by decide +kernel) ?_
          refine T_if1 (by decide +kernel) ?_
          refine T_get (by decide +kernel) (c := 264) (by decide +kernel) bdr_264 (by decide) c2 (fun x37 e38 b39 w40 => ?_)
          have l41 : z_ln 263 = 200 := by decide +kernel
          exact T_ret ⟨c2, f4, (Or.inr o7), Or.inl (⟨x37, rfl, by omega, by omega⟩)⟩
        · refine T_ite (fun h42 => ?_) (fun h42 => ?_)
          · refine T_if1 (by decide +kernel) ?_
            refine T_let 258 (by decide +kernel) ?_
            refine T_if1 (by decide +kernel) ?_
            refine T_let 259 (by decide +kernel) ?_
            refine T_if1 (by decide +kernel) ?_
            refine T_get (by decide +kernel) (c := 260) (by decide +kernel) bdr_260 (by decide) c2 (fun x43 e44 b45 w46 => ?_)
            have l47 : z_ln 259 = 200 := by decide +kernel
            exact T_ret ⟨c2, f4, (Or.inr o7), Or.inl (⟨x43, rfl, by omega, by omega⟩)⟩
          · refine T_ite (fun h48 => ?_) (fun h48 => ?_)
            · refine T_if1 (by decide +kernel) ?_
              refine T_let 258 (by decide +kernel) ?_
              refine T_if1 (by decide +kernel) ?_
              refine T_let 261 (by decide +kernel) ?_
              refine T_if1 (by decide +kernel) ?_
              refine T_get (by decide +kernel) (c := 262) (by decide +kernel) bdr_262 (by decide) c2 (fun x49 e50 b51 w52 => ?_)
              have l53 : z_ln 261 = 200 := by decide +kernel
              exact T_ret ⟨c2, f4, (Or.inr o7), Or.inl (⟨x49, rfl, by omega, by omega⟩)⟩
            · refine T_ite (fun h54 => ?_) (fun h54 => ?_)
              · refine T_if1 (by decide +kernel) ?_
                refine T_let 191 (by decide +kernel) ?_
                refine T_if1 (by decide +kernel) ?_
                refine T_let 200 (by decide +kernel) ?_
                refine T_if1 (by decide +kernel) ?_
                refine T_get (by decide +kernel) (c := 201) (by decide +kernel) bdr_201 (by decide) c2 (fun x55 e56 b57 w58 => ?_)
                have l59 : z_ln 200 = 200 := by decide +kernel
                exact T_ret ⟨c2, f4, (Or.inr o7), Or.inl (⟨x55, rfl, by omega, by omega⟩)⟩
              · refine T_if1 (by decide +kernel) ?_
                refine T_let 258 (by decide +kernel) ?_
                refine T_if1 (by decide +kernel) ?_
                refine T_let 265 (by decide +kernel) ?_
                refine T_if1 (by decide +kernel) ?_
                refine T_get (by decide +kernel) (c := 266) (by decide +kernel) bdr_266 (by decide) c2 (fun x60 e61 b62 w63 => ?_)
                have l64 : z_ln 265 = 200 := by decide +kernel
                exact T_ret ⟨c2, f4, (Or.inr o7), Or.inl (⟨x60, rfl, by omega, by omega⟩)⟩
abbrev R_X11_sign_1 (a b : Int) : Prop := (193 ≤ a ∧ a ≤ 219) ∨ (222 ≤ a ∧ a ≤ 222) ∨ (225 ≤ a ∧ a ≤ 239) ∨ (242 ≤ a ∧ a ≤ 244) ∨ (248 ≤ a ∧ a ≤ 248) ∨ (260 ≤ a ∧ a ≤ 278) ∨ (281 ≤ a ∧ a ≤ 295) ∨ (a = 1 ∧ (b = 14 ∨ b = 15 ∨ b = 16 ∨ b = 17 ∨ b = 18)) ∨ (a = 191 ∧ (b = 16 ∨ b = 17 ∨ b = 18)) ∨ (a = 220 ∧ (b = 4 ∨ b = 5)) ∨ (a = 223 ∧ (b = 9)) ∨ (a = 240 ∧ (b = 6)) ∨ (a = 279 ∧ (b = 9))
abbrev P_X11_sign_1 (r0 : z_M) : z_V → z_M → Prop := fun v s' => z_CI s' ∧ z_Fr R_X11_sign_1 r0 s' ∧ (z_V16 s') ∧ ((∃ x, v = vI x ∧ -2147483648 ≤ x ∧ x ≤ 2147483647) ∨ v = vX 0 ∨ v = vX 1)
theorem rs_X11_refresh_1__X11_sign_1 (a b : Int) (h : R_X11_refresh_1 a b) : R_X11_sign_1 a b := (h.elim (fun h => (Or.inl (⟨by omega, by omega⟩))) (fun h => (h.elim (fun h => (Or.inr (Or.inl (⟨by omega, by omega⟩)))) (fun h => (h.elim (fun h => (Or.inr (Or.inr (Or.inl (⟨by omega, by omega⟩))))) (fun h => (h.elim (fun h => (Or.inr (Or.inr (Or.inr (Or.inl (⟨by omega, by omega⟩)))))) (fun h => (h.elim (fun h => (Or.inr (Or.inr (Or.inr (Or.inr (Or.inl (⟨by omega, by omega⟩))))))) (fun h => (h.elim (fun h => (Or.inr (Or.inr (Or.inr (Or.inr (Or.inr (Or.inl (⟨by omega, by omega⟩)))))))) (fun h => (h.elim (fun h => (Or.inr (Or.inr (Or.inr (Or.inr (Or.inr (Or.inr (Or.inl (⟨by omega, by omega⟩))))))))) (fun h => (h.elim (fun h => (Or.inr (Or.inr (Or.inr (Or.inr (Or.inr (Or.inr (Or.inr (Or.inl (⟨h.1, by omega⟩)))))))))) (fun h => (h.elim (fun h => (Or.inr (Or.inr (Or.inr (Or.inr (Or.inr (Or.inr (Or.inr (Or.inr (Or.inl (⟨h.1, by omega⟩))))))))))) (fun h => (h.elim (fun h => (Or.inr (Or.inr (Or.inr (Or.inr (Or.inr (Or.inr (Or.inr (Or.inr (Or.inr (Or.inl (⟨h.1, by omega⟩)))))))))))) (fun h => (h.elim (fun h => (Or.inr (Or.inr (Or.inr (Or.inr (Or.inr (Or.inr (Or.inr (Or.inr (Or.inr (Or.inr (Or.inl (⟨h.1, by omega⟩))))))))))))) (fun h => (h.elim (fun h => (Or.inr (Or.inr (Or.inr (Or.inr (Or.inr (Or.inr (Or.inr (Or.inr (Or.inr (Or.inr (Or.inr (Or.inl (⟨h.1, by omega⟩)))))))))))))) (fun h => (Or.inr (Or.inr (Or.inr (Or.inr (Or.inr (Or.inr (Or.inr (Or.inr (Or.inr (Or.inr (Or.inr (Or.inr (⟨h.1, by omega⟩)))))))))))))))))))))))))))))))))))))
theorem nr_X10_markOf_191__195 (b : Int) : ¬ R_X10_markOf_191 195 b := not_false
theorem nr_X10_markOf_191__197 (b : Int) : ¬ R_X10_markOf_191 197 b := not_false
theorem sf_X11_sign_1 {fu : Nat} (hfu : 8589934592 ≤ fu) (r0 : z_M) (c0 : z_CI r0) (a1 : Int) (a2 : Int) (b1 : -2147483648 ≤ a1 ∧ a1 ≤ 2147483647) (b2 : -2147483648 ≤ a2 ∧ a2 ≤ 2147483647) (p0 : z_V16 r0) : z_T (fX11_sign fu r0 1 a1 a2) (P_X11_sign_1 r0) := by
  refine T_of (fX11_sign.eq_1 ..) ?_
  refine T_if1 (by decide +kernel) ?_
  refine T_useN (sf_X11_refresh_1 hfu r0 c0 p0) (fun v6 s1 hq => ?_)
  obtain ⟨c2, f3, o7, rfl⟩ := hq
  refine T_vN ?_
  have f4 := z_Fr.tr (R := R_X11_sign_1) z_Fr.rf f3 rs_X11_refresh_1__X11_sign_1
  have t10 : s1 6 6 = r0 6 6 := f3 6 6 (by decide)
  refine T_if1 (by decide +kernel) ?_
  refine T_let 6 (by decide +kernel) ?_
  refine T_if1 (by decide +kernel) ?_
  refine T_leq (fun x11 e12 => ?_)
  have u13 := CI_b c2 (k := 6) (j := 6) bd_6_6
  refine T_if1 (by decide +kernel) ?_
  refine T_ne ?_ (fun h14 h15 => ?_)
  · exact T_ret ⟨CI_up c2 bd_1_14 (z_wb rfl).1, z_Fr.upf (R := R_X11_sign_1) f4 (fun a b h => z_up_k h) (fun b h => z_up_j h) (Or.inr (Or.inr (Or.inr (Or.inr (Or.inr (Or.inr (Or.inr (Or.inl (⟨rfl, by decide⟩))))))))), Or.inr (z_U.fr o7 (z_up_k (by decide)) (z_up_k (by decide)) (fun _ => z_up_k (by decide)) (fun _ => z_up_k (by decide))), Or.inr (Or.inl rfl)⟩
  refine T_if1 (by decide +kernel) ?_
  refine T_nw ?_ (fun h16 h17 => ?_)
  · exact T_ret ⟨CI_up c2 bd_1_15 (z_wb rfl).1, z_Fr.upf (R := R_X11_sign_1) f4 (fun a b h => z_up_k h) (fun b h => z_up_j h) (Or.inr (Or.inr (Or.inr (Or.inr (Or.inr (Or.inr (Or.inr (Or.inl (⟨rfl, by decide⟩))))))))), Or.inr (z_U.fr o7 (z_up_k (by decide)) (z_up_k (by decide)) (fun _ => z_up_k (by decide)) (fun _ => z_up_k (by decide))), Or.inr (Or.inr rfl)⟩
  refine T_ite (fun h18 => ?_) (fun h18 => ?_)
  · refine T_if1 (by decide +kernel) ?_
    refine T_let 6 (by decide +kernel) ?_
    refine T_if1 (by decide +kernel) ?_
    refine T_let 7 (by decide +kernel) ?_
    refine T_if1 (by decide +kernel) ?_
    refine T_get (by decide +kernel) (c := 8) (by decide +kernel) bdr_8 (by decide) c2 (fun x19 e20 b21 w22 => ?_)
    have l23 : z_ln 7 = 200 := by decide +kernel
    exact T_ret ⟨c2, f4, (Or.inr o7), Or.inl (⟨x19, rfl, by omega, by omega⟩)⟩
  · refine T_ite (fun h24 => ?_) (fun h24 => ?_)
    · refine T_if1 (by decide +kernel) ?_
      refine T_let 191 (by decide +kernel) ?_
      refine T_if1 (by decide +kernel) ?_
      refine T_let 214 (by decide +kernel) ?_
      refine T_if1 (by decide +kernel) ?_
      refine T_get (by decide +kernel) (c := 215) (by decide +kernel) bdr_215 (by decide) c2 (fun x25 e26 b27 w28 => ?_)
      have l29 : z_ln 214 = 200 := by decide +kernel
      exact T_ret ⟨c2, f4, (Or.inr o7), Or.inl (⟨x25, rfl, by omega, by omega⟩)⟩
    · refine T_ite (fun h30 => ?_) (fun h30 => ?_)
      · refine T_if1 (by decide +kernel) ?_
        refine T_let 258 (by decide +kernel) ?_
        refine T_if1 (by decide +kernel) ?_
        refine T_let 259 (by decide +kernel) ?_
        refine T_if1 (by decide +kernel) ?_
        refine T_let 191 (by decide +kernel) ?_
        refine T_if1 (by decide +kernel) ?_
        refine T_let 214 (by decide +kernel) ?_
        refine T_if1 (by decide +kernel) ?_
        refine T_get (by decide +kernel) (c := 215) (by decide +kernel) bdr_215 (by decide) c2 (fun x31 e32 b33 w34 => ?_)
        have l35 : z_ln 214 = 200 := by decide +kernel
        refine T_if1 (by decide +kernel) ?_
        refine T_get (by decide +kernel) (c := 260) (by decide +kernel) bdr_260 (by decide) c2 (fun x36 e37 b38 w39 => ?_)
        have l40 : z_ln 259 = 200 := by decide +kernel
        exact T_ret ⟨c2, f4, (Or.inr o7), Or.inl (⟨x36, rfl, by omega, by omega⟩)⟩
      · refine T_ite (fun h41 => ?_) (fun h41 => ?_)
        · refine T_if1 (by decide +kernel) ?_
          refine T_let 258 (by decide +kernel) ?_
          refine T_if1 (by decide +kernel) ?_
          refine T_let 267 (by decide +kernel) ?_
          refine T_if1 (by decide +kernel) ?_
          refine T_get (by decide +kernel) (c := 268) (by decide +kernel) bdr_268 (by decide) c2 (fun x42 e43 b44 w45 => ?_)
          have l46 : z_ln 267 = 200 := by decide +kernel
          exact T_ret ⟨c2, f4, (Or.inr o7), Or.inl (⟨x42, rfl, by omega, by omega⟩)⟩
        · refine T_ite (fun h47 => ?_) (fun h47 => ?_)
          · refine T_if1 (by decide +kernel) ?_
            refine T_let 191 (by decide +kernel) ?_
            refine T_if1 (by decide +kernel) ?_
            refine T_let 218 (by decide +kernel) ?_
            refine T_if1 (by decide +kernel) ?_
            refine T_get (by decide +kernel) (c := 219) (by decide +kernel) bdr_219 (by decide) c2 (fun x48 e49 b50 w51 => ?_)
            have l52 : z_ln 218 = 200 := by decide +kernel
            exact T_ret ⟨c2, f4, (Or.inr o7), Or.inl (⟨x48, rfl, by omega, by omega⟩)⟩
          · refine T_ite (fun h53 => ?_) (fun h53 => ?_)
            · refine T_if1 (by decide +kernel) ?_
              refine T_let 191 (by decide +kernel) ?_
              refine T_if1 (by decide +kernel) ?_
              refine T_useI (sf_X10_markOf_191 hfu s1 c2 a1 0 (by omega) (by omega)) (fun v59 s54 hq => ?_)
              obtain ⟨c55, f56, ⟨x58, rfl, b60, b61⟩⟩ := hq
              refine T_vI ?_
              have f57 := z_Fr.tr (R := R_X11_sign_1) f4 f56 (fun a b h => absurd h not_false)
              have t62 : s54 6 6 = s1 6 6 := f56 6 6 (by decide)
              have r63 := z_U.fr o7 (f56 191 16 (by decide)) (f56 6 6 (by decide)) (fun b => f56 195 b (nr_X10_markOf_191__195 b)) (fun b => f56 197 b (nr_X10_markOf_191__197 b))
              exact T_ret ⟨c55, f57, (Or.inr r63), Or.inl (⟨x58, rfl, by omega, by omega⟩)⟩
            · refine T_if1 (by decide +kernel) ?_
              refine T_let 191 (by decide +kernel) ?_
              refine T_if1 (by decide +kernel) ?_
              refine T_useI (sf_X10_markOf_191 hfu s1 c2 a1 1 (by omega) (by omega)) (fun v69 s64 hq => ?_)
              obtain ⟨c65, f66, ⟨x68, rfl, b70, b71⟩⟩ := hq
              refine T_vI ?_
              have f67 := z_Fr.tr (R := R_X11_sign_1) f4 f66 (fun a b h => absurd h not_false)
              have t72 : s64 6 6 = s1 6 6 := f66 6 6 (by decide)
              have r73 := z_U.fr o7 (f66 191 16 (by decide)) (f66 6 6 (by decide)) (fun b => f66 195 b (nr_X10_markOf_191__195 b)) (fun b => f66 197 b (nr_X10_markOf_191__197 b))
              exact T_ret ⟨c65, f67, (Or.inr r73), Or.inl (⟨x68, rfl, by omega, by omega⟩)⟩
abbrev R_X11_line_1 (a b : Int) : Prop := (193 ≤ a ∧ a ≤ 219) ∨ (222 ≤ a ∧ a ≤ 222) ∨ (225 ≤ a ∧ a ≤ 239) ∨ (242 ≤ a ∧ a ≤ 244) ∨ (248 ≤ a ∧ a ≤ 248) ∨ (260 ≤ a ∧ a ≤ 278) ∨ (281 ≤ a ∧ a ≤ 295) ∨ (a = 1 ∧ (b = 14 ∨ b = 15 ∨ b = 16 ∨ b = 17 ∨ b = 18)) ∨ (a = 191 ∧ (b = 16 ∨ b = 17 ∨ b = 18)) ∨ (a = 220 ∧ (b = 4 ∨ b = 5)) ∨ (a = 223 ∧ (b = 9)) ∨ (a = 240 ∧ (b = 6)) ∨ (a = 279 ∧ (b = 9))
abbrev P_X11_line_1 (r0 : z_M) : z_V → z_M → Prop := fun v s' => z_CI s' ∧ z_Fr R_X11_line_1 r0 s' ∧ (z_V16 s') ∧ ((∃ x, v = vI x ∧ -2147483648 ≤ x ∧ x ≤ 2147483647) ∨ v = vX 0 ∨ v = vX 1)
theorem rs_X11_refresh_1__X11_line_1 (a b : Int) (h : R_X11_refresh_1 a b) : R_X11_line_1 a b := (h.elim (fun h => (Or.inl (⟨by omega, by omega⟩))) (fun h => (h.elim (fun h => (Or.inr (Or.inl (⟨by omega, by omega⟩)))) (fun h => (h.elim (fun h => (Or.inr (Or.inr (Or.inl (⟨by omega, by omega⟩))))) (fun h => (h.elim (fun h => (Or.inr (Or.inr (Or.inr (Or.inl (⟨by omega, by omega⟩)))))) (fun h => (h.elim (fun h => (Or.inr (Or.inr (Or.inr (Or.inr (Or.inl (⟨by omega, by omega⟩))))))) (fun h => (h.elim (fun h => (Or.inr (Or.inr (Or.inr (Or.inr (Or.inr (Or.inl (⟨by omega, by omega⟩)))))))) (fun h => (h.elim (fun h => (Or.inr (Or.inr (Or.inr (Or.inr (Or.inr (Or.inr (Or.inl (⟨by omega, by omega⟩))))))))) (fun h => (h.elim (fun h => (Or.inr (Or.inr (Or.inr (Or.inr (Or.inr (Or.inr (Or.inr (Or.inl (⟨h.1, by omega⟩)))))))))) (fun h => (h.elim (fun h => (Or.inr (Or.inr (Or.inr (Or.inr (Or.inr (Or.inr (Or.inr (Or.inr (Or.inl (⟨h.1, by omega⟩))))))))))) (fun h => (h.elim (fun h => (Or.inr (Or.inr (Or.inr (Or.inr (Or.inr (Or.inr (Or.inr (Or.inr (Or.inr (Or.inl (⟨h.1, by omega⟩)))))))))))) (fun h => (h.elim (fun h => (Or.inr (Or.inr (Or.inr (Or.inr (Or.inr (Or.inr (Or.inr (Or.inr (Or.inr (Or.inr (Or.inl (⟨h.1, by omega⟩))))))))))))) (fun h => (h.elim (fun h => (Or.inr (Or.inr (Or.inr (Or.inr (Or.inr (Or.inr (Or.inr (Or.inr (Or.inr (Or.inr (Or.inr (Or.inl (⟨h.1, by omega⟩)))))))))))))) (fun h => (Or.inr (Or.inr (Or.inr (Or.inr (Or.inr (Or.inr (Or.inr (Or.inr (Or.inr (Or.inr (Or.inr (Or.inr (⟨h.1, by omega⟩)))))))))))))))))))))))))))))))))))))
theorem sf_X11_line_1 {fu : Nat} (hfu : 8589934592 ≤ fu) (r0 : z_M) (c0 : z_CI r0) (a1 : Int) (a2 : Int) (b1 : -2147483648 ≤ a1 ∧ a1 ≤ 2147483647) (b2 : -2147483648 ≤ a2 ∧ a2 ≤ 2147483647) (p0 : z_V16 r0) : z_T (fX11_line fu r0 1 a1 a2) (P_X11_line_1 r0) := by
  refine T_of (fX11_line.eq_1 ..) ?_
  refine T_if1 (by decide +kernel) ?_
  refine T_useN (sf_X11_refresh_1 hfu r0 c0 p0) (fun v6 s1 hq => ?_)
  obtain ⟨c2, f3, o7, rfl⟩ := hq
  refine T_vN ?_
  have f4 := z_Fr.tr (R := R_X11_line_1) z_Fr.rf f3 rs_X11_refresh_1__X11_line_1
  have u10 := CI_b c2 (k := 240) (j := 6) bd_240_6
  refine T_if1 (by decide +kernel) ?_
  refine T_let 240 (by decide +kernel) ?_
  refine T_if1 (by decide +kernel) ?_
  refine T_leq (fun x11 e12 => ?_)
  have u13 := CI_b c2 (k := 240) (j := 6) bd_240_6
  refine T_if1 (by decide +kernel) ?_
  refine T_ne ?_ (fun h14 h15 => ?_)
  · exact T_ret ⟨CI_up c2 bd_1_14 (z_wb rfl).1, z_Fr.upf (R := R_X11_line_1) f4 (fun a b h => z_up_k h) (fun b h => z_up_j h) (Or.inr (Or.inr (Or.inr (Or.inr (Or.inr (Or.inr (Or.inr (Or.inl (⟨rfl, by decide⟩))))))))), Or.inr (z_U.fr o7 (z_up_k (by decide)) (z_up_k (by decide)) (fun _ => z_up_k (by decide)) (fun _ => z_up_k (by decide))), Or.inr (Or.inl rfl)⟩
  refine T_if1 (by decide +kernel) ?_
  refine T_nw ?_ (fun h16 h17 => ?_)
  · exact T_ret ⟨CI_up c2 bd_1_15 (z_wb rfl).1, z_Fr.upf (R := R_X11_line_1) f4 (fun a b h => z_up_k h) (fun b h => z_up_j h) (Or.inr (Or.inr (Or.inr (Or.inr (Or.inr (Or.inr (Or.inr (Or.inl (⟨rfl, by decide⟩))))))))), Or.inr (z_U.fr o7 (z_up_k (by decide)) (z_up_k (by decide)) (fun _ => z_up_k (by decide)) (fun _ => z_up_k (by decide))), Or.inr (Or.inr rfl)⟩
  refine T_ite (fun h18 => ?_) (fun h18 => ?_)
  · refine T_if1 (by decide +kernel) ?_
    refine T_let 240 (by decide +kernel) ?_
    refine T_if1 (by decide +kernel) ?_
    refine T_let 247 (by decide +kernel) ?_
    refine T_if1 (by decide +kernel) ?_
    refine T_get (by decide +kernel) (c := 248) (by decide +kernel) bdr_248 (by decide) c2 (fun x19 e20 b21 w22 => ?_)
    have l23 : z_ln 247 = 201 := by decide +kernel
    exact T_ret ⟨c2, f4, (Or.inr o7), Or.inl (⟨x19, rfl, by omega, by omega⟩)⟩
  · refine T_ite (fun h24 => ?_) (fun h24 => ?_)
    · refine T_if1 (by decide +kernel) ?_
      refine T_let 240 (by decide +kernel) ?_
      refine T_if1 (by decide +kernel) ?_
      refine T_let 247 (by decide +kernel) ?_
      refine T_leq (fun x25 e26 => ?_)
      have w27 := z_wr e26
      refine T_if1 (by decide +kernel) ?_
      refine T_get (by decide +kernel) (c := 248) (by decide +kernel) bdr_248 (by decide) c2 (fun x28 e29 b30 w31 => ?_)
      have l32 : z_ln 247 = 201 := by decide +kernel
      refine T_if1 (by decide +kernel) ?_
      refine T_let 240 (by decide +kernel) ?_
      refine T_if1 (by decide +kernel) ?_
      refine T_let 247 (by decide +kernel) ?_
      refine T_if1 (by decide +kernel) ?_
      refine T_get (by decide +kernel) (c := 248) (by decide +kernel) bdr_248 (by decide) c2 (fun x33 e34 b35 w36 => ?_)
      have l37 : z_ln 247 = 201 := by decide +kernel
      refine T_leq (fun x38 e39 => ?_)
      have w40 := z_wr e39
      exact T_ret ⟨c2, f4, (Or.inr o7), Or.inl (⟨x38, rfl, by omega, by omega⟩)⟩
    · refine T_ite (fun h41 => ?_) (fun h41 => ?_)
      · refine T_if1 (by decide +kernel) ?_
        refine T_let 258 (by decide +kernel) ?_
        refine T_if1 (by decide +kernel) ?_
        refine T_let 269 (by decide +kernel) ?_
        refine T_if1 (by decide +kernel) ?_
        refine T_get (by decide +kernel) (c := 270) (by decide +kernel) bdr_270 (by decide) c2 (fun x42 e43 b44 w45 => ?_)
        have l46 : z_ln 269 = 200 := by decide +kernel
        exact T_ret ⟨c2, f4, (Or.inr o7), Or.inl (⟨x42, rfl, by omega, by omega⟩)⟩
      · refine T_ite (fun h47 => ?_) (fun h47 => ?_)
        · refine T_if1 (by decide +kernel) ?_
          refine T_let 2 (by decide +kernel) ?_
          refine T_if1 (by decide +kernel) ?_
          refine T_get (by decide +kernel) (c := 3) (by decide +kernel) bdr_3 (by decide) c2 (fun x48 e49 b50 w51 => ?_)
          have l52 : z_ln 2 = 9 := by decide +kernel
          refine T_if1 (by decide +kernel) ?_
          refine T_let 258 (by decide +kernel) ?_
          refine T_if1 (by decide +kernel) ?_
          refine T_let 269 (by decide +kernel) ?_
          refine T_if1 (by decide +kernel) ?_
          refine T_get (by decide +kernel) (c := 270) (by decide +kernel) bdr_270 (by decide) c2 (fun x53 e54 b55 w56 => ?_)
          have l57 : z_ln 269 = 200 := by decide +kernel
          refine T_leq (fun x58 e59 => ?_)
          have w60 := z_wr e59
          exact T_ret ⟨c2, f4, (Or.inr o7), Or.inl (⟨x58, rfl, by omega, by omega⟩)⟩
        · refine T_ite (fun h61 => ?_) (fun h61 => ?_)
          · refine T_if1 (by decide +kernel) ?_
            refine T_let 258 (by decide +kernel) ?_
            refine T_if1 (by decide +kernel) ?_
            refine T_let 271 (by decide +kernel) ?_
            refine T_if1 (by decide +kernel) ?_
            refine T_get (by decide +kernel) (c := 272) (by decide +kernel) bdr_272 (by decide) c2 (fun x62 e63 b64 w65 => ?_)
            have l66 : z_ln 271 = 200 := by decide +kernel
            exact T_ret ⟨c2, f4, (Or.inr o7), Or.inl (⟨x62, rfl, by omega, by omega⟩)⟩
          · refine T_ite (fun h67 => ?_) (fun h67 => ?_)
            · refine T_if1 (by decide +kernel) ?_
              refine T_let 258 (by decide +kernel) ?_
              refine T_if1 (by decide +kernel) ?_
              refine T_let 277 (by decide +kernel) ?_
              refine T_leq (fun x68 e69 => ?_)
              have w70 := z_wr e69
              refine T_if1 (by decide +kernel) ?_
              refine T_get (by decide +kernel) (c := 278) (by decide +kernel) bdr_278 (by decide) c2 (fun x71 e72 b73 w74 => ?_)
              have l75 : z_ln 277 = 201 := by decide +kernel
              refine T_if1 (by decide +kernel) ?_
              refine T_let 258 (by decide +kernel) ?_
              refine T_if1 (by decide +kernel) ?_
              refine T_let 277 (by decide +kernel) ?_
              refine T_if1 (by decide +kernel) ?_
              refine T_get (by decide +kernel) (c := 278) (by decide +kernel) bdr_278 (by decide) c2 (fun x76 e77 b78 w79 => ?_)
              have l80 : z_ln 277 = 201 := by decide +kernel
              refine T_leq (fun x81 e82 => ?_)
              have w83 := z_wr e82
              exact T_ret ⟨c2, f4, (Or.inr o7), Or.inl (⟨x81, rfl, by omega, by omega⟩)⟩
            · refine T_ite (fun h84 => ?_) (fun h84 => ?_)
              · refine T_if1 (by decide +kernel) ?_
                refine T_let 258 (by decide +kernel) ?_
                refine T_if1 (by decide +kernel) ?_
                refine T_let 273 (by decide +kernel) ?_
                refine T_if1 (by decide +kernel) ?_
                refine T_get (by decide +kernel) (c := 274) (by decide +kernel) bdr_274 (by decide) c2 (fun x85 e86 b87 w88 => ?_)
                have l89 : z_ln 273 = 200 := by decide +kernel
                exact T_ret ⟨c2, f4, (Or.inr o7), Or.inl (⟨x85, rfl, by omega, by omega⟩)⟩
              · refine T_if1 (by decide +kernel) ?_
                refine T_let 258 (by decide +kernel) ?_
                refine T_if1 (by decide +kernel) ?_
                refine T_let 275 (by decide +kernel) ?_
                refine T_if1 (by decide +kernel) ?_
                refine T_get (by decide +kernel) (c := 276) (by decide +kernel) bdr_276 (by decide) c2 (fun x90 e91 b92 w93 => ?_)
                have l94 : z_ln 275 = 200 := by decide +kernel
                exact T_ret ⟨c2, f4, (Or.inr o7), Or.inl (⟨x90, rfl, by omega, by omega⟩)⟩
