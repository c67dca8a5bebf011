/-! SAFETY, further (by program) -/
abbrev R_X12_gutterOf_309 (a b : Int) : Prop := (3653 ≤ a ∧ a ≤ 7652) ∨ (a = 309 ∧ (b = 60))
abbrev P_X12_gutterOf_309 (r0 : z_M) : z_V → z_M → Prop := fun v s' => z_CI s' ∧ z_Fr R_X12_gutterOf_309 r0 s' ∧ (∃ x, v = vI x ∧ -2147483648 ≤ x ∧ x ≤ 2147483647)
theorem rs_X12_clashOf_309__X12_gutterOf_309 (a b : Int) (h : R_X12_clashOf_309 a b) : R_X12_gutterOf_309 a b := (h.elim (fun h => (Or.inl (⟨by omega, by omega⟩))) (fun h => (Or.inr (⟨h.1, by omega⟩))))
theorem nr_X12_clashOf_309__3220 (b : Int) : ¬ R_X12_clashOf_309 3220 b := by
  unfold R_X12_clashOf_309; omega
theorem nr_X12_clashOf_309__3221 (b : Int) : ¬ R_X12_clashOf_309 3221 b := by
  unfold R_X12_clashOf_309; omega
theorem nr_X12_clashOf_309__3222 (b : Int) : ¬ R_X12_clashOf_309 3222 b := by
  unfold R_X12_clashOf_309; omega
theorem nr_X12_clashOf_309__361 (b : Int) : ¬ R_X12_clashOf_309 361 b := by
  unfold R_X12_clashOf_309; omega
theorem nq_X12_clashOf_309__3452 (a b : Int) (h : 3452 ≤ a ∧ a ≤ 3651) : ¬ R_X12_clashOf_309 a b := by
  unfold R_X12_clashOf_309; omega
theorem nr_X12_clashOf_309__3438 (b : Int) : ¬ R_X12_clashOf_309 3438 b := by
  unfold R_X12_clashOf_309; omega
theorem nq_X12_clashOf_309__316 (a b : Int) (h : 316 ≤ a ∧ a ≤ 328) : ¬ R_X12_clashOf_309 a b := by
  unfold R_X12_clashOf_309; omega
theorem nq_X12_clashOf_309__346 (a b : Int) (h : 346 ≤ a ∧ a ≤ 358) : ¬ R_X12_clashOf_309 a b := by
  unfold R_X12_clashOf_309; omega
theorem nq_X12_clashOf_309__361 (a b : Int) (h : 361 ≤ a ∧ a ≤ 373) : ¬ R_X12_clashOf_309 a b := by
  unfold R_X12_clashOf_309; omega
theorem rs_X12_sideOf_309__X12_gutterOf_309 (a b : Int) (h : R_X12_sideOf_309 a b) : R_X12_gutterOf_309 a b := (h.elim (fun h => (Or.inl (⟨by omega, by omega⟩))) (fun h => (Or.inr (⟨h.1, by omega⟩))))
theorem sj_X12_gutterOf_309_J53 {fu : Nat} (hfu : 8589934592 ≤ fu) (r0 s : z_M) (c : z_CI s) (f : z_Fr R_X12_gutterOf_309 r0 s) (t0 : Int) (t1 : Int) (d0 : -2147483648 ≤ t0 ∧ t0 ≤ 2147483647) (d1 : 0 ≤ t1 ∧ t1 ≤ 6) : z_T (fX12_gutterOf_J53 fu s t0 t1) (P_X12_gutterOf_309 r0) := by
  refine T_of (fX12_gutterOf_J53.eq_1 ..) ?_
  have u1 := CI_b c (k := 309) (j := 20) bd_309_20
  have u2 := CI_b c (k := 309) (j := 44) bd_309_44
  have u3 := CI_b c (k := 309) (j := 58) bd_309_58
  have u4 := CI_b c (k := 316) (j := 0) bd_316_0
  have t5 : s 309 20 = r0 309 20 := f 309 20 (by decide)
  have t6 : s 309 44 = r0 309 44 := f 309 44 (by decide)
  have t7 : s 309 58 = r0 309 58 := f 309 58 (by decide)
  have t8 : s 316 0 = r0 316 0 := f 316 0 (by decide)
  refine T_leq (fun x9 e10 => ?_)
  first | (have w11 := z_wx e10 (by omega)) | (have w11 := z_wr e10)
  exact T_ret ⟨c, f, ⟨x9, rfl, by omega, by omega⟩⟩
theorem sf_X12_gutterOf_309 {fu : Nat} (hfu : 8589934592 ≤ fu) (r0 : z_M) (c0 : z_CI r0) (a1 : Int) (b1 : 0 ≤ a1 ∧ a1 ≤ 199) (p0 : y_B r0) (p1 : y_BK r0) (p2 : y_L r0 (r0 309 44)) (p3 : y_TA r0) (p4 : a1 + 1 < r0 309 44) : z_T (fX12_gutterOf fu r0 309 a1) (P_X12_gutterOf_309 r0) := by
  refine T_of (fX12_gutterOf.eq_1 ..) ?_
  have u1 := CI_b c0 (k := 309) (j := 20) bd_309_20
  have u2 := CI_b c0 (k := 309) (j := 44) bd_309_44
  have u3 := CI_b c0 (k := 309) (j := 58) bd_309_58
  have u4 := CI_b c0 (k := 316) (j := 0) bd_316_0
  refine T_if1 (by decide +kernel) ?_
  refine T_useI (sf_X12_clashOf_309 hfu r0 c0 a1 (by omega) p0 p1 (by first | exact y_L.cg p2 (by omega)) p3 (by omega)) (fun v10 s5 hq => ?_)
  obtain ⟨c6, f7, ⟨x9, rfl, b11, b12⟩⟩ := hq
  refine T_vI ?_
  have f8 := z_Fr.tr (R := R_X12_gutterOf_309) z_Fr.rf f7 rs_X12_clashOf_309__X12_gutterOf_309
  have t13 : s5 309 20 = r0 309 20 := f7 309 20 (by decide)
  have t14 : s5 309 44 = r0 309 44 := f7 309 44 (by decide)
  have t15 : s5 309 58 = r0 309 58 := f7 309 58 (by decide)
  have t16 : s5 316 0 = r0 316 0 := f7 316 0 (by decide)
  have r17 := y_B.fr p0 (f7 309 20 (by decide)) (f7 316 0 (by decide)) (fun b => f7 3220 b (nr_X12_clashOf_309__3220 b)) (fun b => f7 3221 b (nr_X12_clashOf_309__3221 b)) (fun b => f7 3222 b (nr_X12_clashOf_309__3222 b)) (fun b => f7 361 b (nr_X12_clashOf_309__361 b))
  have r18 := y_BK.fr p1 (by omega) (f7 309 20 (by decide)) (f7 309 58 (by decide)) (fun b => f7 3220 b (nr_X12_clashOf_309__3220 b)) (fun a b h => f7 a b (nq_X12_clashOf_309__3452 a b h))
  have r19 := y_L.fr p2 (f7 309 20 (by decide)) (fun b => f7 3438 b (nr_X12_clashOf_309__3438 b))
  have r20 := y_TA.fr p3 (fun a b h => f7 a b (nq_X12_clashOf_309__316 a b h)) (fun a b h => f7 a b (nq_X12_clashOf_309__346 a b h)) (fun a b h => f7 a b (nq_X12_clashOf_309__361 a b h))
  refine T_ite (fun h21 => ?_) (fun h21 => ?_)
  · refine T_if1 (by decide +kernel) ?_
    refine T_let 312 (by decide +kernel) ?_
    refine T_if1 (z_ixl (n := 9) (by decide +kernel) (by omega) (by omega)) ?_
    refine T_leq (fun x22 e23 => ?_)
    have u24 := CI_b c6 (k := 312) (j := 8) (bdr_312 8)
    refine T_if1 (by decide +kernel) ?_
    refine T_useI (sf_X12_sideOf_309 hfu s5 c6 a1 1 (by omega) (by omega) r17 r18 (by first | exact y_L.cg r19 (by omega)) r20 (by omega)) (fun v30 s25 hq => ?_)
    obtain ⟨c26, f27, ⟨x29, rfl, b31, b32, o33⟩⟩ := hq
    refine T_vI ?_
    have f28 := z_Fr.tr (R := R_X12_gutterOf_309) f8 f27 rs_X12_sideOf_309__X12_gutterOf_309
    have t34 : s25 309 20 = r0 309 20 := (f27 309 20 (by decide)).trans t13
    have t35 : s25 309 44 = r0 309 44 := (f27 309 44 (by decide)).trans t14
    have t36 : s25 309 58 = r0 309 58 := (f27 309 58 (by decide)).trans t15
    have t37 : s25 316 0 = r0 316 0 := (f27 316 0 (by decide)).trans t16
    have r38 := y_B.fr r17 (f27 309 20 (by decide)) (f27 316 0 (by decide)) (fun b => f27 3220 b (nr_X12_sideOf_309__3220 b)) (fun b => f27 3221 b (nr_X12_sideOf_309__3221 b)) (fun b => f27 3222 b (nr_X12_sideOf_309__3222 b)) (fun b => f27 361 b (nr_X12_sideOf_309__361 b))
    have r39 := y_BK.fr r18 (by omega) (f27 309 20 (by decide)) (f27 309 58 (by decide)) (fun b => f27 3220 b (nr_X12_sideOf_309__3220 b)) (fun a b h => f27 a b (nq_X12_sideOf_309__3452 a b h))
    have r40 := y_L.fr r19 (f27 309 20 (by decide)) (fun b => f27 3438 b (nr_X12_sideOf_309__3438 b))
    have r41 := y_TA.fr r20 (fun a b h => f27 a b (nq_X12_sideOf_309__316 a b h)) (fun a b h => f27 a b (nq_X12_sideOf_309__346 a b h)) (fun a b h => f27 a b (nq_X12_sideOf_309__361 a b h))
    clear t13
    clear t14
    clear t15
    clear t16
    refine T_leq (fun x42 e43 => ?_)
    first | (have w44 := z_wx e43 (by omega)) | (have w44 := z_wr e43)
    refine T_if1 (by decide +kernel) ?_
    refine T_useI (sf_X12_sideOf_309 hfu s25 c26 x42 0 (by omega) (by omega) r38 r39 (by first | exact y_L.cg r40 (by omega)) r41 (by omega)) (fun v50 s45 hq => ?_)
    obtain ⟨c46, f47, ⟨x49, rfl, b51, b52, o53⟩⟩ := hq
    refine T_vI ?_
    have f48 := z_Fr.tr (R := R_X12_gutterOf_309) f28 f47 rs_X12_sideOf_309__X12_gutterOf_309
    have t54 : s45 309 20 = r0 309 20 := (f47 309 20 (by decide)).trans t34
    have t55 : s45 309 44 = r0 309 44 := (f47 309 44 (by decide)).trans t35
    have t56 : s45 309 58 = r0 309 58 := (f47 309 58 (by decide)).trans t36
    have t57 : s45 316 0 = r0 316 0 := (f47 316 0 (by decide)).trans t37
    have r58 := y_B.fr r38 (f47 309 20 (by decide)) (f47 316 0 (by decide)) (fun b => f47 3220 b (nr_X12_sideOf_309__3220 b)) (fun b => f47 3221 b (nr_X12_sideOf_309__3221 b)) (fun b => f47 3222 b (nr_X12_sideOf_309__3222 b)) (fun b => f47 361 b (nr_X12_sideOf_309__361 b))
    have r59 := y_BK.fr r39 (by omega) (f47 309 20 (by decide)) (f47 309 58 (by decide)) (fun b => f47 3220 b (nr_X12_sideOf_309__3220 b)) (fun a b h => f47 a b (nq_X12_sideOf_309__3452 a b h))
    have r60 := y_L.fr r40 (f47 309 20 (by decide)) (fun b => f47 3438 b (nr_X12_sideOf_309__3438 b))
    have r61 := y_TA.fr r41 (fun a b h => f47 a b (nq_X12_sideOf_309__316 a b h)) (fun a b h => f47 a b (nq_X12_sideOf_309__346 a b h)) (fun a b h => f47 a b (nq_X12_sideOf_309__361 a b h))
    clear t34
    clear t35
    clear t36
    clear t37
    refine T_leq (fun x62 e63 => ?_)
    first | (have w64 := z_wx e63 (by omega)) | (have w64 := z_wr e63)
    refine T_ite (fun h65 => ?_) (fun h65 => ?_)
    · exact sj_X12_gutterOf_309_J53 hfu r0 s45 c46 f48 x22 0 (by omega) (by omega)
    · exact sj_X12_gutterOf_309_J53 hfu r0 s45 c46 f48 x22 6 (by omega) (by omega)
  · refine T_if1 (by decide +kernel) ?_
    refine T_let 312 (by decide +kernel) ?_
    refine T_if1 (z_ixl (n := 9) (by decide +kernel) (by omega) (by omega)) ?_
    refine T_leq (fun x66 e67 => ?_)
    have u68 := CI_b c6 (k := 312) (j := 8) (bdr_312 8)
    refine T_leq (fun x69 e70 => ?_)
    first | (have w71 := z_wx e70 (by omega)) | (have w71 := z_wr e70)
    exact T_ret ⟨c6, f8, ⟨x69, rfl, by omega, by omega⟩⟩
abbrev R_X12_gutter_309 (a b : Int) : Prop := (310 ≤ a ∧ a ≤ 310) ∨ (3224 ≤ a ∧ a ≤ 7652) ∨ (a = 309 ∧ (b = 0 ∨ b = 35 ∨ b = 36 ∨ b = 38 ∨ b = 39 ∨ b = 43 ∨ b = 44 ∨ b = 58 ∨ b = 60))
abbrev P_X12_gutter_309 (r0 : z_M) : z_V → z_M → Prop := fun v s' => z_CI s' ∧ z_Fr R_X12_gutter_309 r0 s' ∧ (y_TA s') ∧ (y_DD s') ∧ (y_B s') ∧ (y_K s') ∧ (∃ x, v = vI x ∧ -2147483648 ≤ x ∧ x ≤ 2147483647)
theorem rs_X12_isLine_309__X12_gutter_309 (a b : Int) (h : R_X12_isLine_309 a b) : R_X12_gutter_309 a b := (h.elim (fun h => (Or.inr (Or.inl (⟨by omega, by omega⟩)))) (fun h => (Or.inr (Or.inr (⟨h.1, by omega⟩)))))
theorem rs_X12_bad_309__X12_gutter_309 (a b : Int) (h : R_X12_bad_309 a b) : R_X12_gutter_309 a b := (h.elim (fun h => (Or.inl (⟨by omega, by omega⟩))) (fun h => (Or.inr (Or.inr (⟨h.1, by omega⟩)))))
theorem rs_X12_gutterOf_309__X12_gutter_309 (a b : Int) (h : R_X12_gutterOf_309 a b) : R_X12_gutter_309 a b := (h.elim (fun h => (Or.inr (Or.inl (⟨by omega, by omega⟩)))) (fun h => (Or.inr (Or.inr (⟨h.1, by omega⟩)))))
theorem nr_X12_gutterOf_309__3438 (b : Int) : ¬ R_X12_gutterOf_309 3438 b := by
  unfold R_X12_gutterOf_309; omega
theorem nr_X12_gutterOf_309__3220 (b : Int) : ¬ R_X12_gutterOf_309 3220 b := by
  unfold R_X12_gutterOf_309; omega
theorem nq_X12_gutterOf_309__3452 (a b : Int) (h : 3452 ≤ a ∧ a ≤ 3651) : ¬ R_X12_gutterOf_309 a b := by
  unfold R_X12_gutterOf_309; omega
theorem nq_X12_gutterOf_309__316 (a b : Int) (h : 316 ≤ a ∧ a ≤ 328) : ¬ R_X12_gutterOf_309 a b := by
  unfold R_X12_gutterOf_309; omega
theorem nq_X12_gutterOf_309__346 (a b : Int) (h : 346 ≤ a ∧ a ≤ 358) : ¬ R_X12_gutterOf_309 a b := by
  unfold R_X12_gutterOf_309; omega
theorem nq_X12_gutterOf_309__361 (a b : Int) (h : 361 ≤ a ∧ a ≤ 373) : ¬ R_X12_gutterOf_309 a b := by
  unfold R_X12_gutterOf_309; omega
theorem nr_X12_gutterOf_309__359 (b : Int) : ¬ R_X12_gutterOf_309 359 b := by
  unfold R_X12_gutterOf_309; omega
theorem nr_X12_gutterOf_309__374 (b : Int) : ¬ R_X12_gutterOf_309 374 b := by
  unfold R_X12_gutterOf_309; omega
theorem nr_X12_gutterOf_309__3221 (b : Int) : ¬ R_X12_gutterOf_309 3221 b := by
  unfold R_X12_gutterOf_309; omega
theorem nr_X12_gutterOf_309__3222 (b : Int) : ¬ R_X12_gutterOf_309 3222 b := by
  unfold R_X12_gutterOf_309; omega
theorem nr_X12_gutterOf_309__361 (b : Int) : ¬ R_X12_gutterOf_309 361 b := by
  unfold R_X12_gutterOf_309; omega
theorem sj_X12_gutter_309_J48 {fu : Nat} (hfu : 8589934592 ≤ fu) (r0 s : z_M) (c : z_CI s) (f : z_Fr R_X12_gutter_309 r0 s) (t0 : Int) (d0 : -2147483648 ≤ t0 ∧ t0 ≤ 2147483647) (p0 : y_TA s) (p1 : y_DD s) (p2 : y_B s) (p3 : y_K s) : z_T (fX12_gutter_J48 fu s t0) (P_X12_gutter_309 r0) := by
  refine T_of (fX12_gutter_J48.eq_1 ..) ?_
  have u1 := CI_b c (k := 309) (j := 20) bd_309_20
  have u2 := CI_b c (k := 309) (j := 36) bd_309_36
  have u3 := CI_b c (k := 309) (j := 43) bd_309_43
  have u4 := CI_b c (k := 309) (j := 44) bd_309_44
  have u5 := CI_b c (k := 309) (j := 58) bd_309_58
  have u6 := CI_b c (k := 316) (j := 0) bd_316_0
  have u7 := CI_b c (k := 329) (j := 0) bd_329_0
  have u8 := CI_b c (k := 329) (j := 1) bd_329_1
  have t9 : s 309 20 = r0 309 20 := f 309 20 (by decide)
  have t10 : s 316 0 = r0 316 0 := f 316 0 (by decide)
  have t11 : s 329 0 = r0 329 0 := f 329 0 (by decide)
  have t12 : s 329 1 = r0 329 1 := f 329 1 (by decide)
  exact T_ret ⟨c, f, p0, (by first | exact p1 | exact y_DD.z (by omega) (by omega)), p2, (by first | exact p3 | exact y_K.b0 (by omega) | exact y_K.k0 (by omega) | exact y_K.bk (by omega)), ⟨t0, rfl, by omega, by omega⟩⟩
theorem sj_X12_gutter_309_J19 {fu : Nat} (hfu : 8589934592 ≤ fu) (r0 s : z_M) (c : z_CI s) (f : z_Fr R_X12_gutter_309 r0 s) (a1 : Int) (t1 : Int) (b1 : -2147483648 ≤ a1 ∧ a1 ≤ 2147483647) (d1 : 0 ≤ t1 ∧ t1 ≤ 1) (p0 : t1 = 1 ∨ (0 ≤ a1 ∧ a1 < s 309 44)) (p1 : y_L s (s 309 44)) (p2 : y_BK s) (p3 : y_TA s) (p4 : y_DD s) (p5 : y_B s) (p6 : y_K s) : z_T (fX12_gutter_J19 fu s 309 a1 309 t1) (P_X12_gutter_309 r0) := by
  refine T_of (fX12_gutter_J19.eq_1 ..) ?_
  have u1 := CI_b c (k := 309) (j := 20) bd_309_20
  have u2 := CI_b c (k := 309) (j := 36) bd_309_36
  have u3 := CI_b c (k := 309) (j := 43) bd_309_43
  have u4 := CI_b c (k := 309) (j := 44) bd_309_44
  have u5 := CI_b c (k := 309) (j := 58) bd_309_58
  have u6 := CI_b c (k := 316) (j := 0) bd_316_0
  have u7 := CI_b c (k := 329) (j := 0) bd_329_0
  have u8 := CI_b c (k := 329) (j := 1) bd_329_1
  have t9 : s 309 20 = r0 309 20 := f 309 20 (by decide)
  have t10 : s 316 0 = r0 316 0 := f 316 0 (by decide)
  have t11 : s 329 0 = r0 329 0 := f 329 0 (by decide)
  have t12 : s 329 1 = r0 329 1 := f 329 1 (by decide)
  refine T_if1 (by decide +kernel) ?_
  refine T_useI (sf_X12_bad_309 hfu s c t1 1 0 (by omega) (by omega) (by omega) (by omega)) (fun v18 s13 hq => ?_)
  obtain ⟨c14, f15, o19, ⟨x17, rfl, b20, b21, o22, o23⟩⟩ := hq
  refine T_vI ?_
  have f16 := z_Fr.tr (R := R_X12_gutter_309) f f15 rs_X12_bad_309__X12_gutter_309
  have t24 : s13 309 20 = s 309 20 := f15 309 20 (by decide)
  have t25 : s13 309 36 = s 309 36 := f15 309 36 (by decide)
  have t26 : s13 309 43 = s 309 43 := f15 309 43 (by decide)
  have t27 : s13 309 44 = s 309 44 := f15 309 44 (by decide)
  have t28 : s13 309 58 = s 309 58 := f15 309 58 (by decide)
  have t29 : s13 316 0 = s 316 0 := f15 316 0 (by decide)
  have t30 : s13 329 0 = s 329 0 := f15 329 0 (by decide)
  have t31 : s13 329 1 = s 329 1 := f15 329 1 (by decide)
  have r32 := y_L.fr p1 (f15 309 20 (by decide)) (fun b => f15 3438 b (nr_X12_bad_309__3438 b))
  have r33 := y_BK.fr p2 (by omega) (f15 309 20 (by decide)) (f15 309 58 (by decide)) (fun b => f15 3220 b (nr_X12_bad_309__3220 b)) (fun a b h => f15 a b (nq_X12_bad_309__3452 a b h))
  have r34 := y_TA.fr p3 (fun a b h => f15 a b (nq_X12_bad_309__316 a b h)) (fun a b h => f15 a b (nq_X12_bad_309__346 a b h)) (fun a b h => f15 a b (nq_X12_bad_309__361 a b h))
  have r35 := y_DD.fr p4 (f15 329 0 (by decide)) (f15 329 1 (by decide)) (fun b => f15 359 b (nr_X12_bad_309__359 b)) (fun b => f15 374 b (nr_X12_bad_309__374 b))
  have r36 := y_B.fr p5 (f15 309 20 (by decide)) (f15 316 0 (by decide)) (fun b => f15 3220 b (nr_X12_bad_309__3220 b)) (fun b => f15 3221 b (nr_X12_bad_309__3221 b)) (fun b => f15 3222 b (nr_X12_bad_309__3222 b)) (fun b => f15 361 b (nr_X12_bad_309__361 b))
  have r37 := y_K.fr p6 (by omega) (by omega) (f15 309 44 (by decide)) (f15 309 20 (by decide)) (f15 309 58 (by decide)) (fun b => f15 3438 b (nr_X12_bad_309__3438 b)) (fun b => f15 3220 b (nr_X12_bad_309__3220 b)) (fun a b h => f15 a b (nq_X12_bad_309__3452 a b h))
  refine T_ite (fun h38 => ?_) (fun h38 => ?_)
  · refine T_leq (fun x39 e40 => ?_)
    first | (have w41 := z_wx e40 (by omega)) | (have w41 := z_wr e40)
    refine T_if1 (by decide +kernel) ?_
    refine T_leq (fun x42 e43 => ?_)
    have u44 := CI_b c14 (k := 309) (j := 44) bd_309_44
    refine T_ite (fun h45 => ?_) (fun h45 => ?_)
    · refine T_if1 (by decide +kernel) ?_
      refine T_useI (sf_X12_gutterOf_309 hfu s13 c14 a1 (by omega) r36 (by first | exact r33 | exact y_K.B r37 (by omega) (by omega)) (by first | exact y_L.cg r32 (by omega) | exact y_K.L r37 (by omega) (by omega)) r34 (by omega)) (fun v51 s46 hq => ?_)
      obtain ⟨c47, f48, ⟨x50, rfl, b52, b53⟩⟩ := hq
      refine T_vI ?_
      have f49 := z_Fr.tr (R := R_X12_gutter_309) f16 f48 rs_X12_gutterOf_309__X12_gutter_309
      have t54 : s46 309 20 = s 309 20 := (f48 309 20 (by decide)).trans t24
      have t55 : s46 309 36 = s 309 36 := (f48 309 36 (by decide)).trans t25
      have t56 : s46 309 43 = s 309 43 := (f48 309 43 (by decide)).trans t26
      have t57 : s46 309 44 = x42 := (f48 309 44 (by decide)).trans e43
      have t58 : s46 309 58 = s 309 58 := (f48 309 58 (by decide)).trans t28
      have t59 : s46 316 0 = s 316 0 := (f48 316 0 (by decide)).trans t29
      have t60 : s46 329 0 = s 329 0 := (f48 329 0 (by decide)).trans t30
      have t61 : s46 329 1 = s 329 1 := (f48 329 1 (by decide)).trans t31
      have r62 := y_L.fr r32 (f48 309 20 (by decide)) (fun b => f48 3438 b (nr_X12_gutterOf_309__3438 b))
      have r63 := y_BK.fr r33 (by omega) (f48 309 20 (by decide)) (f48 309 58 (by decide)) (fun b => f48 3220 b (nr_X12_gutterOf_309__3220 b)) (fun a b h => f48 a b (nq_X12_gutterOf_309__3452 a b h))
      have r64 := y_TA.fr r34 (fun a b h => f48 a b (nq_X12_gutterOf_309__316 a b h)) (fun a b h => f48 a b (nq_X12_gutterOf_309__346 a b h)) (fun a b h => f48 a b (nq_X12_gutterOf_309__361 a b h))
      have r65 := y_DD.fr r35 (f48 329 0 (by decide)) (f48 329 1 (by decide)) (fun b => f48 359 b (nr_X12_gutterOf_309__359 b)) (fun b => f48 374 b (nr_X12_gutterOf_309__374 b))
      have r66 := y_B.fr r36 (f48 309 20 (by decide)) (f48 316 0 (by decide)) (fun b => f48 3220 b (nr_X12_gutterOf_309__3220 b)) (fun b => f48 3221 b (nr_X12_gutterOf_309__3221 b)) (fun b => f48 3222 b (nr_X12_gutterOf_309__3222 b)) (fun b => f48 361 b (nr_X12_gutterOf_309__361 b))
      have r67 := y_K.fr r37 (by omega) (by omega) (f48 309 44 (by decide)) (f48 309 20 (by decide)) (f48 309 58 (by decide)) (fun b => f48 3438 b (nr_X12_gutterOf_309__3438 b)) (fun b => f48 3220 b (nr_X12_gutterOf_309__3220 b)) (fun a b h => f48 a b (nq_X12_gutterOf_309__3452 a b h))
      clear t24
      clear t25
      clear t26
      clear t28
      clear t29
      clear t30
      clear t31
      exact sj_X12_gutter_309_J48 hfu r0 s46 c47 f49 x50 (by omega) r64 (by first | exact r65 | exact y_DD.z (by omega) (by omega)) r66 (by first | exact r67 | exact y_K.b0 (by omega) | exact y_K.k0 (by omega) | exact y_K.bk (by omega) | exact y_K.mk r62 (by omega) r63)
    · exact sj_X12_gutter_309_J48 hfu r0 s13 c14 f16 (-1) (by omega) r34 (by first | exact r35 | exact y_DD.z (by omega) (by omega)) r36 (by first | exact r37 | exact y_K.b0 (by omega) | exact y_K.k0 (by omega) | exact y_K.bk (by omega) | exact y_K.mk r32 (by omega) r33)
  · exact T_ret ⟨c14, f16, r34, (by first | exact r35 | exact y_DD.z (by omega) (by omega)), r36, (by first | exact r37 | exact y_K.b0 (by omega) | exact y_K.k0 (by omega) | exact y_K.bk (by omega) | exact y_K.mk r32 (by omega) r33), ⟨0, rfl, by omega, by omega⟩⟩
theorem sf_X12_gutter_309 {fu : Nat} (hfu : 8589934592 ≤ fu) (r0 : z_M) (c0 : z_CI r0) (a1 : Int) (b1 : -2147483648 ≤ a1 ∧ a1 ≤ 2147483647) (p0 : y_TA r0) (p1 : y_DD r0) (p2 : y_B r0) (p3 : y_K r0) : z_T (fX12_gutter fu r0 309 a1) (P_X12_gutter_309 r0) := by
  refine T_of (fX12_gutter.eq_1 ..) ?_
  have u1 := CI_b c0 (k := 309) (j := 20) bd_309_20
  have u2 := CI_b c0 (k := 309) (j := 36) bd_309_36
  have u3 := CI_b c0 (k := 309) (j := 43) bd_309_43
  have u4 := CI_b c0 (k := 309) (j := 44) bd_309_44
  have u5 := CI_b c0 (k := 309) (j := 58) bd_309_58
  have u6 := CI_b c0 (k := 316) (j := 0) bd_316_0
  have u7 := CI_b c0 (k := 329) (j := 0) bd_329_0
  have u8 := CI_b c0 (k := 329) (j := 1) bd_329_1
  refine T_if1 (by decide +kernel) ?_
  refine T_upg c0 bd_309_0 (by omega) (fun s9 c10 g12 g13 e14 => ?_)
  have f11 := z_Fr.upf (R := R_X12_gutter_309) z_Fr.rf g12 g13 (Or.inr (Or.inr (⟨rfl, by decide⟩)))
  have t15 : s9 309 20 = r0 309 20 := g13 20 (by decide)
  have t16 : s9 309 36 = r0 309 36 := g13 36 (by decide)
  have t17 : s9 309 43 = r0 309 43 := g13 43 (by decide)
  have t18 : s9 309 44 = r0 309 44 := g13 44 (by decide)
  have t19 : s9 309 58 = r0 309 58 := g13 58 (by decide)
  have t20 : s9 316 0 = r0 316 0 := g12 316 0 (by decide)
  have t21 : s9 329 0 = r0 329 0 := g12 329 0 (by decide)
  have t22 : s9 329 1 = r0 329 1 := g12 329 1 (by decide)
  have r23 := y_TA.fr p0 (fun a b h => g12 a b (by omega)) (fun a b h => g12 a b (by omega)) (fun a b h => g12 a b (by omega))
  have r24 := y_DD.fr p1 (g12 329 0 (by decide)) (g12 329 1 (by decide)) (fun b => g12 359 b (by decide)) (fun b => g12 374 b (by decide))
  have r25 := y_B.fr p2 (g13 20 (by decide)) (g12 316 0 (by decide)) (fun b => g12 3220 b (by decide)) (fun b => g12 3221 b (by decide)) (fun b => g12 3222 b (by decide)) (fun b => g12 361 b (by decide))
  have r26 := y_K.fr p3 (by omega) (by omega) (g13 44 (by decide)) (g13 20 (by decide)) (g13 58 (by decide)) (fun b => g12 3438 b (by decide)) (fun b => g12 3220 b (by decide)) (fun a b h => g12 a b (by omega))
  refine T_if1 (by decide +kernel) ?_
  refine T_useI (sf_X12_isLine_309 hfu s9 c10 a1 (by omega) r25 (by first | exact r26 | exact y_K.b0 (by omega) | exact y_K.k0 (by omega) | exact y_K.bk (by omega))) (fun v32 s27 hq => ?_)
  obtain ⟨c28, f29, o33, o34, o35, o36, o37, o38, ⟨x31, rfl, b39, b40, o41⟩⟩ := hq
  refine T_vI ?_
  have f30 := z_Fr.tr (R := R_X12_gutter_309) f11 f29 rs_X12_isLine_309__X12_gutter_309
  have t42 : s27 309 20 = r0 309 20 := (f29 309 20 (by decide)).trans t15
  have t43 : s27 316 0 = r0 316 0 := (f29 316 0 (by decide)).trans t20
  have t44 : s27 329 0 = r0 329 0 := (f29 329 0 (by decide)).trans t21
  have t45 : s27 329 1 = r0 329 1 := (f29 329 1 (by decide)).trans t22
  have u46 := CI_b c28 (k := 309) (j := 36) bd_309_36
  have u47 := CI_b c28 (k := 309) (j := 43) bd_309_43
  have u48 := CI_b c28 (k := 309) (j := 44) bd_309_44
  have u49 := CI_b c28 (k := 309) (j := 58) bd_309_58
  have r50 := y_TA.fr r23 (fun a b h => f29 a b (nq_X12_isLine_309__316 a b h)) (fun a b h => f29 a b (nq_X12_isLine_309__346 a b h)) (fun a b h => f29 a b (nq_X12_isLine_309__361 a b h))
  have r51 := y_DD.fr r24 (f29 329 0 (by decide)) (f29 329 1 (by decide)) (fun b => f29 359 b (nr_X12_isLine_309__359 b)) (fun b => f29 374 b (nr_X12_isLine_309__374 b))
  have r52 := y_B.fr r25 (f29 309 20 (by decide)) (f29 316 0 (by decide)) (fun b => f29 3220 b (nr_X12_isLine_309__3220 b)) (fun b => f29 3221 b (nr_X12_isLine_309__3221 b)) (fun b => f29 3222 b (nr_X12_isLine_309__3222 b)) (fun b => f29 361 b (nr_X12_isLine_309__361 b))
  clear t15
  clear t20
  clear t21
  clear t22
  refine T_ite (fun h53 => ?_) (fun h53 => ?_)
  · exact sj_X12_gutter_309_J19 hfu r0 s27 c28 f30 a1 0 (by omega) (by omega) (by omega) (by first | exact y_L.cg o34 (by omega) | exact y_K.L o33 (by omega) (by omega)) (by first | exact o35 | exact y_K.B o33 (by omega) (by omega)) r50 (by first | exact r51 | exact y_DD.z (by omega) (by omega)) r52 (by first | exact o33 | exact y_K.b0 (by omega) | exact y_K.k0 (by omega) | exact y_K.bk (by omega) | exact y_K.mk o34 (by omega) o35)
  · exact sj_X12_gutter_309_J19 hfu r0 s27 c28 f30 a1 1 (by omega) (by omega) (by omega) (by first | exact y_L.cg o34 (by omega) | exact y_K.L o33 (by omega) (by omega)) (by first | exact o35 | exact y_K.B o33 (by omega) (by omega)) r50 (by first | exact r51 | exact y_DD.z (by omega) (by omega)) r52 (by first | exact o33 | exact y_K.b0 (by omega) | exact y_K.k0 (by omega) | exact y_K.bk (by omega) | exact y_K.mk o34 (by omega) o35)
abbrev R_X12_clash_309 (a b : Int) : Prop := (310 ≤ a ∧ a ≤ 310) ∨ (3224 ≤ a ∧ a ≤ 7652) ∨ (a = 309 ∧ (b = 0 ∨ b = 35 ∨ b = 36 ∨ b = 38 ∨ b = 39 ∨ b = 43 ∨ b = 44 ∨ b = 58 ∨ b = 60))
abbrev P_X12_clash_309 (r0 : z_M) : z_V → z_M → Prop := fun v s' => z_CI s' ∧ z_Fr R_X12_clash_309 r0 s' ∧ (y_TA s') ∧ (y_DD s') ∧ (y_B s') ∧ (y_K s') ∧ (∃ x, v = vI x ∧ -2147483648 ≤ x ∧ x ≤ 2147483647)
theorem rs_X12_isLine_309__X12_clash_309 (a b : Int) (h : R_X12_isLine_309 a b) : R_X12_clash_309 a b := (h.elim (fun h => (Or.inr (Or.inl (⟨by omega, by omega⟩)))) (fun h => (Or.inr (Or.inr (⟨h.1, by omega⟩)))))
theorem rs_X12_bad_309__X12_clash_309 (a b : Int) (h : R_X12_bad_309 a b) : R_X12_clash_309 a b := (h.elim (fun h => (Or.inl (⟨by omega, by omega⟩))) (fun h => (Or.inr (Or.inr (⟨h.1, by omega⟩)))))
theorem rs_X12_clashOf_309__X12_clash_309 (a b : Int) (h : R_X12_clashOf_309 a b) : R_X12_clash_309 a b := (h.elim (fun h => (Or.inr (Or.inl (⟨by omega, by omega⟩)))) (fun h => (Or.inr (Or.inr (⟨h.1, by omega⟩)))))
theorem nr_X12_clashOf_309__359 (b : Int) : ¬ R_X12_clashOf_309 359 b := by
  unfold R_X12_clashOf_309; omega
theorem nr_X12_clashOf_309__374 (b : Int) : ¬ R_X12_clashOf_309 374 b := by
  unfold R_X12_clashOf_309; omega
theorem sj_X12_clash_309_J19 {fu : Nat} (hfu : 8589934592 ≤ fu) (r0 s : z_M) (c : z_CI s) (f : z_Fr R_X12_clash_309 r0 s) (a1 : Int) (t1 : Int) (b1 : -2147483648 ≤ a1 ∧ a1 ≤ 2147483647) (d1 : 0 ≤ t1 ∧ t1 ≤ 1) (p0 : t1 = 1 ∨ (0 ≤ a1 ∧ a1 < s 309 44)) (p1 : y_L s (s 309 44)) (p2 : y_BK s) (p3 : y_TA s) (p4 : y_DD s) (p5 : y_B s) (p6 : y_K s) : z_T (fX12_clash_J19 fu s 309 a1 309 t1) (P_X12_clash_309 r0) := by
  refine T_of (fX12_clash_J19.eq_1 ..) ?_
  have u1 := CI_b c (k := 309) (j := 20) bd_309_20
  have u2 := CI_b c (k := 309) (j := 36) bd_309_36
  have u3 := CI_b c (k := 309) (j := 43) bd_309_43
  have u4 := CI_b c (k := 309) (j := 44) bd_309_44
  have u5 := CI_b c (k := 309) (j := 58) bd_309_58
  have u6 := CI_b c (k := 316) (j := 0) bd_316_0
  have u7 := CI_b c (k := 329) (j := 0) bd_329_0
  have u8 := CI_b c (k := 329) (j := 1) bd_329_1
  have t9 : s 309 20 = r0 309 20 := f 309 20 (by decide)
  have t10 : s 316 0 = r0 316 0 := f 316 0 (by decide)
  have t11 : s 329 0 = r0 329 0 := f 329 0 (by decide)
  have t12 : s 329 1 = r0 329 1 := f 329 1 (by decide)
  refine T_if1 (by decide +kernel) ?_
  refine T_useI (sf_X12_bad_309 hfu s c t1 1 0 (by omega) (by omega) (by omega) (by omega)) (fun v18 s13 hq => ?_)
  obtain ⟨c14, f15, o19, ⟨x17, rfl, b20, b21, o22, o23⟩⟩ := hq
  refine T_vI ?_
  have f16 := z_Fr.tr (R := R_X12_clash_309) f f15 rs_X12_bad_309__X12_clash_309
  have t24 : s13 309 20 = s 309 20 := f15 309 20 (by decide)
  have t25 : s13 309 36 = s 309 36 := f15 309 36 (by decide)
  have t26 : s13 309 43 = s 309 43 := f15 309 43 (by decide)
  have t27 : s13 309 44 = s 309 44 := f15 309 44 (by decide)
  have t28 : s13 309 58 = s 309 58 := f15 309 58 (by decide)
  have t29 : s13 316 0 = s 316 0 := f15 316 0 (by decide)
  have t30 : s13 329 0 = s 329 0 := f15 329 0 (by decide)
  have t31 : s13 329 1 = s 329 1 := f15 329 1 (by decide)
  have r32 := y_L.fr p1 (f15 309 20 (by decide)) (fun b => f15 3438 b (nr_X12_bad_309__3438 b))
  have r33 := y_BK.fr p2 (by omega) (f15 309 20 (by decide)) (f15 309 58 (by decide)) (fun b => f15 3220 b (nr_X12_bad_309__3220 b)) (fun a b h => f15 a b (nq_X12_bad_309__3452 a b h))
  have r34 := y_TA.fr p3 (fun a b h => f15 a b (nq_X12_bad_309__316 a b h)) (fun a b h => f15 a b (nq_X12_bad_309__346 a b h)) (fun a b h => f15 a b (nq_X12_bad_309__361 a b h))
  have r35 := y_DD.fr p4 (f15 329 0 (by decide)) (f15 329 1 (by decide)) (fun b => f15 359 b (nr_X12_bad_309__359 b)) (fun b => f15 374 b (nr_X12_bad_309__374 b))
  have r36 := y_B.fr p5 (f15 309 20 (by decide)) (f15 316 0 (by decide)) (fun b => f15 3220 b (nr_X12_bad_309__3220 b)) (fun b => f15 3221 b (nr_X12_bad_309__3221 b)) (fun b => f15 3222 b (nr_X12_bad_309__3222 b)) (fun b => f15 361 b (nr_X12_bad_309__361 b))
  have r37 := y_K.fr p6 (by omega) (by omega) (f15 309 44 (by decide)) (f15 309 20 (by decide)) (f15 309 58 (by decide)) (fun b => f15 3438 b (nr_X12_bad_309__3438 b)) (fun b => f15 3220 b (nr_X12_bad_309__3220 b)) (fun a b h => f15 a b (nq_X12_bad_309__3452 a b h))
  refine T_ite (fun h38 => ?_) (fun h38 => ?_)
  · refine T_if1 (by decide +kernel) ?_
    refine T_useI (sf_X12_clashOf_309 hfu s13 c14 a1 (by omega) r36 (by first | exact r33 | exact y_K.B r37 (by omega) (by omega)) (by first | exact y_L.cg r32 (by omega) | exact y_K.L r37 (by omega) (by omega)) r34 (by omega)) (fun v44 s39 hq => ?_)
    obtain ⟨c40, f41, ⟨x43, rfl, b45, b46⟩⟩ := hq
    refine T_vI ?_
    have f42 := z_Fr.tr (R := R_X12_clash_309) f16 f41 rs_X12_clashOf_309__X12_clash_309
    have t47 : s39 309 20 = s 309 20 := (f41 309 20 (by decide)).trans t24
    have t48 : s39 309 36 = s 309 36 := (f41 309 36 (by decide)).trans t25
    have t49 : s39 309 43 = s 309 43 := (f41 309 43 (by decide)).trans t26
    have t50 : s39 309 44 = s 309 44 := (f41 309 44 (by decide)).trans t27
    have t51 : s39 309 58 = s 309 58 := (f41 309 58 (by decide)).trans t28
    have t52 : s39 316 0 = s 316 0 := (f41 316 0 (by decide)).trans t29
    have t53 : s39 329 0 = s 329 0 := (f41 329 0 (by decide)).trans t30
    have t54 : s39 329 1 = s 329 1 := (f41 329 1 (by decide)).trans t31
    have r55 := y_L.fr r32 (f41 309 20 (by decide)) (fun b => f41 3438 b (nr_X12_clashOf_309__3438 b))
    have r56 := y_BK.fr r33 (by omega) (f41 309 20 (by decide)) (f41 309 58 (by decide)) (fun b => f41 3220 b (nr_X12_clashOf_309__3220 b)) (fun a b h => f41 a b (nq_X12_clashOf_309__3452 a b h))
    have r57 := y_TA.fr r34 (fun a b h => f41 a b (nq_X12_clashOf_309__316 a b h)) (fun a b h => f41 a b (nq_X12_clashOf_309__346 a b h)) (fun a b h => f41 a b (nq_X12_clashOf_309__361 a b h))
    have r58 := y_DD.fr r35 (f41 329 0 (by decide)) (f41 329 1 (by decide)) (fun b => f41 359 b (nr_X12_clashOf_309__359 b)) (fun b => f41 374 b (nr_X12_clashOf_309__374 b))
    have r59 := y_B.fr r36 (f41 309 20 (by decide)) (f41 316 0 (by decide)) (fun b => f41 3220 b (nr_X12_clashOf_309__3220 b)) (fun b => f41 3221 b (nr_X12_clashOf_309__3221 b)) (fun b => f41 3222 b (nr_X12_clashOf_309__3222 b)) (fun b => f41 361 b (nr_X12_clashOf_309__361 b))
    have r60 := y_K.fr r37 (by omega) (by omega) (f41 309 44 (by decide)) (f41 309 20 (by decide)) (f41 309 58 (by decide)) (fun b => f41 3438 b (nr_X12_clashOf_309__3438 b)) (fun b => f41 3220 b (nr_X12_clashOf_309__3220 b)) (fun a b h => f41 a b (nq_X12_clashOf_309__3452 a b h))
    clear t24
    clear t25
    clear t26
    clear t27
    clear t28
    clear t29
    clear t30
    clear t31
    exact T_ret ⟨c40, f42, r57, (by first | exact r58 | exact y_DD.z (by omega) (by omega)), r59, (by first | exact r60 | exact y_K.b0 (by omega) | exact y_K.k0 (by omega) | exact y_K.bk (by omega) | exact y_K.mk r55 (by omega) r56), ⟨x43, rfl, by omega, by omega⟩⟩
  · exact T_ret ⟨c14, f16, r34, (by first | exact r35 | exact y_DD.z (by omega) (by omega)), r36, (by first | exact r37 | exact y_K.b0 (by omega) | exact y_K.k0 (by omega) | exact y_K.bk (by omega) | exact y_K.mk r32 (by omega) r33), ⟨0, rfl, by omega, by omega⟩⟩
theorem sf_X12_clash_309 {fu : Nat} (hfu : 8589934592 ≤ fu) (r0 : z_M) (c0 : z_CI r0) (a1 : Int) (b1 : -2147483648 ≤ a1 ∧ a1 ≤ 2147483647) (p0 : y_TA r0) (p1 : y_DD r0) (p2 : y_B r0) (p3 : y_K r0) : z_T (fX12_clash fu r0 309 a1) (P_X12_clash_309 r0) := by
  refine T_of (fX12_clash.eq_1 ..) ?_
  have u1 := CI_b c0 (k := 309) (j := 20) bd_309_20
  have u2 := CI_b c0 (k := 309) (j := 36) bd_309_36
  have u3 := CI_b c0 (k := 309) (j := 43) bd_309_43
  have u4 := CI_b c0 (k := 309) (j := 44) bd_309_44
  have u5 := CI_b c0 (k := 309) (j := 58) bd_309_58
  have u6 := CI_b c0 (k := 316) (j := 0) bd_316_0
  have u7 := CI_b c0 (k := 329) (j := 0) bd_329_0
  have u8 := CI_b c0 (k := 329) (j := 1) bd_329_1
  refine T_if1 (by decide +kernel) ?_
  refine T_upg c0 bd_309_0 (by omega) (fun s9 c10 g12 g13 e14 => ?_)
  have f11 := z_Fr.upf (R := R_X12_clash_309) z_Fr.rf g12 g13 (Or.inr (Or.inr (⟨rfl, by decide⟩)))
  have t15 : s9 309 20 = r0 309 20 := g13 20 (by decide)
  have t16 : s9 309 36 = r0 309 36 := g13 36 (by decide)
  have t17 : s9 309 43 = r0 309 43 := g13 43 (by decide)
  have t18 : s9 309 44 = r0 309 44 := g13 44 (by decide)
  have t19 : s9 309 58 = r0 309 58 := g13 58 (by decide)
  have t20 : s9 316 0 = r0 316 0 := g12 316 0 (by decide)
  have t21 : s9 329 0 = r0 329 0 := g12 329 0 (by decide)
  have t22 : s9 329 1 = r0 329 1 := g12 329 1 (by decide)
  have r23 := y_TA.fr p0 (fun a b h => g12 a b (by omega)) (fun a b h => g12 a b (by omega)) (fun a b h => g12 a b (by omega))
  have r24 := y_DD.fr p1 (g12 329 0 (by decide)) (g12 329 1 (by decide)) (fun b => g12 359 b (by decide)) (fun b => g12 374 b (by decide))
  have r25 := y_B.fr p2 (g13 20 (by decide)) (g12 316 0 (by decide)) (fun b => g12 3220 b (by decide)) (fun b => g12 3221 b (by decide)) (fun b => g12 3222 b (by decide)) (fun b => g12 361 b (by decide))
  have r26 := y_K.fr p3 (by omega) (by omega) (g13 44 (by decide)) (g13 20 (by decide)) (g13 58 (by decide)) (fun b => g12 3438 b (by decide)) (fun b => g12 3220 b (by decide)) (fun a b h => g12 a b (by omega))
  refine T_if1 (by decide +kernel) ?_
  refine T_useI (sf_X12_isLine_309 hfu s9 c10 a1 (by omega) r25 (by first | exact r26 | exact y_K.b0 (by omega) | exact y_K.k0 (by omega) | exact y_K.bk (by omega))) (fun v32 s27 hq => ?_)
  obtain ⟨c28, f29, o33, o34, o35, o36, o37, o38, ⟨x31, rfl, b39, b40, o41⟩⟩ := hq
  refine T_vI ?_
  have f30 := z_Fr.tr (R := R_X12_clash_309) f11 f29 rs_X12_isLine_309__X12_clash_309
  have t42 : s27 309 20 = r0 309 20 := (f29 309 20 (by decide)).trans t15
  have t43 : s27 316 0 = r0 316 0 := (f29 316 0 (by decide)).trans t20
  have t44 : s27 329 0 = r0 329 0 := (f29 329 0 (by decide)).trans t21
  have t45 : s27 329 1 = r0 329 1 := (f29 329 1 (by decide)).trans t22
  have u46 := CI_b c28 (k := 309) (j := 36) bd_309_36
  have u47 := CI_b c28 (k := 309) (j := 43) bd_309_43
  have u48 := CI_b c28 (k := 309) (j := 44) bd_309_44
  have u49 := CI_b c28 (k := 309) (j := 58) bd_309_58
  have r50 := y_TA.fr r23 (fun a b h => f29 a b (nq_X12_isLine_309__316 a b h)) (fun a b h => f29 a b (nq_X12_isLine_309__346 a b h)) (fun a b h => f29 a b (nq_X12_isLine_309__361 a b h))
  have r51 := y_DD.fr r24 (f29 329 0 (by decide)) (f29 329 1 (by decide)) (fun b => f29 359 b (nr_X12_isLine_309__359 b)) (fun b => f29 374 b (nr_X12_isLine_309__374 b))
  have r52 := y_B.fr r25 (f29 309 20 (by decide)) (f29 316 0 (by decide)) (fun b => f29 3220 b (nr_X12_isLine_309__3220 b)) (fun b => f29 3221 b (nr_X12_isLine_309__3221 b)) (fun b => f29 3222 b (nr_X12_isLine_309__3222 b)) (fun b => f29 361 b (nr_X12_isLine_309__361 b))
  clear t15
  clear t20
  clear t21
  clear t22
  refine T_ite (fun h53 => ?_) (fun h53 => ?_)
  · exact sj_X12_clash_309_J19 hfu r0 s27 c28 f30 a1 0 (by omega) (by omega) (by omega) (by first | exact y_L.cg o34 (by omega) | exact y_K.L o33 (by omega) (by omega)) (by first | exact o35 | exact y_K.B o33 (by omega) (by omega)) r50 (by first | exact r51 | exact y_DD.z (by omega) (by omega)) r52 (by first | exact o33 | exact y_K.b0 (by omega) | exact y_K.k0 (by omega) | exact y_K.bk (by omega) | exact y_K.mk o34 (by omega) o35)
  · exact sj_X12_clash_309_J19 hfu r0 s27 c28 f30 a1 1 (by omega) (by omega) (by omega) (by first | exact y_L.cg o34 (by omega) | exact y_K.L o33 (by omega) (by omega)) (by first | exact o35 | exact y_K.B o33 (by omega) (by omega)) r50 (by first | exact r51 | exact y_DD.z (by omega) (by omega)) r52 (by first | exact o33 | exact y_K.b0 (by omega) | exact y_K.k0 (by omega) | exact y_K.bk (by omega) | exact y_K.mk o34 (by omega) o35)
abbrev R_X12_thickOf_309 (a b : Int) : Prop := (3653 ≤ a ∧ a ≤ 7652) ∨ (a = 309 ∧ (b = 60))
abbrev P_X12_thickOf_309 (r0 : z_M) : z_V → z_M → Prop := fun v s' => z_CI s' ∧ z_Fr R_X12_thickOf_309 r0 s' ∧ (∃ x, v = vI x ∧ -2147483648 ≤ x ∧ x ≤ 2147483647)
theorem rs_X12_sideOf_309__X12_thickOf_309 (a b : Int) (h : R_X12_sideOf_309 a b) : R_X12_thickOf_309 a b := (h.elim (fun h => (Or.inl (⟨by omega, by omega⟩))) (fun h => (Or.inr (⟨h.1, by omega⟩))))
theorem rs_X12_gutterOf_309__X12_thickOf_309 (a b : Int) (h : R_X12_gutterOf_309 a b) : R_X12_thickOf_309 a b := (h.elim (fun h => (Or.inl (⟨by omega, by omega⟩))) (fun h => (Or.inr (⟨h.1, by omega⟩))))
theorem sl_X12_thickOf_309_L38 {fu : Nat} (hfu : 8589934592 ≤ fu) (r0 : z_M) (a2 : Int) (b2 : 0 ≤ a2 ∧ a2 ≤ 199) {k : z_M → Int → z_O} (hk : ∀ (s' : z_M) (v3 : Int), z_CI s' → z_Fr R_X12_thickOf_309 r0 s' → (-2147483648 ≤ v3 ∧ v3 ≤ 2147483647) → z_T (k s' v3) (P_X12_thickOf_309 r0)) : ∀ (F : Nat) (s : z_M) (a3 : Int) (a4 : Int), z_CI s → z_Fr R_X12_thickOf_309 r0 s → (-2147483648 ≤ a3 ∧ a3 ≤ 2147483647) → (0 ≤ a4 ∧ a4 ≤ 199) → (y_B s) → (y_BK s) → (y_L s (s 309 44)) → (y_TA s) → (a4 ≤ a2) → (a2 < s 309 44) → (2147483647 - a4 < (F : Int)) → z_T (fX12_thickOf_L38 fu 309 a2 F s a3 a4 k) (P_X12_thickOf_309 r0) := by
  intro F
  induction F with
  | zero =>
    intro s a3 a4 c f b3 b4 i0 i1 i2 i3 i4 i5 hm
    have u35 := CI_b c (k := 309) (j := 20) bd_309_20
    have u36 := CI_b c (k := 309) (j := 44) bd_309_44
    have u37 := CI_b c (k := 309) (j := 58) bd_309_58
    have u38 := CI_b c (k := 316) (j := 0) bd_316_0
    exfalso; omega
  | succ F ih =>
    intro s a3 a4 c f b3 b4 i0 i1 i2 i3 i4 i5 hm
    refine T_of (fX12_thickOf_L38.eq_2 ..) ?_
    have u1 := CI_b c (k := 309) (j := 20) bd_309_20
    have u2 := CI_b c (k := 309) (j := 44) bd_309_44
    have u3 := CI_b c (k := 309) (j := 58) bd_309_58
    have u4 := CI_b c (k := 316) (j := 0) bd_316_0
    have t5 : s 309 20 = r0 309 20 := f 309 20 (by decide)
    have t6 : s 309 44 = r0 309 44 := f 309 44 (by decide)
    have t7 : s 309 58 = r0 309 58 := f 309 58 (by decide)
    have t8 : s 316 0 = r0 316 0 := f 316 0 (by decide)
    refine T_ite (fun h9 => ?_) (fun h9 => ?_)
    · exact hk s a3 c f (by omega)
    · refine T_if1 (by decide +kernel) ?_
      refine T_useI (sf_X12_gutterOf_309 hfu s c a4 (by omega) i0 i1 (by first | exact y_L.cg i2 (by omega)) i3 (by omega)) (fun v15 s10 hq => ?_)
      obtain ⟨c11, f12, ⟨x14, rfl, b16, b17⟩⟩ := hq
      refine T_vI ?_
      have f13 := z_Fr.tr (R := R_X12_thickOf_309) f f12 rs_X12_gutterOf_309__X12_thickOf_309
      have t18 : s10 309 20 = s 309 20 := f12 309 20 (by decide)
      have t19 : s10 309 44 = s 309 44 := f12 309 44 (by decide)
      have t20 : s10 309 58 = s 309 58 := f12 309 58 (by decide)
      have t21 : s10 316 0 = s 316 0 := f12 316 0 (by decide)
      have r22 := y_B.fr i0 (f12 309 20 (by decide)) (f12 316 0 (by decide)) (fun b => f12 3220 b (nr_X12_gutterOf_309__3220 b)) (fun b => f12 3221 b (nr_X12_gutterOf_309__3221 b)) (fun b => f12 3222 b (nr_X12_gutterOf_309__3222 b)) (fun b => f12 361 b (nr_X12_gutterOf_309__361 b))
      have r23 := y_BK.fr i1 (by omega) (f12 309 20 (by decide)) (f12 309 58 (by decide)) (fun b => f12 3220 b (nr_X12_gutterOf_309__3220 b)) (fun a b h => f12 a b (nq_X12_gutterOf_309__3452 a b h))
      have r24 := y_L.fr i2 (f12 309 20 (by decide)) (fun b => f12 3438 b (nr_X12_gutterOf_309__3438 b))
      have r25 := y_TA.fr i3 (fun a b h => f12 a b (nq_X12_gutterOf_309__316 a b h)) (fun a b h => f12 a b (nq_X12_gutterOf_309__346 a b h)) (fun a b h => f12 a b (nq_X12_gutterOf_309__361 a b h))
      refine T_leq (fun x26 e27 => ?_)
      first | (have w28 := z_wx e27 (by omega)) | (have w28 := z_wr e27)
      refine T_leq (fun x29 e30 => ?_)
      first | (have w31 := z_wx e30 (by omega)) | (have w31 := z_wr e30)
      refine T_leq (fun x32 e33 => ?_)
      first | (have w34 := z_wx e33 (by omega)) | (have w34 := z_wr e33)
      exact ih s10 x29 x32 c11 f13 (by omega) (by omega) r22 r23 (by first | exact y_L.cg r24 (by omega)) r25 (by omega) (by omega) (by omega)
theorem sj_X12_thickOf_309_J30 {fu : Nat} (hfu : 8589934592 ≤ fu) (r0 s : z_M) (c : z_CI s) (f : z_Fr R_X12_thickOf_309 r0 s) (a1 : Int) (a2 : Int) (t0 : Int) (t1 : Int) (b1 : 0 ≤ a1 ∧ a1 ≤ 199) (b2 : 0 ≤ a2 ∧ a2 ≤ 199) (d0 : -2147483648 ≤ t0 ∧ t0 ≤ 2147483647) (d1 : 0 ≤ t1 ∧ t1 ≤ 6) (p0 : y_B s) (p1 : y_BK s) (p2 : y_L s (s 309 44)) (p3 : y_TA s) (p4 : a1 ≤ a2) (p5 : a2 < s 309 44) : z_T (fX12_thickOf_J30 fu s 309 a1 a2 t0 t1) (P_X12_thickOf_309 r0) := by
  refine T_of (fX12_thickOf_J30.eq_1 ..) ?_
  have u1 := CI_b c (k := 309) (j := 20) bd_309_20
  have u2 := CI_b c (k := 309) (j := 44) bd_309_44
  have u3 := CI_b c (k := 309) (j := 58) bd_309_58
  have u4 := CI_b c (k := 316) (j := 0) bd_316_0
  have t5 : s 309 20 = r0 309 20 := f 309 20 (by decide)
  have t6 : s 309 44 = r0 309 44 := f 309 44 (by decide)
  have t7 : s 309 58 = r0 309 58 := f 309 58 (by decide)
  have t8 : s 316 0 = r0 316 0 := f 316 0 (by decide)
  refine T_leq (fun x9 e10 => ?_)
  first | (have w11 := z_wx e10 (by omega)) | (have w11 := z_wr e10)
  refine T_leq (fun x12 e13 => ?_)
  first | (have w14 := z_wx e13 (by omega)) | (have w14 := z_wr e13)
  refine sl_X12_thickOf_309_L38 hfu r0 a2 (by omega) (fun s15 y18 c16 f17 b19 => ?_) fu s x12 a1 c f (by omega) (by omega) p0 p1 (by first | exact y_L.cg p2 (by omega)) p3 (by omega) (by omega) (by omega)
  have u20 := CI_b c16 (k := 309) (j := 20) bd_309_20
  have u21 := CI_b c16 (k := 309) (j := 44) bd_309_44
  have u22 := CI_b c16 (k := 309) (j := 58) bd_309_58
  have u23 := CI_b c16 (k := 316) (j := 0) bd_316_0
  have t24 : s15 309 20 = r0 309 20 := f17 309 20 (by decide)
  have t25 : s15 309 44 = r0 309 44 := f17 309 44 (by decide)
  have t26 : s15 309 58 = r0 309 58 := f17 309 58 (by decide)
  have t27 : s15 316 0 = r0 316 0 := f17 316 0 (by decide)
  exact T_ret ⟨c16, f17, ⟨y18, rfl, by omega, by omega⟩⟩
theorem sj_X12_thickOf_309_J15 {fu : Nat} (hfu : 8589934592 ≤ fu) (r0 s : z_M) (c : z_CI s) (f : z_Fr R_X12_thickOf_309 r0 s) (a1 : Int) (a2 : Int) (t0 : Int) (b1 : 0 ≤ a1 ∧ a1 ≤ 199) (b2 : 0 ≤ a2 ∧ a2 ≤ 199) (d0 : 0 ≤ t0 ∧ t0 ≤ 6) (p0 : y_B s) (p1 : y_BK s) (p2 : y_L s (s 309 44)) (p3 : y_TA s) (p4 : a1 ≤ a2) (p5 : a2 < s 309 44) : z_T (fX12_thickOf_J15 fu s 309 a1 a2 t0) (P_X12_thickOf_309 r0) := by
  refine T_of (fX12_thickOf_J15.eq_1 ..) ?_
  have u1 := CI_b c (k := 309) (j := 20) bd_309_20
  have u2 := CI_b c (k := 309) (j := 44) bd_309_44
  have u3 := CI_b c (k := 309) (j := 58) bd_309_58
  have u4 := CI_b c (k := 316) (j := 0) bd_316_0
  have t5 : s 309 20 = r0 309 20 := f 309 20 (by decide)
  have t6 : s 309 44 = r0 309 44 := f 309 44 (by decide)
  have t7 : s 309 58 = r0 309 58 := f 309 58 (by decide)
  have t8 : s 316 0 = r0 316 0 := f 316 0 (by decide)
  refine T_if1 (by decide +kernel) ?_
  refine T_useI (sf_X12_sideOf_309 hfu s c a2 1 (by omega) (by omega) p0 p1 (by first | exact y_L.cg p2 (by omega)) p3 (by omega)) (fun v14 s9 hq => ?_)
  obtain ⟨c10, f11, ⟨x13, rfl, b15, b16, o17⟩⟩ := hq
  refine T_vI ?_
  have f12 := z_Fr.tr (R := R_X12_thickOf_309) f f11 rs_X12_sideOf_309__X12_thickOf_309
  have t18 : s9 309 20 = s 309 20 := f11 309 20 (by decide)
  have t19 : s9 309 44 = s 309 44 := f11 309 44 (by decide)
  have t20 : s9 309 58 = s 309 58 := f11 309 58 (by decide)
  have t21 : s9 316 0 = s 316 0 := f11 316 0 (by decide)
  have r22 := y_B.fr p0 (f11 309 20 (by decide)) (f11 316 0 (by decide)) (fun b => f11 3220 b (nr_X12_sideOf_309__3220 b)) (fun b => f11 3221 b (nr_X12_sideOf_309__3221 b)) (fun b => f11 3222 b (nr_X12_sideOf_309__3222 b)) (fun b => f11 361 b (nr_X12_sideOf_309__361 b))
  have r23 := y_BK.fr p1 (by omega) (f11 309 20 (by decide)) (f11 309 58 (by decide)) (fun b => f11 3220 b (nr_X12_sideOf_309__3220 b)) (fun a b h => f11 a b (nq_X12_sideOf_309__3452 a b h))
  have r24 := y_L.fr p2 (f11 309 20 (by decide)) (fun b => f11 3438 b (nr_X12_sideOf_309__3438 b))
  have r25 := y_TA.fr p3 (fun a b h => f11 a b (nq_X12_sideOf_309__316 a b h)) (fun a b h => f11 a b (nq_X12_sideOf_309__346 a b h)) (fun a b h => f11 a b (nq_X12_sideOf_309__361 a b h))
  refine T_ite (fun h26 => ?_) (fun h26 => ?_)
  · exact sj_X12_thickOf_309_J30 hfu r0 s9 c10 f12 a1 a2 t0 0 (by omega) (by omega) (by omega) (by omega) r22 r23 (by first | exact y_L.cg r24 (by omega)) r25 (by omega) (by omega)
  · exact sj_X12_thickOf_309_J30 hfu r0 s9 c10 f12 a1 a2 t0 6 (by omega) (by omega) (by omega) (by omega) r22 r23 (by first | exact y_L.cg r24 (by omega)) r25 (by omega) (by omega)
theorem sf_X12_thickOf_309 {fu : Nat} (hfu : 8589934592 ≤ fu) (r0 : z_M) (c0 : z_CI r0) (a1 : Int) (a2 : Int) (b1 : 0 ≤ a1 ∧ a1 ≤ 199) (b2 : 0 ≤ a2 ∧ a2 ≤ 199) (p0 : y_B r0) (p1 : y_BK r0) (p2 : y_L r0 (r0 309 44)) (p3 : y_TA r0) (p4 : a1 ≤ a2) (p5 : a2 < r0 309 44) : z_T (fX12_thickOf fu r0 309 a1 a2) (P_X12_thickOf_309 r0) := by
  refine T_of (fX12_thickOf.eq_1 ..) ?_
  have u1 := CI_b c0 (k := 309) (j := 20) bd_309_20
  have u2 := CI_b c0 (k := 309) (j := 44) bd_309_44
  have u3 := CI_b c0 (k := 309) (j := 58) bd_309_58
  have u4 := CI_b c0 (k := 316) (j := 0) bd_316_0
  refine T_if1 (by decide +kernel) ?_
  refine T_useI (sf_X12_sideOf_309 hfu r0 c0 a1 0 (by omega) (by omega) p0 p1 (by first | exact y_L.cg p2 (by omega)) p3 (by omega)) (fun v10 s5 hq => ?_)
  obtain ⟨c6, f7, ⟨x9, rfl, b11, b12, o13⟩⟩ := hq
  refine T_vI ?_
  have f8 := z_Fr.tr (R := R_X12_thickOf_309) z_Fr.rf f7 rs_X12_sideOf_309__X12_thickOf_309
  have t14 : s5 309 20 = r0 309 20 := f7 309 20 (by decide)
  have t15 : s5 309 44 = r0 309 44 := f7 309 44 (by decide)
  have t16 : s5 309 58 = r0 309 58 := f7 309 58 (by decide)
  have t17 : s5 316 0 = r0 316 0 := f7 316 0 (by decide)
  have r18 := y_B.fr p0 (f7 309 20 (by decide)) (f7 316 0 (by decide)) (fun b => f7 3220 b (nr_X12_sideOf_309__3220 b)) (fun b => f7 3221 b (nr_X12_sideOf_309__3221 b)) (fun b => f7 3222 b (nr_X12_sideOf_309__3222 b)) (fun b => f7 361 b (nr_X12_sideOf_309__361 b))
  have r19 := y_BK.fr p1 (by omega) (f7 309 20 (by decide)) (f7 309 58 (by decide)) (fun b => f7 3220 b (nr_X12_sideOf_309__3220 b)) (fun a b h => f7 a b (nq_X12_sideOf_309__3452 a b h))
  have r20 := y_L.fr p2 (f7 309 20 (by decide)) (fun b => f7 3438 b (nr_X12_sideOf_309__3438 b))
  have r21 := y_TA.fr p3 (fun a b h => f7 a b (nq_X12_sideOf_309__316 a b h)) (fun a b h => f7 a b (nq_X12_sideOf_309__346 a b h)) (fun a b h => f7 a b (nq_X12_sideOf_309__361 a b h))
  refine T_ite (fun h22 => ?_) (fun h22 => ?_)
  · exact sj_X12_thickOf_309_J15 hfu r0 s5 c6 f8 a1 a2 0 (by omega) (by omega) (by omega) r18 r19 (by first | exact y_L.cg r20 (by omega)) r21 (by omega) (by omega)
  · exact sj_X12_thickOf_309_J15 hfu r0 s5 c6 f8 a1 a2 6 (by omega) (by omega) (by omega) r18 r19 (by first | exact y_L.cg r20 (by omega)) r21 (by omega) (by omega)
abbrev R_X12_thick_309 (a b : Int) : Prop := (310 ≤ a ∧ a ≤ 310) ∨ (3224 ≤ a ∧ a ≤ 7652) ∨ (a = 309 ∧ (b = 0 ∨ b = 35 ∨ b = 36 ∨ b = 38 ∨ b = 39 ∨ b = 43 ∨ b = 44 ∨ b = 58 ∨ b = 60))
abbrev P_X12_thick_309 (r0 : z_M) : z_V → z_M → Prop := fun v s' => z_CI s' ∧ z_Fr R_X12_thick_309 r0 s' ∧ (y_TA s') ∧ (y_DD s') ∧ (y_B s') ∧ (y_K s') ∧ (∃ x, v = vI x ∧ -2147483648 ≤ x ∧ x ≤ 2147483647)
theorem rs_X12_isLine_309__X12_thick_309 (a b : Int) (h : R_X12_isLine_309 a b) : R_X12_thick_309 a b := (h.elim (fun h => (Or.inr (Or.inl (⟨by omega, by omega⟩)))) (fun h => (Or.inr (Or.inr (⟨h.1, by omega⟩)))))
theorem rs_X12_bad_309__X12_thick_309 (a b : Int) (h : R_X12_bad_309 a b) : R_X12_thick_309 a b := (h.elim (fun h => (Or.inl (⟨by omega, by omega⟩))) (fun h => (Or.inr (Or.inr (⟨h.1, by omega⟩)))))
theorem sj_X12_thick_309_J54 {fu : Nat} (hfu : 8589934592 ≤ fu) (r0 s : z_M) (c : z_CI s) (f : z_Fr R_X12_thick_309 r0 s) (p0 : y_TA s) (p1 : y_DD s) (p2 : y_B s) (p3 : y_K s) : z_T (fX12_thick_J54 fu s) (P_X12_thick_309 r0) := by
  refine T_of (fX12_thick_J54.eq_1 ..) ?_
  have u1 := CI_b c (k := 309) (j := 20) bd_309_20
  have u2 := CI_b c (k := 309) (j := 36) bd_309_36
  have u3 := CI_b c (k := 309) (j := 43) bd_309_43
  have u4 := CI_b c (k := 309) (j := 44) bd_309_44
  have u5 := CI_b c (k := 309) (j := 58) bd_309_58
  have u6 := CI_b c (k := 316) (j := 0) bd_316_0
  have u7 := CI_b c (k := 329) (j := 0) bd_329_0
  have u8 := CI_b c (k := 329) (j := 1) bd_329_1
  have t9 : s 309 20 = r0 309 20 := f 309 20 (by decide)
  have t10 : s 316 0 = r0 316 0 := f 316 0 (by decide)
  have t11 : s 329 0 = r0 329 0 := f 329 0 (by decide)
  have t12 : s 329 1 = r0 329 1 := f 329 1 (by decide)
  exact T_ret ⟨c, f, p0, (by first | exact p1 | exact y_DD.z (by omega) (by omega)), p2, (by first | exact p3 | exact y_K.b0 (by omega) | exact y_K.k0 (by omega) | exact y_K.bk (by omega)), ⟨0, rfl, by omega, by omega⟩⟩
theorem rs_X12_thickOf_309__X12_thick_309 (a b : Int) (h : R_X12_thickOf_309 a b) : R_X12_thick_309 a b := (h.elim (fun h => (Or.inr (Or.inl (⟨by omega, by omega⟩)))) (fun h => (Or.inr (Or.inr (⟨h.1, by omega⟩)))))
theorem nr_X12_thickOf_309__3438 (b : Int) : ¬ R_X12_thickOf_309 3438 b := by
  unfold R_X12_thickOf_309; omega
theorem nr_X12_thickOf_309__3220 (b : Int) : ¬ R_X12_thickOf_309 3220 b := by
  unfold R_X12_thickOf_309; omega
theorem nq_X12_thickOf_309__3452 (a b : Int) (h : 3452 ≤ a ∧ a ≤ 3651) : ¬ R_X12_thickOf_309 a b := by
  unfold R_X12_thickOf_309; omega
theorem nq_X12_thickOf_309__316 (a b : Int) (h : 316 ≤ a ∧ a ≤ 328) : ¬ R_X12_thickOf_309 a b := by
  unfold R_X12_thickOf_309; omega
theorem nq_X12_thickOf_309__346 (a b : Int) (h : 346 ≤ a ∧ a ≤ 358) : ¬ R_X12_thickOf_309 a b := by
  unfold R_X12_thickOf_309; omega
theorem nq_X12_thickOf_309__361 (a b : Int) (h : 361 ≤ a ∧ a ≤ 373) : ¬ R_X12_thickOf_309 a b := by
  unfold R_X12_thickOf_309; omega
theorem nr_X12_thickOf_309__359 (b : Int) : ¬ R_X12_thickOf_309 359 b := by
  unfold R_X12_thickOf_309; omega
theorem nr_X12_thickOf_309__374 (b : Int) : ¬ R_X12_thickOf_309 374 b := by
  unfold R_X12_thickOf_309; omega
theorem nr_X12_thickOf_309__3221 (b : Int) : ¬ R_X12_thickOf_309 3221 b := by
  unfold R_X12_thickOf_309; omega
theorem nr_X12_thickOf_309__3222 (b : Int) : ¬ R_X12_thickOf_309 3222 b := by
  unfold R_X12_thickOf_309; omega
theorem nr_X12_thickOf_309__361 (b : Int) : ¬ R_X12_thickOf_309 361 b := by
  unfold R_X12_thickOf_309; omega
theorem sj_X12_thick_309_J46 {fu : Nat} (hfu : 8589934592 ≤ fu) (r0 s : z_M) (c : z_CI s) (f : z_Fr R_X12_thick_309 r0 s) (a1 : Int) (a2 : Int) (t1 : Int) (b1 : -2147483648 ≤ a1 ∧ a1 ≤ 2147483647) (b2 : -2147483648 ≤ a2 ∧ a2 ≤ 2147483647) (d1 : 0 ≤ t1 ∧ t1 ≤ 1) (p0 : 0 ≤ a1 ∧ a1 < s 309 44 ∧ 0 ≤ a2 ∧ a2 < s 309 44) (p1 : t1 = 1 ∨ a1 ≤ a2) (p2 : y_L s (s 309 44)) (p3 : y_BK s) (p4 : y_TA s) (p5 : y_DD s) (p6 : y_B s) (p7 : y_K s) : z_T (fX12_thick_J46 fu s 309 a1 a2 309 t1) (P_X12_thick_309 r0) := by
  refine T_of (fX12_thick_J46.eq_1 ..) ?_
  have u1 := CI_b c (k := 309) (j := 20) bd_309_20
  have u2 := CI_b c (k := 309) (j := 36) bd_309_36
  have u3 := CI_b c (k := 309) (j := 43) bd_309_43
  have u4 := CI_b c (k := 309) (j := 44) bd_309_44
  have u5 := CI_b c (k := 309) (j := 58) bd_309_58
  have u6 := CI_b c (k := 316) (j := 0) bd_316_0
  have u7 := CI_b c (k := 329) (j := 0) bd_329_0
  have u8 := CI_b c (k := 329) (j := 1) bd_329_1
  have t9 : s 309 20 = r0 309 20 := f 309 20 (by decide)
  have t10 : s 316 0 = r0 316 0 := f 316 0 (by decide)
  have t11 : s 329 0 = r0 329 0 := f 329 0 (by decide)
  have t12 : s 329 1 = r0 329 1 := f 329 1 (by decide)
  refine T_if1 (by decide +kernel) ?_
  refine T_useI (sf_X12_bad_309 hfu s c t1 2 1 (by omega) (by omega) (by omega) (by omega)) (fun v18 s13 hq => ?_)
  obtain ⟨c14, f15, o19, ⟨x17, rfl, b20, b21, o22, o23⟩⟩ := hq
  refine T_vI ?_
  have f16 := z_Fr.tr (R := R_X12_thick_309) f f15 rs_X12_bad_309__X12_thick_309
  have t24 : s13 309 20 = s 309 20 := f15 309 20 (by decide)
  have t25 : s13 309 36 = s 309 36 := f15 309 36 (by decide)
  have t26 : s13 309 43 = s 309 43 := f15 309 43 (by decide)
  have t27 : s13 309 44 = s 309 44 := f15 309 44 (by decide)
  have t28 : s13 309 58 = s 309 58 := f15 309 58 (by decide)
  have t29 : s13 316 0 = s 316 0 := f15 316 0 (by decide)
  have t30 : s13 329 0 = s 329 0 := f15 329 0 (by decide)
  have t31 : s13 329 1 = s 329 1 := f15 329 1 (by decide)
  have r32 := y_L.fr p2 (f15 309 20 (by decide)) (fun b => f15 3438 b (nr_X12_bad_309__3438 b))
  have r33 := y_BK.fr p3 (by omega) (f15 309 20 (by decide)) (f15 309 58 (by decide)) (fun b => f15 3220 b (nr_X12_bad_309__3220 b)) (fun a b h => f15 a b (nq_X12_bad_309__3452 a b h))
  have r34 := y_TA.fr p4 (fun a b h => f15 a b (nq_X12_bad_309__316 a b h)) (fun a b h => f15 a b (nq_X12_bad_309__346 a b h)) (fun a b h => f15 a b (nq_X12_bad_309__361 a b h))
  have r35 := y_DD.fr p5 (f15 329 0 (by decide)) (f15 329 1 (by decide)) (fun b => f15 359 b (nr_X12_bad_309__359 b)) (fun b => f15 374 b (nr_X12_bad_309__374 b))
  have r36 := y_B.fr p6 (f15 309 20 (by decide)) (f15 316 0 (by decide)) (fun b => f15 3220 b (nr_X12_bad_309__3220 b)) (fun b => f15 3221 b (nr_X12_bad_309__3221 b)) (fun b => f15 3222 b (nr_X12_bad_309__3222 b)) (fun b => f15 361 b (nr_X12_bad_309__361 b))
  have r37 := y_K.fr p7 (by omega) (by omega) (f15 309 44 (by decide)) (f15 309 20 (by decide)) (f15 309 58 (by decide)) (fun b => f15 3438 b (nr_X12_bad_309__3438 b)) (fun b => f15 3220 b (nr_X12_bad_309__3220 b)) (fun a b h => f15 a b (nq_X12_bad_309__3452 a b h))
  refine T_ite (fun h38 => ?_) (fun h38 => ?_)
  · refine T_if1 (by decide +kernel) ?_
    refine T_useI (sf_X12_thickOf_309 hfu s13 c14 a1 a2 (by omega) (by omega) r36 (by first | exact r33 | exact y_K.B r37 (by omega) (by omega)) (by first | exact y_L.cg r32 (by omega) | exact y_K.L r37 (by omega) (by omega)) r34 (by omega) (by omega)) (fun v44 s39 hq => ?_)
    obtain ⟨c40, f41, ⟨x43, rfl, b45, b46⟩⟩ := hq
    refine T_vI ?_
    have f42 := z_Fr.tr (R := R_X12_thick_309) f16 f41 rs_X12_thickOf_309__X12_thick_309
    have t47 : s39 309 20 = s 309 20 := (f41 309 20 (by decide)).trans t24
    have t48 : s39 309 36 = s 309 36 := (f41 309 36 (by decide)).trans t25
    have t49 : s39 309 43 = s 309 43 := (f41 309 43 (by decide)).trans t26
    have t50 : s39 309 44 = s 309 44 := (f41 309 44 (by decide)).trans t27
    have t51 : s39 309 58 = s 309 58 := (f41 309 58 (by decide)).trans t28
    have t52 : s39 316 0 = s 316 0 := (f41 316 0 (by decide)).trans t29
    have t53 : s39 329 0 = s 329 0 := (f41 329 0 (by decide)).trans t30
    have t54 : s39 329 1 = s 329 1 := (f41 329 1 (by decide)).trans t31
    have r55 := y_L.fr r32 (f41 309 20 (by decide)) (fun b => f41 3438 b (nr_X12_thickOf_309__3438 b))
    have r56 := y_BK.fr r33 (by omega) (f41 309 20 (by decide)) (f41 309 58 (by decide)) (fun b => f41 3220 b (nr_X12_thickOf_309__3220 b)) (fun a b h => f41 a b (nq_X12_thickOf_309__3452 a b h))
    have r57 := y_TA.fr r34 (fun a b h => f41 a b (nq_X12_thickOf_309__316 a b h)) (fun a b h => f41 a b (nq_X12_thickOf_309__346 a b h)) (fun a b h => f41 a b (nq_X12_thickOf_309__361 a b h))
    have r58 := y_DD.fr r35 (f41 329 0 (by decide)) (f41 329 1 (by decide)) (fun b => f41 359 b (nr_X12_thickOf_309__359 b)) (fun b => f41 374 b (nr_X12_thickOf_309__374 b))
    have r59 := y_B.fr r36 (f41 309 20 (by decide)) (f41 316 0 (by decide)) (fun b => f41 3220 b (nr_X12_thickOf_309__3220 b)) (fun b => f41 3221 b (nr_X12_thickOf_309__3221 b)) (fun b => f41 3222 b (nr_X12_thickOf_309__3222 b)) (fun b => f41 361 b (nr_X12_thickOf_309__361 b))
    have r60 := y_K.fr r37 (by omega) (by omega) (f41 309 44 (by decide)) (f41 309 20 (by decide)) (f41 309 58 (by decide)) (fun b => f41 3438 b (nr_X12_thickOf_309__3438 b)) (fun b => f41 3220 b (nr_X12_thickOf_309__3220 b)) (fun a b h => f41 a b (nq_X12_thickOf_309__3452 a b h))
    clear t24
    clear t25
    clear t26
    clear t27
    clear t28
    clear t29
    clear t30
    clear t31
    exact T_ret ⟨c40, f42, r57, (by first | exact r58 | exact y_DD.z (by omega) (by omega)), r59, (by first | exact r60 | exact y_K.b0 (by omega) | exact y_K.k0 (by omega) | exact y_K.bk (by omega) | exact y_K.mk r55 (by omega) r56), ⟨x43, rfl, by omega, by omega⟩⟩
  · exact sj_X12_thick_309_J54 hfu r0 s13 c14 f16 r34 (by first | exact r35 | exact y_DD.z (by omega) (by omega)) r36 (by first | exact r37 | exact y_K.b0 (by omega) | exact y_K.k0 (by omega) | exact y_K.bk (by omega) | exact y_K.mk r32 (by omega) r33)
theorem sj_X12_thick_309_J27 {fu : Nat} (hfu : 8589934592 ≤ fu) (r0 s : z_M) (c : z_CI s) (f : z_Fr R_X12_thick_309 r0 s) (a1 : Int) (a2 : Int) (t1 : Int) (b1 : -2147483648 ≤ a1 ∧ a1 ≤ 2147483647) (b2 : -2147483648 ≤ a2 ∧ a2 ≤ 2147483647) (d1 : 0 ≤ t1 ∧ t1 ≤ 1) (p0 : t1 = 1 ∨ (0 ≤ a1 ∧ a1 < s 309 44 ∧ 0 ≤ a2 ∧ a2 < s 309 44)) (p1 : y_L s (s 309 44)) (p2 : y_BK s) (p3 : y_TA s) (p4 : y_DD s) (p5 : y_B s) (p6 : y_K s) : z_T (fX12_thick_J27 fu s 309 a1 a2 309 t1) (P_X12_thick_309 r0) := by
  refine T_of (fX12_thick_J27.eq_1 ..) ?_
  have u1 := CI_b c (k := 309) (j := 20) bd_309_20
  have u2 := CI_b c (k := 309) (j := 36) bd_309_36
  have u3 := CI_b c (k := 309) (j := 43) bd_309_43
  have u4 := CI_b c (k := 309) (j := 44) bd_309_44
  have u5 := CI_b c (k := 309) (j := 58) bd_309_58
  have u6 := CI_b c (k := 316) (j := 0) bd_316_0
  have u7 := CI_b c (k := 329) (j := 0) bd_329_0
  have u8 := CI_b c (k := 329) (j := 1) bd_329_1
  have t9 : s 309 20 = r0 309 20 := f 309 20 (by decide)
  have t10 : s 316 0 = r0 316 0 := f 316 0 (by decide)
  have t11 : s 329 0 = r0 329 0 := f 329 0 (by decide)
  have t12 : s 329 1 = r0 329 1 := f 329 1 (by decide)
  refine T_if1 (by decide +kernel) ?_
  refine T_useI (sf_X12_bad_309 hfu s c t1 1 0 (by omega) (by omega) (by omega) (by omega)) (fun v18 s13 hq => ?_)
  obtain ⟨c14, f15, o19, ⟨x17, rfl, b20, b21, o22, o23⟩⟩ := hq
  refine T_vI ?_
  have f16 := z_Fr.tr (R := R_X12_thick_309) f f15 rs_X12_bad_309__X12_thick_309
  have t24 : s13 309 20 = s 309 20 := f15 309 20 (by decide)
  have t25 : s13 309 36 = s 309 36 := f15 309 36 (by decide)
  have t26 : s13 309 43 = s 309 43 := f15 309 43 (by decide)
  have t27 : s13 309 44 = s 309 44 := f15 309 44 (by decide)
  have t28 : s13 309 58 = s 309 58 := f15 309 58 (by decide)
  have t29 : s13 316 0 = s 316 0 := f15 316 0 (by decide)
  have t30 : s13 329 0 = s 329 0 := f15 329 0 (by decide)
  have t31 : s13 329 1 = s 329 1 := f15 329 1 (by decide)
  have r32 := y_L.fr p1 (f15 309 20 (by decide)) (fun b => f15 3438 b (nr_X12_bad_309__3438 b))
  have r33 := y_BK.fr p2 (by omega) (f15 309 20 (by decide)) (f15 309 58 (by decide)) (fun b => f15 3220 b (nr_X12_bad_309__3220 b)) (fun a b h => f15 a b (nq_X12_bad_309__3452 a b h))
  have r34 := y_TA.fr p3 (fun a b h => f15 a b (nq_X12_bad_309__316 a b h)) (fun a b h => f15 a b (nq_X12_bad_309__346 a b h)) (fun a b h => f15 a b (nq_X12_bad_309__361 a b h))
  have r35 := y_DD.fr p4 (f15 329 0 (by decide)) (f15 329 1 (by decide)) (fun b => f15 359 b (nr_X12_bad_309__359 b)) (fun b => f15 374 b (nr_X12_bad_309__374 b))
  have r36 := y_B.fr p5 (f15 309 20 (by decide)) (f15 316 0 (by decide)) (fun b => f15 3220 b (nr_X12_bad_309__3220 b)) (fun b => f15 3221 b (nr_X12_bad_309__3221 b)) (fun b => f15 3222 b (nr_X12_bad_309__3222 b)) (fun b => f15 361 b (nr_X12_bad_309__361 b))
  have r37 := y_K.fr p6 (by omega) (by omega) (f15 309 44 (by decide)) (f15 309 20 (by decide)) (f15 309 58 (by decide)) (fun b => f15 3438 b (nr_X12_bad_309__3438 b)) (fun b => f15 3220 b (nr_X12_bad_309__3220 b)) (fun a b h => f15 a b (nq_X12_bad_309__3452 a b h))
  refine T_ite (fun h38 => ?_) (fun h38 => ?_)
  · exact sj_X12_thick_309_J54 hfu r0 s13 c14 f16 r34 (by first | exact r35 | exact y_DD.z (by omega) (by omega)) r36 (by first | exact r37 | exact y_K.b0 (by omega) | exact y_K.k0 (by omega) | exact y_K.bk (by omega) | exact y_K.mk r32 (by omega) r33)
  · refine T_ite (fun h39 => ?_) (fun h39 => ?_)
    · exact sj_X12_thick_309_J46 hfu r0 s13 c14 f16 a1 a2 0 (by omega) (by omega) (by omega) (by omega) (by omega) (by first | exact y_L.cg r32 (by omega) | exact y_K.L r37 (by omega) (by omega)) (by first | exact r33 | exact y_K.B r37 (by omega) (by omega)) r34 (by first | exact r35 | exact y_DD.z (by omega) (by omega)) r36 (by first | exact r37 | exact y_K.b0 (by omega) | exact y_K.k0 (by omega) | exact y_K.bk (by omega) | exact y_K.mk r32 (by omega) r33)
    · exact sj_X12_thick_309_J46 hfu r0 s13 c14 f16 a1 a2 1 (by omega) (by omega) (by omega) (by omega) (by omega) (by first | exact y_L.cg r32 (by omega) | exact y_K.L r37 (by omega) (by omega)) (by first | exact r33 | exact y_K.B r37 (by omega) (by omega)) r34 (by first | exact r35 | exact y_DD.z (by omega) (by omega)) r36 (by first | exact r37 | exact y_K.b0 (by omega) | exact y_K.k0 (by omega) | exact y_K.bk (by omega) | exact y_K.mk r32 (by omega) r33)
theorem sj_X12_thick_309_J22 {fu : Nat} (hfu : 8589934592 ≤ fu) (r0 s : z_M) (c : z_CI s) (f : z_Fr R_X12_thick_309 r0 s) (a1 : Int) (a2 : Int) (b1 : -2147483648 ≤ a1 ∧ a1 ≤ 2147483647) (b2 : -2147483648 ≤ a2 ∧ a2 ≤ 2147483647) (p0 : y_L s (s 309 44)) (p1 : y_BK s) (p2 : y_TA s) (p3 : y_DD s) (p4 : y_B s) (p5 : y_K s) : z_T (fX12_thick_J22 fu s 309 a1 a2 309) (P_X12_thick_309 r0) := by
  refine T_of (fX12_thick_J22.eq_1 ..) ?_
  have u1 := CI_b c (k := 309) (j := 20) bd_309_20
  have u2 := CI_b c (k := 309) (j := 36) bd_309_36
  have u3 := CI_b c (k := 309) (j := 43) bd_309_43
  have u4 := CI_b c (k := 309) (j := 44) bd_309_44
  have u5 := CI_b c (k := 309) (j := 58) bd_309_58
  have u6 := CI_b c (k := 316) (j := 0) bd_316_0
  have u7 := CI_b c (k := 329) (j := 0) bd_329_0
  have u8 := CI_b c (k := 329) (j := 1) bd_329_1
  have t9 : s 309 20 = r0 309 20 := f 309 20 (by decide)
  have t10 : s 316 0 = r0 316 0 := f 316 0 (by decide)
  have t11 : s 329 0 = r0 329 0 := f 329 0 (by decide)
  have t12 : s 329 1 = r0 329 1 := f 329 1 (by decide)
  exact sj_X12_thick_309_J27 hfu r0 s c f a1 a2 1 (by omega) (by omega) (by omega) (by omega) (by first | exact y_L.cg p0 (by omega) | exact y_K.L p5 (by omega) (by omega)) (by first | exact p1 | exact y_K.B p5 (by omega) (by omega)) p2 (by first | exact p3 | exact y_DD.z (by omega) (by omega)) p4 (by first | exact p5 | exact y_K.b0 (by omega) | exact y_K.k0 (by omega) | exact y_K.bk (by omega) | exact y_K.mk p0 (by omega) p1)
theorem sf_X12_thick_309 {fu : Nat} (hfu : 8589934592 ≤ fu) (r0 : z_M) (c0 : z_CI r0) (a1 : Int) (a2 : Int) (b1 : -2147483648 ≤ a1 ∧ a1 ≤ 2147483647) (b2 : -2147483648 ≤ a2 ∧ a2 ≤ 2147483647) (p0 : y_TA r0) (p1 : y_DD r0) (p2 : y_B r0) (p3 : y_K r0) : z_T (fX12_thick fu r0 309 a1 a2) (P_X12_thick_309 r0) := by
  refine T_of (fX12_thick.eq_1 ..) ?_
  have u1 := CI_b c0 (k := 309) (j := 20) bd_309_20
  have u2 := CI_b c0 (k := 309) (j := 36) bd_309_36
  have u3 := CI_b c0 (k := 309) (j := 43) bd_309_43
  have u4 := CI_b c0 (k := 309) (j := 44) bd_309_44
  have u5 := CI_b c0 (k := 309) (j := 58) bd_309_58
  have u6 := CI_b c0 (k := 316) (j := 0) bd_316_0
  have u7 := CI_b c0 (k := 329) (j := 0) bd_329_0
  have u8 := CI_b c0 (k := 329) (j := 1) bd_329_1
  refine T_if1 (by decide +kernel) ?_
  refine T_upg c0 bd_309_0 (by omega) (fun s9 c10 g12 g13 e14 => ?_)
  have f11 := z_Fr.upf (R := R_X12_thick_309) z_Fr.rf g12 g13 (Or.inr (Or.inr (⟨rfl, by decide⟩)))
  have t15 : s9 309 20 = r0 309 20 := g13 20 (by decide)
  have t16 : s9 309 36 = r0 309 36 := g13 36 (by decide)
  have t17 : s9 309 43 = r0 309 43 := g13 43 (by decide)
  have t18 : s9 309 44 = r0 309 44 := g13 44 (by decide)
  have t19 : s9 309 58 = r0 309 58 := g13 58 (by decide)
  have t20 : s9 316 0 = r0 316 0 := g12 316 0 (by decide)
  have t21 : s9 329 0 = r0 329 0 := g12 329 0 (by decide)
  have t22 : s9 329 1 = r0 329 1 := g12 329 1 (by decide)
  have r23 := y_TA.fr p0 (fun a b h => g12 a b (by omega)) (fun a b h => g12 a b (by omega)) (fun a b h => g12 a b (by omega))
  have r24 := y_DD.fr p1 (g12 329 0 (by decide)) (g12 329 1 (by decide)) (fun b => g12 359 b (by decide)) (fun b => g12 374 b (by decide))
  have r25 := y_B.fr p2 (g13 20 (by decide)) (g12 316 0 (by decide)) (fun b => g12 3220 b (by decide)) (fun b => g12 3221 b (by decide)) (fun b => g12 3222 b (by decide)) (fun b => g12 361 b (by decide))
  have r26 := y_K.fr p3 (by omega) (by omega) (g13 44 (by decide)) (g13 20 (by decide)) (g13 58 (by decide)) (fun b => g12 3438 b (by decide)) (fun b => g12 3220 b (by decide)) (fun a b h => g12 a b (by omega))
  refine T_if1 (by decide +kernel) ?_
  refine T_useI (sf_X12_isLine_309 hfu s9 c10 a1 (by omega) r25 (by first | exact r26 | exact y_K.b0 (by omega) | exact y_K.k0 (by omega) | exact y_K.bk (by omega))) (fun v32 s27 hq => ?_)
  obtain ⟨c28, f29, o33, o34, o35, o36, o37, o38, ⟨x31, rfl, b39, b40, o41⟩⟩ := hq
  refine T_vI ?_
  have f30 := z_Fr.tr (R := R_X12_thick_309) f11 f29 rs_X12_isLine_309__X12_thick_309
  have t42 : s27 309 20 = r0 309 20 := (f29 309 20 (by decide)).trans t15
  have t43 : s27 316 0 = r0 316 0 := (f29 316 0 (by decide)).trans t20
  have t44 : s27 329 0 = r0 329 0 := (f29 329 0 (by decide)).trans t21
  have t45 : s27 329 1 = r0 329 1 := (f29 329 1 (by decide)).trans t22
  have u46 := CI_b c28 (k := 309) (j := 36) bd_309_36
  have u47 := CI_b c28 (k := 309) (j := 43) bd_309_43
  have u48 := CI_b c28 (k := 309) (j := 44) bd_309_44
  have u49 := CI_b c28 (k := 309) (j := 58) bd_309_58
  have r50 := y_TA.fr r23 (fun a b h => f29 a b (nq_X12_isLine_309__316 a b h)) (fun a b h => f29 a b (nq_X12_isLine_309__346 a b h)) (fun a b h => f29 a b (nq_X12_isLine_309__361 a b h))
  have r51 := y_DD.fr r24 (f29 329 0 (by decide)) (f29 329 1 (by decide)) (fun b => f29 359 b (nr_X12_isLine_309__359 b)) (fun b => f29 374 b (nr_X12_isLine_309__374 b))
  have r52 := y_B.fr r25 (f29 309 20 (by decide)) (f29 316 0 (by decide)) (fun b => f29 3220 b (nr_X12_isLine_309__3220 b)) (fun b => f29 3221 b (nr_X12_isLine_309__3221 b)) (fun b => f29 3222 b (nr_X12_isLine_309__3222 b)) (fun b => f29 361 b (nr_X12_isLine_309__361 b))
  clear t15
  clear t20
  clear t21
  clear t22
  refine T_ite (fun h53 => ?_) (fun h53 => ?_)
  · exact sj_X12_thick_309_J22 hfu r0 s27 c28 f30 a1 a2 (by omega) (by omega) (by first | exact y_L.cg o34 (by omega) | exact y_K.L o33 (by omega) (by omega)) (by first | exact o35 | exact y_K.B o33 (by omega) (by omega)) r50 (by first | exact r51 | exact y_DD.z (by omega) (by omega)) r52 (by first | exact o33 | exact y_K.b0 (by omega) | exact y_K.k0 (by omega) | exact y_K.bk (by omega) | exact y_K.mk o34 (by omega) o35)
  · refine T_if1 (by decide +kernel) ?_
    refine T_useI (sf_X12_isLine_309 hfu s27 c28 a2 (by omega) r52 (by first | exact o33 | exact y_K.b0 (by omega) | exact y_K.k0 (by omega) | exact y_K.bk (by omega) | exact y_K.mk o34 (by omega) o35)) (fun v59 s54 hq => ?_)
    obtain ⟨c55, f56, o60, o61, o62, o63, o64, o65, ⟨x58, rfl, b66, b67, o68⟩⟩ := hq
    refine T_vI ?_
    have f57 := z_Fr.tr (R := R_X12_thick_309) f30 f56 rs_X12_isLine_309__X12_thick_309
    have t69 : s54 309 20 = r0 309 20 := (f56 309 20 (by decide)).trans t42
    have t70 : s54 316 0 = r0 316 0 := (f56 316 0 (by decide)).trans t43
    have t71 : s54 329 0 = r0 329 0 := (f56 329 0 (by decide)).trans t44
    have t72 : s54 329 1 = r0 329 1 := (f56 329 1 (by decide)).trans t45
    have u73 := CI_b c55 (k := 309) (j := 36) bd_309_36
    have u74 := CI_b c55 (k := 309) (j := 43) bd_309_43
    have u75 := CI_b c55 (k := 309) (j := 44) bd_309_44
    have u76 := CI_b c55 (k := 309) (j := 58) bd_309_58
    have r77 := y_TA.fr r50 (fun a b h => f56 a b (nq_X12_isLine_309__316 a b h)) (fun a b h => f56 a b (nq_X12_isLine_309__346 a b h)) (fun a b h => f56 a b (nq_X12_isLine_309__361 a b h))
    have r78 := y_DD.fr r51 (f56 329 0 (by decide)) (f56 329 1 (by decide)) (fun b => f56 359 b (nr_X12_isLine_309__359 b)) (fun b => f56 374 b (nr_X12_isLine_309__374 b))
    have r79 := y_B.fr r52 (f56 309 20 (by decide)) (f56 316 0 (by decide)) (fun b => f56 3220 b (nr_X12_isLine_309__3220 b)) (fun b => f56 3221 b (nr_X12_isLine_309__3221 b)) (fun b => f56 3222 b (nr_X12_isLine_309__3222 b)) (fun b => f56 361 b (nr_X12_isLine_309__361 b))
    clear t42
    clear t43
    clear t44
    clear t45
    refine T_ite (fun h80 => ?_) (fun h80 => ?_)
    · exact sj_X12_thick_309_J27 hfu r0 s54 c55 f57 a1 a2 0 (by omega) (by omega) (by omega) (by omega) (by first | exact y_L.cg o61 (by omega) | exact y_K.L o60 (by omega) (by omega)) (by first | exact o62 | exact y_K.B o60 (by omega) (by omega)) r77 (by first | exact r78 | exact y_DD.z (by omega) (by omega)) r79 (by first | exact o60 | exact y_K.b0 (by omega) | exact y_K.k0 (by omega) | exact y_K.bk (by omega) | exact y_K.mk o61 (by omega) o62)
    · exact sj_X12_thick_309_J22 hfu r0 s54 c55 f57 a1 a2 (by omega) (by omega) (by first | exact y_L.cg o61 (by omega) | exact y_K.L o60 (by omega) (by omega)) (by first | exact o62 | exact y_K.B o60 (by omega) (by omega)) r77 (by first | exact r78 | exact y_DD.z (by omega) (by omega)) r79 (by first | exact o60 | exact y_K.b0 (by omega) | exact y_K.k0 (by omega) | exact y_K.bk (by omega) | exact y_K.mk o61 (by omega) o62)
abbrev R_X12_laysGutters_309 (a b : Int) : Prop := (3224 ≤ a ∧ a ≤ 7655) ∨ (a = 309 ∧ (b = 35 ∨ b = 36 ∨ b = 38 ∨ b = 39 ∨ b = 43 ∨ b = 44 ∨ b = 58 ∨ b = 60))
abbrev P_X12_laysGutters_309 (r0 : z_M) : z_V → z_M → Prop := fun v s' => z_CI s' ∧ z_Fr R_X12_laysGutters_309 r0 s' ∧ (y_K s') ∧ (y_L s' (s' 309 44)) ∧ (y_BK s') ∧ (v = vN)
theorem rs_X12_laysAll_309__X12_laysGutters_309 (a b : Int) (h : R_X12_laysAll_309 a b) : R_X12_laysGutters_309 a b := (h.elim (fun h => (Or.inl (⟨by omega, by omega⟩))) (fun h => (Or.inr (⟨h.1, by omega⟩))))
theorem rs_X12_sideOf_309__X12_laysGutters_309 (a b : Int) (h : R_X12_sideOf_309 a b) : R_X12_laysGutters_309 a b := (h.elim (fun h => (Or.inl (⟨by omega, by omega⟩))) (fun h => (Or.inr (⟨h.1, by omega⟩))))
theorem sj_X12_laysGutters_309_J59 {fu : Nat} (hfu : 8589934592 ≤ fu) (r0 s : z_M) (c : z_CI s) (f : z_Fr R_X12_laysGutters_309 r0 s) (a1 : Int) (t1 : Int) (t2 : Int) (b1 : 0 ≤ a1 ∧ a1 ≤ 199) (d1 : 0 ≤ t1 ∧ t1 ≤ 199) (d2 : 0 ≤ t2 ∧ t2 ≤ 6) (p0 : y_B s) (p1 : y_K s) (p2 : y_TA s) (p3 : y_L s (s 309 44)) (p4 : y_BK s) (p5 : a1 < s 309 44) (M : Int) (pm : 2147483647 - a1 ≤ M) {r : z_M → Int → z_O} {k : z_M → z_O} (hr : ∀ (s' : z_M) (v1 : Int), z_CI s' → z_Fr R_X12_laysGutters_309 r0 s' → (0 ≤ v1 ∧ v1 ≤ 200) → (y_B s') → (y_K s') → (y_TA s') → (y_L s' (s' 309 44)) → (y_BK s') → (2147483647 - v1 < M) → z_T (r s' v1) (P_X12_laysGutters_309 r0)) (hk : ∀ (s' : z_M), z_CI s' → z_Fr R_X12_laysGutters_309 r0 s' → (y_K s') → (y_L s' (s' 309 44)) → (y_BK s') → z_T (k s') (P_X12_laysGutters_309 r0)) : z_T (fX12_laysGutters_J59 fu s 309 a1 7655 t1 t2 r k) (P_X12_laysGutters_309 r0) := by
  refine T_of (fX12_laysGutters_J59.eq_1 ..) ?_
  have u1 := CI_b c (k := 309) (j := 20) bd_309_20
  have u2 := CI_b c (k := 309) (j := 36) bd_309_36
  have u3 := CI_b c (k := 309) (j := 43) bd_309_43
  have u4 := CI_b c (k := 309) (j := 44) bd_309_44
  have u5 := CI_b c (k := 309) (j := 58) bd_309_58
  have u6 := CI_b c (k := 316) (j := 0) bd_316_0
  have t7 : s 309 20 = r0 309 20 := f 309 20 (by decide)
  have t8 : s 316 0 = r0 316 0 := f 316 0 (by decide)
  refine T_if1 (z_ixl (n := 200) (by decide +kernel) (by omega) (by omega)) ?_
  refine T_upg c (bdr_7655 t1) (by omega) (fun s9 c10 g12 g13 e14 => ?_)
  have f11 := z_Fr.up (R := R_X12_laysGutters_309) f g12 (fun _ => (Or.inl (⟨by decide, by decide⟩)))
  have t15 : s9 309 20 = s 309 20 := g12 309 20 (by decide)
  have t16 : s9 309 36 = s 309 36 := g12 309 36 (by decide)
  have t17 : s9 309 43 = s 309 43 := g12 309 43 (by decide)
  have t18 : s9 309 44 = s 309 44 := g12 309 44 (by decide)
  have t19 : s9 309 58 = s 309 58 := g12 309 58 (by decide)
  have t20 : s9 316 0 = s 316 0 := g12 316 0 (by decide)
  have r21 := y_B.fr p0 (g12 309 20 (by decide)) (g12 316 0 (by decide)) (fun b => g12 3220 b (by decide)) (fun b => g12 3221 b (by decide)) (fun b => g12 3222 b (by decide)) (fun b => g12 361 b (by decide))
  have r22 := y_K.fr p1 (by omega) (by omega) (g12 309 44 (by decide)) (g12 309 20 (by decide)) (g12 309 58 (by decide)) (fun b => g12 3438 b (by decide)) (fun b => g12 3220 b (by decide)) (fun a b h => g12 a b (by omega))
  have r23 := y_TA.fr p2 (fun a b h => g12 a b (by omega)) (fun a b h => g12 a b (by omega)) (fun a b h => g12 a b (by omega))
  have r24 := y_L.fr p3 (g12 309 20 (by decide)) (fun b => g12 3438 b (by decide))
  have r25 := y_BK.fr p4 (by omega) (g12 309 20 (by decide)) (g12 309 58 (by decide)) (fun b => g12 3220 b (by decide)) (fun a b h => g12 a b (by omega))
  refine T_leq (fun x26 e27 => ?_)
  first | (have w28 := z_wx e27 (by omega)) | (have w28 := z_wr e27)
  exact hr s9 x26 c10 f11 (by omega) r21 (by first | exact r22 | exact y_K.b0 (by omega) | exact y_K.k0 (by omega) | exact y_K.bk (by omega) | exact y_K.mk r24 (by omega) r25) r23 (by first | exact y_L.cg r24 (by omega) | exact y_K.L r22 (by omega) (by omega)) (by first | exact r25 | exact y_K.B r22 (by omega) (by omega)) (by omega)
theorem sj_X12_laysGutters_309_J38 {fu : Nat} (hfu : 8589934592 ≤ fu) (r0 s : z_M) (c : z_CI s) (f : z_Fr R_X12_laysGutters_309 r0 s) (a1 : Int) (t1 : Int) (t2 : Int) (b1 : 0 ≤ a1 ∧ a1 ≤ 199) (d1 : 0 ≤ t1 ∧ t1 ≤ 199) (d2 : -2147483648 ≤ t2 ∧ t2 ≤ 2147483647) (p0 : y_B s) (p1 : y_K s) (p2 : y_TA s) (p3 : y_L s (s 309 44)) (p4 : y_BK s) (p5 : a1 < s 309 44) (M : Int) (pm : 2147483647 - a1 ≤ M) {r : z_M → Int → z_O} {k : z_M → z_O} (hr : ∀ (s' : z_M) (v1 : Int), z_CI s' → z_Fr R_X12_laysGutters_309 r0 s' → (0 ≤ v1 ∧ v1 ≤ 200) → (y_B s') → (y_K s') → (y_TA s') → (y_L s' (s' 309 44)) → (y_BK s') → (2147483647 - v1 < M) → z_T (r s' v1) (P_X12_laysGutters_309 r0)) (hk : ∀ (s' : z_M), z_CI s' → z_Fr R_X12_laysGutters_309 r0 s' → (y_K s') → (y_L s' (s' 309 44)) → (y_BK s') → z_T (k s') (P_X12_laysGutters_309 r0)) : z_T (fX12_laysGutters_J38 fu s 309 a1 7654 t1 t2 r k) (P_X12_laysGutters_309 r0) := by
  refine T_of (fX12_laysGutters_J38.eq_1 ..) ?_
  have u1 := CI_b c (k := 309) (j := 20) bd_309_20
  have u2 := CI_b c (k := 309) (j := 36) bd_309_36
  have u3 := CI_b c (k := 309) (j := 43) bd_309_43
  have u4 := CI_b c (k := 309) (j := 44) bd_309_44
  have u5 := CI_b c (k := 309) (j := 58) bd_309_58
  have u6 := CI_b c (k := 316) (j := 0) bd_316_0
  have t7 : s 309 20 = r0 309 20 := f 309 20 (by decide)
  have t8 : s 316 0 = r0 316 0 := f 316 0 (by decide)
  refine T_if1 (z_ixl (n := 200) (by decide +kernel) (by omega) (by omega)) ?_
  refine T_upg c (bdr_7654 t1) (by omega) (fun s9 c10 g12 g13 e14 => ?_)
  have f11 := z_Fr.up (R := R_X12_laysGutters_309) f g12 (fun _ => (Or.inl (⟨by decide, by decide⟩)))
  have t15 : s9 309 20 = s 309 20 := g12 309 20 (by decide)
  have t16 : s9 309 36 = s 309 36 := g12 309 36 (by decide)
  have t17 : s9 309 43 = s 309 43 := g12 309 43 (by decide)
  have t18 : s9 309 44 = s 309 44 := g12 309 44 (by decide)
  have t19 : s9 309 58 = s 309 58 := g12 309 58 (by decide)
  have t20 : s9 316 0 = s 316 0 := g12 316 0 (by decide)
  have r21 := y_B.fr p0 (g12 309 20 (by decide)) (g12 316 0 (by decide)) (fun b => g12 3220 b (by decide)) (fun b => g12 3221 b (by decide)) (fun b => g12 3222 b (by decide)) (fun b => g12 361 b (by decide))
  have r22 := y_K.fr p1 (by omega) (by omega) (g12 309 44 (by decide)) (g12 309 20 (by decide)) (g12 309 58 (by decide)) (fun b => g12 3438 b (by decide)) (fun b => g12 3220 b (by decide)) (fun a b h => g12 a b (by omega))
  have r23 := y_TA.fr p2 (fun a b h => g12 a b (by omega)) (fun a b h => g12 a b (by omega)) (fun a b h => g12 a b (by omega))
  have r24 := y_L.fr p3 (g12 309 20 (by decide)) (fun b => g12 3438 b (by decide))
  have r25 := y_BK.fr p4 (by omega) (g12 309 20 (by decide)) (g12 309 58 (by decide)) (fun b => g12 3220 b (by decide)) (fun a b h => g12 a b (by omega))
  refine T_if1 (by decide +kernel) ?_
  refine T_let 7655 (by decide +kernel) ?_
  refine T_if1 (by decide +kernel) ?_
  refine T_useI (sf_X12_sideOf_309 hfu s9 c10 a1 1 (by omega) (by omega) r21 (by first | exact r25 | exact y_K.B r22 (by omega) (by omega)) (by first | exact y_L.cg r24 (by omega) | exact y_K.L r22 (by omega) (by omega)) r23 (by omega)) (fun v31 s26 hq => ?_)
  obtain ⟨c27, f28, ⟨x30, rfl, b32, b33, o34⟩⟩ := hq
  refine T_vI ?_
  have f29 := z_Fr.tr (R := R_X12_laysGutters_309) f11 f28 rs_X12_sideOf_309__X12_laysGutters_309
  have t35 : s26 309 20 = s 309 20 := (f28 309 20 (by decide)).trans t15
  have t36 : s26 309 36 = s 309 36 := (f28 309 36 (by decide)).trans t16
  have t37 : s26 309 43 = s 309 43 := (f28 309 43 (by decide)).trans t17
  have t38 : s26 309 44 = s 309 44 := (f28 309 44 (by decide)).trans t18
  have t39 : s26 309 58 = s 309 58 := (f28 309 58 (by decide)).trans t19
  have t40 : s26 316 0 = s 316 0 := (f28 316 0 (by decide)).trans t20
  have r41 := y_B.fr r21 (f28 309 20 (by decide)) (f28 316 0 (by decide)) (fun b => f28 3220 b (nr_X12_sideOf_309__3220 b)) (fun b => f28 3221 b (nr_X12_sideOf_309__3221 b)) (fun b => f28 3222 b (nr_X12_sideOf_309__3222 b)) (fun b => f28 361 b (nr_X12_sideOf_309__361 b))
  have r42 := y_K.fr r22 (by omega) (by omega) (f28 309 44 (by decide)) (f28 309 20 (by decide)) (f28 309 58 (by decide)) (fun b => f28 3438 b (nr_X12_sideOf_309__3438 b)) (fun b => f28 3220 b (nr_X12_sideOf_309__3220 b)) (fun a b h => f28 a b (nq_X12_sideOf_309__3452 a b h))
  have r43 := y_TA.fr r23 (fun a b h => f28 a b (nq_X12_sideOf_309__316 a b h)) (fun a b h => f28 a b (nq_X12_sideOf_309__346 a b h)) (fun a b h => f28 a b (nq_X12_sideOf_309__361 a b h))
  have r44 := y_L.fr r24 (f28 309 20 (by decide)) (fun b => f28 3438 b (nr_X12_sideOf_309__3438 b))
  have r45 := y_BK.fr r25 (by omega) (f28 309 20 (by decide)) (f28 309 58 (by decide)) (fun b => f28 3220 b (nr_X12_sideOf_309__3220 b)) (fun a b h => f28 a b (nq_X12_sideOf_309__3452 a b h))
  clear t15
  clear t16
  clear t17
  clear t18
  clear t19
  clear t20
  refine T_ite (fun h46 => ?_) (fun h46 => ?_)
  · exact sj_X12_laysGutters_309_J59 hfu r0 s26 c27 f29 a1 a1 0 (by omega) (by omega) (by omega) r41 (by first | exact r42 | exact y_K.b0 (by omega) | exact y_K.k0 (by omega) | exact y_K.bk (by omega) | exact y_K.mk r44 (by omega) r45) r43 (by first | exact y_L.cg r44 (by omega) | exact y_K.L r42 (by omega) (by omega)) (by first | exact r45 | exact y_K.B r42 (by omega) (by omega)) (by omega) M (by omega) (fun s' v1 c' f' w1 z0 z1 z2 z3 z4 pg => hr s' v1 c' f' w1 z0 z1 z2 z3 z4 (by omega)) hk
  · exact sj_X12_laysGutters_309_J59 hfu r0 s26 c27 f29 a1 a1 6 (by omega) (by omega) (by omega) r41 (by first | exact r42 | exact y_K.b0 (by omega) | exact y_K.k0 (by omega) | exact y_K.bk (by omega) | exact y_K.mk r44 (by omega) r45) r43 (by first | exact y_L.cg r44 (by omega) | exact y_K.L r42 (by omega) (by omega)) (by first | exact r45 | exact y_K.B r42 (by omega) (by omega)) (by omega) M (by omega) (fun s' v1 c' f' w1 z0 z1 z2 z3 z4 pg => hr s' v1 c' f' w1 z0 z1 z2 z3 z4 (by omega)) hk
theorem rs_X12_gutterOf_309__X12_laysGutters_309 (a b : Int) (h : R_X12_gutterOf_309 a b) : R_X12_laysGutters_309 a b := (h.elim (fun h => (Or.inl (⟨by omega, by omega⟩))) (fun h => (Or.inr (⟨h.1, by omega⟩))))
theorem sl_X12_laysGutters_309_L6 {fu : Nat} (hfu : 8589934592 ≤ fu) (r0 : z_M) {k : z_M → z_O} (hk : ∀ (s' : z_M), z_CI s' → z_Fr R_X12_laysGutters_309 r0 s' → (y_K s') → (y_L s' (s' 309 44)) → (y_BK s') → z_T (k s') (P_X12_laysGutters_309 r0)) : ∀ (F : Nat) (s : z_M) (a1 : Int), z_CI s → z_Fr R_X12_laysGutters_309 r0 s → (0 ≤ a1 ∧ a1 ≤ 200) → (y_B s) → (y_K s) → (y_TA s) → (y_L s (s 309 44)) → (y_BK s) → (2147483647 - a1 < (F : Int)) → z_T (fX12_laysGutters_L6 fu 309 F s a1 k) (P_X12_laysGutters_309 r0) := by
  intro F
  induction F with
  | zero =>
    intro s a1 c f b1 i0 i1 i2 i3 i4 hm
    have u39 := CI_b c (k := 309) (j := 20) bd_309_20
    have u40 := CI_b c (k := 309) (j := 36) bd_309_36
    have u41 := CI_b c (k := 309) (j := 43) bd_309_43
    have u42 := CI_b c (k := 309) (j := 44) bd_309_44
    have u43 := CI_b c (k := 309) (j := 58) bd_309_58
    have u44 := CI_b c (k := 316) (j := 0) bd_316_0
    exfalso; omega
  | succ F ih =>
    intro s a1 c f b1 i0 i1 i2 i3 i4 hm
    refine T_of (fX12_laysGutters_L6.eq_2 ..) ?_
    have u1 := CI_b c (k := 309) (j := 20) bd_309_20
    have u2 := CI_b c (k := 309) (j := 36) bd_309_36
    have u3 := CI_b c (k := 309) (j := 43) bd_309_43
    have u4 := CI_b c (k := 309) (j := 44) bd_309_44
    have u5 := CI_b c (k := 309) (j := 58) bd_309_58
    have u6 := CI_b c (k := 316) (j := 0) bd_316_0
    have t7 : s 309 20 = r0 309 20 := f 309 20 (by decide)
    have t8 : s 316 0 = r0 316 0 := f 316 0 (by decide)
    refine T_if1 (by decide +kernel) ?_
    refine T_leq (fun x9 e10 => ?_)
    have u11 := CI_b c (k := 309) (j := 44) bd_309_44
    refine T_ite (fun h12 => ?_) (fun h12 => ?_)
    · exact hk s c f (by first | exact i1 | exact y_K.b0 (by omega) | exact y_K.k0 (by omega) | exact y_K.bk (by omega) | exact y_K.mk i3 (by omega) i4) (by first | exact y_L.cg i3 (by omega) | exact y_K.L i1 (by omega) (by omega)) (by first | exact i4 | exact y_K.B i1 (by omega) (by omega))
    · refine T_if1 (by decide +kernel) ?_
      refine T_let 7654 (by decide +kernel) ?_
      refine T_leq (fun x13 e14 => ?_)
      first | (have w15 := z_wx e14 (by omega)) | (have w15 := z_wr e14)
      refine T_if1 (by decide +kernel) ?_
      refine T_leq (fun x16 e17 => ?_)
      have q18 : x9 = x16 := e10.symm.trans e17
      subst q18
      refine T_ite (fun h19 => ?_) (fun h19 => ?_)
      · exact sj_X12_laysGutters_309_J38 hfu r0 s c f a1 a1 0 (by omega) (by omega) (by omega) i0 (by first | exact i1 | exact y_K.b0 (by omega) | exact y_K.k0 (by omega) | exact y_K.bk (by omega) | exact y_K.mk i3 (by omega) i4) i2 (by first | exact y_L.cg i3 (by omega) | exact y_K.L i1 (by omega) (by omega)) (by first | exact i4 | exact y_K.B i1 (by omega) (by omega)) (by omega) (2147483647 - a1) (by omega) (fun s' v1 c' f' w1 z0 z1 z2 z3 z4 pg => ih s' v1 c' f' w1 z0 z1 z2 z3 z4 (by omega)) hk
      · refine T_if1 (by decide +kernel) ?_
        refine T_useI (sf_X12_gutterOf_309 hfu s c a1 (by omega) i0 (by first | exact i4 | exact y_K.B i1 (by omega) (by omega)) (by first | exact y_L.cg i3 (by omega) | exact y_K.L i1 (by omega) (by omega)) i2 (by omega)) (fun v25 s20 hq => ?_)
        obtain ⟨c21, f22, ⟨x24, rfl, b26, b27⟩⟩ := hq
        refine T_vI ?_
        have f23 := z_Fr.tr (R := R_X12_laysGutters_309) f f22 rs_X12_gutterOf_309__X12_laysGutters_309
        have t28 : s20 309 20 = s 309 20 := f22 309 20 (by decide)
        have t29 : s20 309 36 = s 309 36 := f22 309 36 (by decide)
        have t30 : s20 309 43 = s 309 43 := f22 309 43 (by decide)
        have t31 : s20 309 44 = x9 := (f22 309 44 (by decide)).trans e10
        have t32 : s20 309 58 = s 309 58 := f22 309 58 (by decide)
        have t33 : s20 316 0 = s 316 0 := f22 316 0 (by decide)
        have r34 := y_B.fr i0 (f22 309 20 (by decide)) (f22 316 0 (by decide)) (fun b => f22 3220 b (nr_X12_gutterOf_309__3220 b)) (fun b => f22 3221 b (nr_X12_gutterOf_309__3221 b)) (fun b => f22 3222 b (nr_X12_gutterOf_309__3222 b)) (fun b => f22 361 b (nr_X12_gutterOf_309__361 b))
        have r35 := y_K.fr i1 (by omega) (by omega) (f22 309 44 (by decide)) (f22 309 20 (by decide)) (f22 309 58 (by decide)) (fun b => f22 3438 b (nr_X12_gutterOf_309__3438 b)) (fun b => f22 3220 b (nr_X12_gutterOf_309__3220 b)) (fun a b h => f22 a b (nq_X12_gutterOf_309__3452 a b h))
        have r36 := y_TA.fr i2 (fun a b h => f22 a b (nq_X12_gutterOf_309__316 a b h)) (fun a b h => f22 a b (nq_X12_gutterOf_309__346 a b h)) (fun a b h => f22 a b (nq_X12_gutterOf_309__361 a b h))
        have r37 := y_L.fr i3 (f22 309 20 (by decide)) (fun b => f22 3438 b (nr_X12_gutterOf_309__3438 b))
        have r38 := y_BK.fr i4 (by omega) (f22 309 20 (by decide)) (f22 309 58 (by decide)) (fun b => f22 3220 b (nr_X12_gutterOf_309__3220 b)) (fun a b h => f22 a b (nq_X12_gutterOf_309__3452 a b h))
        exact sj_X12_laysGutters_309_J38 hfu r0 s20 c21 f23 a1 a1 x24 (by omega) (by omega) (by omega) r34 (by first | exact r35 | exact y_K.b0 (by omega) | exact y_K.k0 (by omega) | exact y_K.bk (by omega) | exact y_K.mk r37 (by omega) r38) r36 (by first | exact y_L.cg r37 (by omega) | exact y_K.L r35 (by omega) (by omega)) (by first | exact r38 | exact y_K.B r35 (by omega) (by omega)) (by omega) (2147483647 - a1) (by omega) (fun s' v1 c' f' w1 z0 z1 z2 z3 z4 pg => ih s' v1 c' f' w1 z0 z1 z2 z3 z4 (by omega)) hk
theorem sf_X12_laysGutters_309 {fu : Nat} (hfu : 8589934592 ≤ fu) (r0 : z_M) (c0 : z_CI r0) (p0 : y_B r0) (p1 : y_K r0) (p2 : y_TA r0) : z_T (fX12_laysGutters fu r0 309) (P_X12_laysGutters_309 r0) := by
  refine T_of (fX12_laysGutters.eq_1 ..) ?_
  have u1 := CI_b c0 (k := 309) (j := 20) bd_309_20
  have u2 := CI_b c0 (k := 309) (j := 36) bd_309_36
  have u3 := CI_b c0 (k := 309) (j := 43) bd_309_43
  have u4 := CI_b c0 (k := 309) (j := 44) bd_309_44
  have u5 := CI_b c0 (k := 309) (j := 58) bd_309_58
  have u6 := CI_b c0 (k := 316) (j := 0) bd_316_0
  refine T_if1 (by decide +kernel) ?_
  refine T_useN (sf_X12_laysAll_309 hfu r0 c0 p0 (by first | exact p1 | exact y_K.b0 (by omega) | exact y_K.k0 (by omega) | exact y_K.bk (by omega))) (fun v12 s7 hq => ?_)
  obtain ⟨c8, f9, o13, o14, o15, o16, o17, o18, rfl⟩ := hq
  refine T_vN ?_
  have f10 := z_Fr.tr (R := R_X12_laysGutters_309) z_Fr.rf f9 rs_X12_laysAll_309__X12_laysGutters_309
  have t21 : s7 309 20 = r0 309 20 := f9 309 20 (by decide)
  have t22 : s7 316 0 = r0 316 0 := f9 316 0 (by decide)
  have u23 := CI_b c8 (k := 309) (j := 36) bd_309_36
  have u24 := CI_b c8 (k := 309) (j := 43) bd_309_43
  have u25 := CI_b c8 (k := 309) (j := 44) bd_309_44
  have u26 := CI_b c8 (k := 309) (j := 58) bd_309_58
  have r27 := y_B.fr p0 (f9 309 20 (by decide)) (f9 316 0 (by decide)) (fun b => f9 3220 b (nr_X12_laysAll_309__3220 b)) (fun b => f9 3221 b (nr_X12_laysAll_309__3221 b)) (fun b => f9 3222 b (nr_X12_laysAll_309__3222 b)) (fun b => f9 361 b (nr_X12_laysAll_309__361 b))
  have r28 := y_TA.fr p2 (fun a b h => f9 a b (nq_X12_laysAll_309__316 a b h)) (fun a b h => f9 a b (nq_X12_laysAll_309__346 a b h)) (fun a b h => f9 a b (nq_X12_laysAll_309__361 a b h))
  refine sl_X12_laysGutters_309_L6 hfu r0 (fun s29 c30 f31 g32 g33 g34 => ?_) fu s7 0 c8 f10 (by omega) r27 (by first | exact o13 | exact y_K.b0 (by omega) | exact y_K.k0 (by omega) | exact y_K.bk (by omega) | exact y_K.mk o14 (by omega) o15) r28 (by first | exact y_L.cg o14 (by omega) | exact y_K.L o13 (by omega) (by omega)) (by first | exact o15 | exact y_K.B o13 (by omega) (by omega)) (by omega)
  have u35 := CI_b c30 (k := 309) (j := 20) bd_309_20
  have u36 := CI_b c30 (k := 309) (j := 36) bd_309_36
  have u37 := CI_b c30 (k := 309) (j := 43) bd_309_43
  have u38 := CI_b c30 (k := 309) (j := 44) bd_309_44
  have u39 := CI_b c30 (k := 309) (j := 58) bd_309_58
  have u40 := CI_b c30 (k := 316) (j := 0) bd_316_0
  have t41 : s29 309 20 = r0 309 20 := f31 309 20 (by decide)
  have t42 : s29 316 0 = r0 316 0 := f31 316 0 (by decide)
  exact T_ret ⟨c30, f31, (by first | exact g32 | exact y_K.b0 (by omega) | exact y_K.k0 (by omega) | exact y_K.bk (by omega) | exact y_K.mk g33 (by omega) g34), (by first | exact y_L.cg g33 (by omega) | exact y_K.L g32 (by omega) (by omega)), (by first | exact g34 | exact y_K.B g32 (by omega) (by omega)), rfl⟩
abbrev R_X12_pagesBy_309 (a b : Int) : Prop := (3653 ≤ a ∧ a ≤ 7653) ∨ (a = 309 ∧ (b = 60))
abbrev P_X12_pagesBy_309 (r0 : z_M) : z_V → z_M → Prop := fun v s' => z_CI s' ∧ z_Fr R_X12_pagesBy_309 r0 s' ∧ (∃ x, v = vI x ∧ 0 ≤ x ∧ x ≤ 200 ∧ (y_PF s' x))
theorem rs_X12_sideOf_309__X12_pagesBy_309 (a b : Int) (h : R_X12_sideOf_309 a b) : R_X12_pagesBy_309 a b := (h.elim (fun h => (Or.inl (⟨by omega, by omega⟩))) (fun h => (Or.inr (⟨h.1, by omega⟩))))
theorem nr_X12_sideOf_309__7653 (b : Int) : ¬ R_X12_sideOf_309 7653 b := by
  unfold R_X12_sideOf_309; omega
theorem sl_X12_pagesBy_309_L45 {fu : Nat} (hfu : 8589934592 ≤ fu) (r0 : z_M) (a1 : Int) (a2 : Int) (b1 : -2147483648 ≤ a1 ∧ a1 ≤ 2147483647) (b2 : 0 ≤ a2 ∧ a2 ≤ 200) {k : z_M → Int → z_O} (hk : ∀ (s' : z_M) (v3 : Int), z_CI s' → z_Fr R_X12_pagesBy_309 r0 s' → (1 ≤ v3 ∧ v3 ≤ 200) → (y_B s') → (y_BK s') → (y_L s' (s' 309 44)) → (y_TA s') → (v3 ≤ s' 309 44) → (a2 ≤ v3) → (y_LP s' 7653 a2 v3) → z_T (k s' v3) (P_X12_pagesBy_309 r0)) : ∀ (F : Nat) (s : z_M) (a3 : Int) (a4 : Int), z_CI s → z_Fr R_X12_pagesBy_309 r0 s → (1 ≤ a3 ∧ a3 ≤ 200) → (-2147483648 ≤ a4 ∧ a4 ≤ 2147483647) → (y_B s) → (y_BK s) → (y_L s (s 309 44)) → (y_TA s) → (a3 ≤ s 309 44) → (a2 ≤ a3) → (y_LP s 7653 a2 a3) → (2147483647 - a3 < (F : Int)) → z_T (fX12_pagesBy_L45 fu 309 a1 a2 F s a3 a4 k) (P_X12_pagesBy_309 r0) := by
  intro F
  induction F with
  | zero =>
    intro s a3 a4 c f b3 b4 i0 i1 i2 i3 i4 i5 i6 hm
    have u47 := CI_b c (k := 309) (j := 20) bd_309_20
    have u48 := CI_b c (k := 309) (j := 44) bd_309_44
    have u49 := CI_b c (k := 309) (j := 58) bd_309_58
    have u50 := CI_b c (k := 316) (j := 0) bd_316_0
    exfalso; omega
  | succ F ih =>
    intro s a3 a4 c f b3 b4 i0 i1 i2 i3 i4 i5 i6 hm
    refine T_of (fX12_pagesBy_L45.eq_2 ..) ?_
    have u1 := CI_b c (k := 309) (j := 20) bd_309_20
    have u2 := CI_b c (k := 309) (j := 44) bd_309_44
    have u3 := CI_b c (k := 309) (j := 58) bd_309_58
    have u4 := CI_b c (k := 316) (j := 0) bd_316_0
    have t5 : s 309 20 = r0 309 20 := f 309 20 (by decide)
    have t6 : s 309 44 = r0 309 44 := f 309 44 (by decide)
    have t7 : s 309 58 = r0 309 58 := f 309 58 (by decide)
    have t8 : s 316 0 = r0 316 0 := f 316 0 (by decide)
    refine T_if1 (by decide +kernel) ?_
    refine T_leq (fun x9 e10 => ?_)
    have u11 := CI_b c (k := 309) (j := 44) bd_309_44
    refine T_ite (fun h12 => ?_) (fun h12 => ?_)
    · exact hk s a3 c f (by omega) i0 i1 (by first | exact y_L.cg i2 (by omega)) i3 (by omega) (by omega) (by first | exact y_LP.cg i6 (by omega) (by omega) | exact y_LP.z (by omega) (by omega))
    · refine T_if1 (by decide +kernel) ?_
      refine T_let 7654 (by decide +kernel) ?_
      refine T_leq (fun x13 e14 => ?_)
      first | (have w15 := z_wx e14 (by omega)) | (have w15 := z_wr e14)
      refine T_if1 (z_ixl (n := 200) (by decide +kernel) (by omega) (by omega)) ?_
      refine T_leq (fun x16 e17 => ?_)
      have u18 := CI_b c (k := 7654) (j := x13) (bdr_7654 x13)
      refine T_leq (fun x19 e20 => ?_)
      first | (have w21 := z_wx e20 (by omega)) | (have w21 := z_wr e20)
      refine T_leq (fun x22 e23 => ?_)
      first | (have w24 := z_wx e23 (by omega)) | (have w24 := z_wr e23)
      refine T_if1 (by decide +kernel) ?_
      refine T_let 7655 (by decide +kernel) ?_
      refine T_if1 (z_ixl (n := 200) (by decide +kernel) (by omega) (by omega)) ?_
      refine T_leq (fun x25 e26 => ?_)
      have u27 := CI_b c (k := 7655) (j := a3) (bdr_7655 a3)
      refine T_leq (fun x28 e29 => ?_)
      first | (have w30 := z_wx e29 (by omega)) | (have w30 := z_wr e29)
      refine T_ite (fun h31 => ?_) (fun h31 => ?_)
      · exact hk s a3 c f (by omega) i0 i1 (by first | exact y_L.cg i2 (by omega)) i3 (by omega) (by omega) (by first | exact y_LP.cg i6 (by omega) (by omega) | exact y_LP.z (by omega) (by omega))
      · refine T_if1 (by decide +kernel) ?_
        refine T_let 7654 (by decide +kernel) ?_
        refine T_leq (fun x32 e33 => ?_)
        have q34 : x13 = x32 := e14.symm.trans e33
        subst q34
        refine T_if1 (z_ixl (n := 200) (by decide +kernel) (by omega) (by omega)) ?_
        refine T_leq (fun x35 e36 => ?_)
        have q37 : x16 = x35 := e17.symm.trans e36
        subst q37
        refine T_leq (fun x38 e39 => ?_)
        first | (have w40 := z_wx e39 (by omega)) | (have w40 := z_wr e39)
        refine T_leq (fun x41 e42 => ?_)
        first | (have w43 := z_wx e42 (by omega)) | (have w43 := z_wr e42)
        refine T_leq (fun x44 e45 => ?_)
        first | (have w46 := z_wx e45 (by omega)) | (have w46 := z_wr e45)
        exact ih s x44 x41 c f (by omega) (by omega) i0 i1 (by first | exact y_L.cg i2 (by omega)) i3 (by omega) (by omega) (by first | exact y_LP.cg i6 (by omega) (by omega) | exact y_LP.z (by omega) (by omega)) (by omega)
theorem sj_X12_pagesBy_309_J100 {fu : Nat} (hfu : 8589934592 ≤ fu) (r0 s : z_M) (c : z_CI s) (f : z_Fr R_X12_pagesBy_309 r0 s) (a1 : Int) (a2 : Int) (a3 : Int) (b1 : -2147483648 ≤ a1 ∧ a1 ≤ 2147483647) (b2 : 0 ≤ a2 ∧ a2 ≤ 200) (b3 : 0 ≤ a3 ∧ a3 ≤ 200) (p0 : y_B s) (p1 : y_BK s) (p2 : y_L s (s 309 44)) (p3 : y_TA s) (p4 : a3 ≤ s 309 44) (p5 : a2 ≤ a3) (p6 : y_LP s 7653 a2 a3) (M : Int) (pm : 201 - a2 < M) {r : z_M → Int → Int → z_O} {k : z_M → Int → z_O} (hr : ∀ (s' : z_M) (v2 : Int) (v3 : Int), z_CI s' → z_Fr R_X12_pagesBy_309 r0 s' → (0 ≤ v2 ∧ v2 ≤ 200) → (0 ≤ v3 ∧ v3 ≤ 200) → (y_B s') → (y_BK s') → (y_L s' (s' 309 44)) → (y_TA s') → (v3 ≤ s' 309 44) → (v2 ≤ v3) → (y_LP s' 7653 v2 v3) → (201 - v2 < M) → z_T (r s' v2 v3) (P_X12_pagesBy_309 r0)) (hk : ∀ (s' : z_M) (v2 : Int), z_CI s' → z_Fr R_X12_pagesBy_309 r0 s' → (0 ≤ v2 ∧ v2 ≤ 200) → (y_LP s' 7653 v2 (s' 309 44)) → (v2 ≤ s' 309 44) → z_T (k s' v2) (P_X12_pagesBy_309 r0)) : z_T (fX12_pagesBy_J100 fu s 309 a1 a2 a3 r k) (P_X12_pagesBy_309 r0) := by
  refine T_of (fX12_pagesBy_J100.eq_1 ..) ?_
  have u1 := CI_b c (k := 309) (j := 20) bd_309_20
  have u2 := CI_b c (k := 309) (j := 44) bd_309_44
  have u3 := CI_b c (k := 309) (j := 58) bd_309_58
  have u4 := CI_b c (k := 316) (j := 0) bd_316_0
  have t5 : s 309 20 = r0 309 20 := f 309 20 (by decide)
  have t6 : s 309 44 = r0 309 44 := f 309 44 (by decide)
  have t7 : s 309 58 = r0 309 58 := f 309 58 (by decide)
  have t8 : s 316 0 = r0 316 0 := f 316 0 (by decide)
  exact hr s a2 a3 c f (by omega) (by omega) p0 p1 (by first | exact y_L.cg p2 (by omega)) p3 (by omega) (by omega) (by first | exact y_LP.cg p6 (by omega) (by omega) | exact y_LP.z (by omega) (by omega)) (by omega)
theorem sj_X12_pagesBy_309_J37 {fu : Nat} (hfu : 8589934592 ≤ fu) (r0 s : z_M) (c : z_CI s) (f : z_Fr R_X12_pagesBy_309 r0 s) (a1 : Int) (a2 : Int) (a3 : Int) (t0 : Int) (b1 : -2147483648 ≤ a1 ∧ a1 ≤ 2147483647) (b2 : 0 ≤ a2 ∧ a2 ≤ 200) (b3 : 0 ≤ a3 ∧ a3 ≤ 199) (d0 : 0 ≤ t0 ∧ t0 ≤ 6) (p0 : y_B s) (p1 : y_BK s) (p2 : y_L s (s 309 44)) (p3 : y_TA s) (p4 : a3 < s 309 44) (p5 : a2 ≤ a3 + 1) (p6 : y_LP s 7653 a2 (a3 + 1)) (M : Int) (pm : 201 - a2 < M) {r : z_M → Int → Int → z_O} {k : z_M → Int → z_O} (hr : ∀ (s' : z_M) (v2 : Int) (v3 : Int), z_CI s' → z_Fr R_X12_pagesBy_309 r0 s' → (0 ≤ v2 ∧ v2 ≤ 200) → (0 ≤ v3 ∧ v3 ≤ 200) → (y_B s') → (y_BK s') → (y_L s' (s' 309 44)) → (y_TA s') → (v3 ≤ s' 309 44) → (v2 ≤ v3) → (y_LP s' 7653 v2 v3) → (201 - v2 < M) → z_T (r s' v2 v3) (P_X12_pagesBy_309 r0)) (hk : ∀ (s' : z_M) (v2 : Int), z_CI s' → z_Fr R_X12_pagesBy_309 r0 s' → (0 ≤ v2 ∧ v2 ≤ 200) → (y_LP s' 7653 v2 (s' 309 44)) → (v2 ≤ s' 309 44) → z_T (k s' v2) (P_X12_pagesBy_309 r0)) : z_T (fX12_pagesBy_J37 fu s 309 a1 a2 a3 t0 r k) (P_X12_pagesBy_309 r0) := by
  refine T_of (fX12_pagesBy_J37.eq_1 ..) ?_
  have u1 := CI_b c (k := 309) (j := 20) bd_309_20
  have u2 := CI_b c (k := 309) (j := 44) bd_309_44
  have u3 := CI_b c (k := 309) (j := 58) bd_309_58
  have u4 := CI_b c (k := 316) (j := 0) bd_316_0
  have t5 : s 309 20 = r0 309 20 := f 309 20 (by decide)
  have t6 : s 309 44 = r0 309 44 := f 309 44 (by decide)
  have t7 : s 309 58 = r0 309 58 := f 309 58 (by decide)
  have t8 : s 316 0 = r0 316 0 := f 316 0 (by decide)
  refine T_leq (fun x9 e10 => ?_)
  first | (have w11 := z_wx e10 (by omega)) | (have w11 := z_wr e10)
  refine T_leq (fun x12 e13 => ?_)
  first | (have w14 := z_wx e13 (by omega)) | (have w14 := z_wr e13)
  refine sl_X12_pagesBy_309_L45 hfu r0 a1 a2 (by omega) (by omega) (fun s15 y18 c16 f17 b19 g20 g21 g22 g23 g24 g25 g26 => ?_) fu s x12 x9 c f (by omega) (by omega) p0 p1 (by first | exact y_L.cg p2 (by omega)) p3 (by omega) (by omega) (by first | exact y_LP.cg p6 (by omega) (by omega) | exact y_LP.z (by omega) (by omega)) (by omega)
  have u27 := CI_b c16 (k := 309) (j := 20) bd_309_20
  have u28 := CI_b c16 (k := 309) (j := 44) bd_309_44
  have u29 := CI_b c16 (k := 309) (j := 58) bd_309_58
  have u30 := CI_b c16 (k := 316) (j := 0) bd_316_0
  have t31 : s15 309 20 = r0 309 20 := f17 309 20 (by decide)
  have t32 : s15 309 44 = r0 309 44 := f17 309 44 (by decide)
  have t33 : s15 309 58 = r0 309 58 := f17 309 58 (by decide)
  have t34 : s15 316 0 = r0 316 0 := f17 316 0 (by decide)
  exact sj_X12_pagesBy_309_J100 hfu r0 s15 c16 f17 a1 a2 y18 (by omega) (by omega) (by omega) g20 g21 (by first | exact y_L.cg g22 (by omega)) g23 (by omega) (by omega) (by first | exact y_LP.cg g26 (by omega) (by omega) | exact y_LP.z (by omega) (by omega)) M (by omega) (fun s' v2 v3 c' f' w2 w3 z0 z1 z2 z3 z4 z5 z6 pg => hr s' v2 v3 c' f' w2 w3 z0 z1 z2 z3 z4 z5 z6 (by omega)) hk
theorem sl_X12_pagesBy_309_L4 {fu : Nat} (hfu : 8589934592 ≤ fu) (r0 : z_M) (a1 : Int) (b1 : -2147483648 ≤ a1 ∧ a1 ≤ 2147483647) {k : z_M → Int → z_O} (hk : ∀ (s' : z_M) (v2 : Int), z_CI s' → z_Fr R_X12_pagesBy_309 r0 s' → (0 ≤ v2 ∧ v2 ≤ 200) → (y_LP s' 7653 v2 (s' 309 44)) → (v2 ≤ s' 309 44) → z_T (k s' v2) (P_X12_pagesBy_309 r0)) : ∀ (F : Nat) (s : z_M) (a2 : Int) (a3 : Int), z_CI s → z_Fr R_X12_pagesBy_309 r0 s → (0 ≤ a2 ∧ a2 ≤ 200) → (0 ≤ a3 ∧ a3 ≤ 200) → (y_B s) → (y_BK s) → (y_L s (s 309 44)) → (y_TA s) → (a3 ≤ s 309 44) → (a2 ≤ a3) → (y_LP s 7653 a2 a3) → (201 - a2 < (F : Int)) → z_T (fX12_pagesBy_L4 fu 309 a1 F s a2 a3 k) (P_X12_pagesBy_309 r0) := by
  intro F
  induction F with
  | zero =>
    intro s a2 a3 c f b2 b3 i0 i1 i2 i3 i4 i5 i6 hm
    have u50 := CI_b c (k := 309) (j := 20) bd_309_20
    have u51 := CI_b c (k := 309) (j := 44) bd_309_44
    have u52 := CI_b c (k := 309) (j := 58) bd_309_58
    have u53 := CI_b c (k := 316) (j := 0) bd_316_0
    exfalso; omega
  | succ F ih =>
    intro s a2 a3 c f b2 b3 i0 i1 i2 i3 i4 i5 i6 hm
    refine T_of (fX12_pagesBy_L4.eq_2 ..) ?_
    have u1 := CI_b c (k := 309) (j := 20) bd_309_20
    have u2 := CI_b c (k := 309) (j := 44) bd_309_44
    have u3 := CI_b c (k := 309) (j := 58) bd_309_58
    have u4 := CI_b c (k := 316) (j := 0) bd_316_0
    have t5 : s 309 20 = r0 309 20 := f 309 20 (by decide)
    have t6 : s 309 44 = r0 309 44 := f 309 44 (by decide)
    have t7 : s 309 58 = r0 309 58 := f 309 58 (by decide)
    have t8 : s 316 0 = r0 316 0 := f 316 0 (by decide)
    refine T_if1 (by decide +kernel) ?_
    refine T_leq (fun x9 e10 => ?_)
    have u11 := CI_b c (k := 309) (j := 44) bd_309_44
    refine T_ite (fun h12 => ?_) (fun h12 => ?_)
    · exact hk s a2 c f (by omega) (by first | exact y_LP.cg i6 (by omega) (by omega) | exact y_LP.z (by omega) (by omega)) (by omega)
    · refine T_if1 (by decide +kernel) ?_
      refine T_let 7653 (by decide +kernel) ?_
      refine T_if1 (z_ixl (n := 201) (by decide +kernel) (by omega) (by omega)) ?_
      refine T_upg c (bdr_7653 a2) (by omega) (fun s13 c14 g16 g17 e18 => ?_)
      have f15 := z_Fr.up (R := R_X12_pagesBy_309) f g16 (fun _ => (Or.inl (⟨by decide, by decide⟩)))
      have t19 : s13 309 20 = s 309 20 := g16 309 20 (by decide)
      have t20 : s13 309 44 = x9 := (g16 309 44 (by decide)).trans e10
      have t21 : s13 309 58 = s 309 58 := g16 309 58 (by decide)
      have t22 : s13 316 0 = s 316 0 := g16 316 0 (by decide)
      have r23 := y_B.fr i0 (g16 309 20 (by decide)) (g16 316 0 (by decide)) (fun b => g16 3220 b (by decide)) (fun b => g16 3221 b (by decide)) (fun b => g16 3222 b (by decide)) (fun b => g16 361 b (by decide))
      have r24 := y_BK.fr i1 (by omega) (g16 309 20 (by decide)) (g16 309 58 (by decide)) (fun b => g16 3220 b (by decide)) (fun a b h => g16 a b (by omega))
      have r25 := y_L.fr i2 (g16 309 20 (by decide)) (fun b => g16 3438 b (by decide))
      have r26 := y_TA.fr i3 (fun a b h => g16 a b (by omega)) (fun a b h => g16 a b (by omega)) (fun a b h => g16 a b (by omega))
      have r27 : y_LP s13 7653 (a2 + 1) (a3 + 1) := y_LP.st i6 g17 e18 rfl rfl rfl (Int.le_refl _)
      refine T_leq (fun x28 e29 => ?_)
      first | (have w30 := z_wx e29 (by omega)) | (have w30 := z_wr e29)
      refine T_if1 (by decide +kernel) ?_
      refine T_useI (sf_X12_sideOf_309 hfu s13 c14 a3 0 (by omega) (by omega) r23 r24 (by first | exact y_L.cg r25 (by omega)) r26 (by omega)) (fun v36 s31 hq => ?_)
      obtain ⟨c32, f33, ⟨x35, rfl, b37, b38, o39⟩⟩ := hq
      refine T_vI ?_
      have f34 := z_Fr.tr (R := R_X12_pagesBy_309) f15 f33 rs_X12_sideOf_309__X12_pagesBy_309
      have t40 : s31 309 20 = s 309 20 := (f33 309 20 (by decide)).trans t19
      have t41 : s31 309 44 = x9 := (f33 309 44 (by decide)).trans t20
      have t42 : s31 309 58 = s 309 58 := (f33 309 58 (by decide)).trans t21
      have t43 : s31 316 0 = s 316 0 := (f33 316 0 (by decide)).trans t22
      have r44 := y_B.fr r23 (f33 309 20 (by decide)) (f33 316 0 (by decide)) (fun b => f33 3220 b (nr_X12_sideOf_309__3220 b)) (fun b => f33 3221 b (nr_X12_sideOf_309__3221 b)) (fun b => f33 3222 b (nr_X12_sideOf_309__3222 b)) (fun b => f33 361 b (nr_X12_sideOf_309__361 b))
      have r45 := y_BK.fr r24 (by omega) (f33 309 20 (by decide)) (f33 309 58 (by decide)) (fun b => f33 3220 b (nr_X12_sideOf_309__3220 b)) (fun a b h => f33 a b (nq_X12_sideOf_309__3452 a b h))
      have r46 := y_L.fr r25 (f33 309 20 (by decide)) (fun b => f33 3438 b (nr_X12_sideOf_309__3438 b))
      have r47 := y_TA.fr r26 (fun a b h => f33 a b (nq_X12_sideOf_309__316 a b h)) (fun a b h => f33 a b (nq_X12_sideOf_309__346 a b h)) (fun a b h => f33 a b (nq_X12_sideOf_309__361 a b h))
      have r48 := y_LP.fr r27 (fun b => f33 7653 b (nr_X12_sideOf_309__7653 b))
      clear t19
      clear t20
      clear t21
      clear t22
      refine T_ite (fun h49 => ?_) (fun h49 => ?_)
      · exact sj_X12_pagesBy_309_J37 hfu r0 s31 c32 f34 a1 x28 a3 0 (by omega) (by omega) (by omega) (by omega) r44 r45 (by first | exact y_L.cg r46 (by omega)) r47 (by omega) (by omega) (by first | exact y_LP.cg r48 (by omega) (by omega) | exact y_LP.z (by omega) (by omega)) (201 - a2) (by omega) (fun s' v2 v3 c' f' w2 w3 z0 z1 z2 z3 z4 z5 z6 pg => ih s' v2 v3 c' f' w2 w3 z0 z1 z2 z3 z4 z5 z6 (by omega)) hk
      · exact sj_X12_pagesBy_309_J37 hfu r0 s31 c32 f34 a1 x28 a3 6 (by omega) (by omega) (by omega) (by omega) r44 r45 (by first | exact y_L.cg r46 (by omega)) r47 (by omega) (by omega) (by first | exact y_LP.cg r48 (by omega) (by omega) | exact y_LP.z (by omega) (by omega)) (201 - a2) (by omega) (fun s' v2 v3 c' f' w2 w3 z0 z1 z2 z3 z4 z5 z6 pg => ih s' v2 v3 c' f' w2 w3 z0 z1 z2 z3 z4 z5 z6 (by omega)) hk
theorem sf_X12_pagesBy_309 {fu : Nat} (hfu : 8589934592 ≤ fu) (r0 : z_M) (c0 : z_CI r0) (a1 : Int) (b1 : -2147483648 ≤ a1 ∧ a1 ≤ 2147483647) (p0 : y_B r0) (p1 : y_BK r0) (p2 : y_L r0 (r0 309 44)) (p3 : y_TA r0) : z_T (fX12_pagesBy fu r0 309 a1) (P_X12_pagesBy_309 r0) := by
  refine T_of (fX12_pagesBy.eq_1 ..) ?_
  have u1 := CI_b c0 (k := 309) (j := 20) bd_309_20
  have u2 := CI_b c0 (k := 309) (j := 44) bd_309_44
  have u3 := CI_b c0 (k := 309) (j := 58) bd_309_58
  have u4 := CI_b c0 (k := 316) (j := 0) bd_316_0
  refine sl_X12_pagesBy_309_L4 hfu r0 a1 (by omega) (fun s5 y8 c6 f7 b9 g10 g11 => ?_) fu r0 0 0 c0 z_Fr.rf (by omega) (by omega) p0 p1 (by first | exact y_L.cg p2 (by omega)) p3 (by omega) (by omega) (by first | exact y_LP.z (by omega) (by omega)) (by omega)
  have u12 := CI_b c6 (k := 309) (j := 20) bd_309_20
  have u13 := CI_b c6 (k := 309) (j := 44) bd_309_44
  have u14 := CI_b c6 (k := 309) (j := 58) bd_309_58
  have u15 := CI_b c6 (k := 316) (j := 0) bd_316_0
  have t16 : s5 309 20 = r0 309 20 := f7 309 20 (by decide)
  have t17 : s5 309 44 = r0 309 44 := f7 309 44 (by decide)
  have t18 : s5 309 58 = r0 309 58 := f7 309 58 (by decide)
  have t19 : s5 316 0 = r0 316 0 := f7 316 0 (by decide)
  refine T_if1 (by decide +kernel) ?_
  refine T_let 7653 (by decide +kernel) ?_
  refine T_if1 (by decide +kernel) ?_
  refine T_leq (fun x20 e21 => ?_)
  have u22 := CI_b c6 (k := 309) (j := 44) bd_309_44
  refine T_if1 (z_ixl (n := 201) (by decide +kernel) (by omega) (by omega)) ?_
  refine T_upg c6 (bdr_7653 y8) (by omega) (fun s23 c24 g26 g27 e28 => ?_)
  have f25 := z_Fr.up (R := R_X12_pagesBy_309) f7 g26 (fun _ => (Or.inl (⟨by decide, by decide⟩)))
  have t29 : s23 309 20 = s5 309 20 := g26 309 20 (by decide)
  have t30 : s23 309 44 = x20 := (g26 309 44 (by decide)).trans e21
  have t31 : s23 309 58 = s5 309 58 := g26 309 58 (by decide)
  have t32 : s23 316 0 = s5 316 0 := g26 316 0 (by decide)
  have r33 := y_LP.end g10 g27 e28 rfl rfl (by omega)
  exact T_ret ⟨c24, f25, ⟨y8, rfl, by omega, by omega, (by first | exact y_PF.of r33 (by omega))⟩⟩
abbrev R_X12_pages_309 (a b : Int) : Prop := (310 ≤ a ∧ a ≤ 310) ∨ (3224 ≤ a ∧ a ≤ 7655) ∨ (a = 309 ∧ (b = 0 ∨ b = 35 ∨ b = 36 ∨ b = 38 ∨ b = 39 ∨ b = 43 ∨ b = 44 ∨ b = 58 ∨ b = 60))
abbrev P_X12_pages_309 (r0 : z_M) : z_V → z_M → Prop := fun v s' => z_CI s' ∧ z_Fr R_X12_pages_309 r0 s' ∧ (y_TA s') ∧ (y_DD s') ∧ (y_B s') ∧ (y_K s') ∧ (∃ x, v = vI x ∧ -2147483648 ≤ x ∧ x ≤ 2147483647)
theorem rs_X12_bad_309__X12_pages_309 (a b : Int) (h : R_X12_bad_309 a b) : R_X12_pages_309 a b := (h.elim (fun h => (Or.inl (⟨by omega, by omega⟩))) (fun h => (Or.inr (Or.inr (⟨h.1, by omega⟩)))))
theorem rs_X12_laysGutters_309__X12_pages_309 (a b : Int) (h : R_X12_laysGutters_309 a b) : R_X12_pages_309 a b := (h.elim (fun h => (Or.inr (Or.inl (⟨by omega, by omega⟩)))) (fun h => (Or.inr (Or.inr (⟨h.1, by omega⟩)))))
theorem nq_X12_laysGutters_309__316 (a b : Int) (h : 316 ≤ a ∧ a ≤ 328) : ¬ R_X12_laysGutters_309 a b := by
  unfold R_X12_laysGutters_309; omega
theorem nq_X12_laysGutters_309__346 (a b : Int) (h : 346 ≤ a ∧ a ≤ 358) : ¬ R_X12_laysGutters_309 a b := by
  unfold R_X12_laysGutters_309; omega
theorem nq_X12_laysGutters_309__361 (a b : Int) (h : 361 ≤ a ∧ a ≤ 373) : ¬ R_X12_laysGutters_309 a b := by
  unfold R_X12_laysGutters_309; omega
theorem nr_X12_laysGutters_309__359 (b : Int) : ¬ R_X12_laysGutters_309 359 b := by
  unfold R_X12_laysGutters_309; omega
theorem nr_X12_laysGutters_309__374 (b : Int) : ¬ R_X12_laysGutters_309 374 b := by
  unfold R_X12_laysGutters_309; omega
theorem nr_X12_laysGutters_309__3220 (b : Int) : ¬ R_X12_laysGutters_309 3220 b := by
  unfold R_X12_laysGutters_309; omega
theorem nr_X12_laysGutters_309__3221 (b : Int) : ¬ R_X12_laysGutters_309 3221 b := by
  unfold R_X12_laysGutters_309; omega
theorem nr_X12_laysGutters_309__3222 (b : Int) : ¬ R_X12_laysGutters_309 3222 b := by
  unfold R_X12_laysGutters_309; omega
theorem nr_X12_laysGutters_309__361 (b : Int) : ¬ R_X12_laysGutters_309 361 b := by
  unfold R_X12_laysGutters_309; omega
theorem rs_X12_pagesBy_309__X12_pages_309 (a b : Int) (h : R_X12_pagesBy_309 a b) : R_X12_pages_309 a b := (h.elim (fun h => (Or.inr (Or.inl (⟨by omega, by omega⟩)))) (fun h => (Or.inr (Or.inr (⟨h.1, by omega⟩)))))
theorem nq_X12_pagesBy_309__316 (a b : Int) (h : 316 ≤ a ∧ a ≤ 328) : ¬ R_X12_pagesBy_309 a b := by
  unfold R_X12_pagesBy_309; omega
theorem nq_X12_pagesBy_309__346 (a b : Int) (h : 346 ≤ a ∧ a ≤ 358) : ¬ R_X12_pagesBy_309 a b := by
  unfold R_X12_pagesBy_309; omega
theorem nq_X12_pagesBy_309__361 (a b : Int) (h : 361 ≤ a ∧ a ≤ 373) : ¬ R_X12_pagesBy_309 a b := by
  unfold R_X12_pagesBy_309; omega
theorem nr_X12_pagesBy_309__359 (b : Int) : ¬ R_X12_pagesBy_309 359 b := by
  unfold R_X12_pagesBy_309; omega
theorem nr_X12_pagesBy_309__374 (b : Int) : ¬ R_X12_pagesBy_309 374 b := by
  unfold R_X12_pagesBy_309; omega
theorem nr_X12_pagesBy_309__3220 (b : Int) : ¬ R_X12_pagesBy_309 3220 b := by
  unfold R_X12_pagesBy_309; omega
theorem nr_X12_pagesBy_309__3221 (b : Int) : ¬ R_X12_pagesBy_309 3221 b := by
  unfold R_X12_pagesBy_309; omega
theorem nr_X12_pagesBy_309__3222 (b : Int) : ¬ R_X12_pagesBy_309 3222 b := by
  unfold R_X12_pagesBy_309; omega
theorem nr_X12_pagesBy_309__361 (b : Int) : ¬ R_X12_pagesBy_309 361 b := by
  unfold R_X12_pagesBy_309; omega
theorem nr_X12_pagesBy_309__3438 (b : Int) : ¬ R_X12_pagesBy_309 3438 b := by
  unfold R_X12_pagesBy_309; omega
theorem nq_X12_pagesBy_309__3452 (a b : Int) (h : 3452 ≤ a ∧ a ≤ 3651) : ¬ R_X12_pagesBy_309 a b := by
  unfold R_X12_pagesBy_309; omega
theorem sj_X12_pages_309_J23 {fu : Nat} (hfu : 8589934592 ≤ fu) (r0 s : z_M) (c : z_CI s) (f : z_Fr R_X12_pages_309 r0 s) (a1 : Int) (t1 : Int) (b1 : -2147483648 ≤ a1 ∧ a1 ≤ 2147483647) (d1 : 0 ≤ t1 ∧ t1 ≤ 1) (p0 : y_TA s) (p1 : y_DD s) (p2 : y_B s) (p3 : y_K s) : z_T (fX12_pages_J23 fu s 309 a1 309 t1) (P_X12_pages_309 r0) := by
  refine T_of (fX12_pages_J23.eq_1 ..) ?_
  have u1 := CI_b c (k := 309) (j := 20) bd_309_20
  have u2 := CI_b c (k := 309) (j := 36) bd_309_36
  have u3 := CI_b c (k := 309) (j := 43) bd_309_43
  have u4 := CI_b c (k := 309) (j := 44) bd_309_44
  have u5 := CI_b c (k := 309) (j := 58) bd_309_58
  have u6 := CI_b c (k := 316) (j := 0) bd_316_0
  have u7 := CI_b c (k := 329) (j := 0) bd_329_0
  have u8 := CI_b c (k := 329) (j := 1) bd_329_1
  have t9 : s 309 20 = r0 309 20 := f 309 20 (by decide)
  have t10 : s 316 0 = r0 316 0 := f 316 0 (by decide)
  have t11 : s 329 0 = r0 329 0 := f 329 0 (by decide)
  have t12 : s 329 1 = r0 329 1 := f 329 1 (by decide)
  refine T_if1 (by decide +kernel) ?_
  refine T_useI (sf_X12_bad_309 hfu s c t1 1 1 (by omega) (by omega) (by omega) (by omega)) (fun v18 s13 hq => ?_)
  obtain ⟨c14, f15, o19, ⟨x17, rfl, b20, b21, o22, o23⟩⟩ := hq
  refine T_vI ?_
  have f16 := z_Fr.tr (R := R_X12_pages_309) f f15 rs_X12_bad_309__X12_pages_309
  have t24 : s13 309 20 = s 309 20 := f15 309 20 (by decide)
  have t25 : s13 309 36 = s 309 36 := f15 309 36 (by decide)
  have t26 : s13 309 43 = s 309 43 := f15 309 43 (by decide)
  have t27 : s13 309 44 = s 309 44 := f15 309 44 (by decide)
  have t28 : s13 309 58 = s 309 58 := f15 309 58 (by decide)
  have t29 : s13 316 0 = s 316 0 := f15 316 0 (by decide)
  have t30 : s13 329 0 = s 329 0 := f15 329 0 (by decide)
  have t31 : s13 329 1 = s 329 1 := f15 329 1 (by decide)
  have r32 := y_TA.fr p0 (fun a b h => f15 a b (nq_X12_bad_309__316 a b h)) (fun a b h => f15 a b (nq_X12_bad_309__346 a b h)) (fun a b h => f15 a b (nq_X12_bad_309__361 a b h))
  have r33 := y_DD.fr p1 (f15 329 0 (by decide)) (f15 329 1 (by decide)) (fun b => f15 359 b (nr_X12_bad_309__359 b)) (fun b => f15 374 b (nr_X12_bad_309__374 b))
  have r34 := y_B.fr p2 (f15 309 20 (by decide)) (f15 316 0 (by decide)) (fun b => f15 3220 b (nr_X12_bad_309__3220 b)) (fun b => f15 3221 b (nr_X12_bad_309__3221 b)) (fun b => f15 3222 b (nr_X12_bad_309__3222 b)) (fun b => f15 361 b (nr_X12_bad_309__361 b))
  have r35 := y_K.fr p3 (by omega) (by omega) (f15 309 44 (by decide)) (f15 309 20 (by decide)) (f15 309 58 (by decide)) (fun b => f15 3438 b (nr_X12_bad_309__3438 b)) (fun b => f15 3220 b (nr_X12_bad_309__3220 b)) (fun a b h => f15 a b (nq_X12_bad_309__3452 a b h))
  refine T_ite (fun h36 => ?_) (fun h36 => ?_)
  · refine T_if1 (by decide +kernel) ?_
    refine T_useN (sf_X12_laysGutters_309 hfu s13 c14 r34 (by first | exact r35 | exact y_K.b0 (by omega) | exact y_K.k0 (by omega) | exact y_K.bk (by omega)) r32) (fun v42 s37 hq => ?_)
    obtain ⟨c38, f39, o43, o44, o45, rfl⟩ := hq
    refine T_vN ?_
    have f40 := z_Fr.tr (R := R_X12_pages_309) f16 f39 rs_X12_laysGutters_309__X12_pages_309
    have t48 : s37 309 20 = s 309 20 := (f39 309 20 (by decide)).trans t24
    have t49 : s37 316 0 = s 316 0 := (f39 316 0 (by decide)).trans t29
    have t50 : s37 329 0 = s 329 0 := (f39 329 0 (by decide)).trans t30
    have t51 : s37 329 1 = s 329 1 := (f39 329 1 (by decide)).trans t31
    have u52 := CI_b c38 (k := 309) (j := 36) bd_309_36
    have u53 := CI_b c38 (k := 309) (j := 43) bd_309_43
    have u54 := CI_b c38 (k := 309) (j := 44) bd_309_44
    have u55 := CI_b c38 (k := 309) (j := 58) bd_309_58
    have r56 := y_TA.fr r32 (fun a b h => f39 a b (nq_X12_laysGutters_309__316 a b h)) (fun a b h => f39 a b (nq_X12_laysGutters_309__346 a b h)) (fun a b h => f39 a b (nq_X12_laysGutters_309__361 a b h))
    have r57 := y_DD.fr r33 (f39 329 0 (by decide)) (f39 329 1 (by decide)) (fun b => f39 359 b (nr_X12_laysGutters_309__359 b)) (fun b => f39 374 b (nr_X12_laysGutters_309__374 b))
    have r58 := y_B.fr r34 (f39 309 20 (by decide)) (f39 316 0 (by decide)) (fun b => f39 3220 b (nr_X12_laysGutters_309__3220 b)) (fun b => f39 3221 b (nr_X12_laysGutters_309__3221 b)) (fun b => f39 3222 b (nr_X12_laysGutters_309__3222 b)) (fun b => f39 361 b (nr_X12_laysGutters_309__361 b))
    clear t24
    clear t29
    clear t30
    clear t31
    refine T_if1 (by decide +kernel) ?_
    refine T_useI (sf_X12_pagesBy_309 hfu s37 c38 a1 (by omega) r58 (by first | exact o45 | exact y_K.B o43 (by omega) (by omega)) (by first | exact y_L.cg o44 (by omega) | exact y_K.L o43 (by omega) (by omega)) r56) (fun v64 s59 hq => ?_)
    obtain ⟨c60, f61, ⟨x63, rfl, b65, b66, o67⟩⟩ := hq
    refine T_vI ?_
    have f62 := z_Fr.tr (R := R_X12_pages_309) f40 f61 rs_X12_pagesBy_309__X12_pages_309
    have t68 : s59 309 20 = s 309 20 := (f61 309 20 (by decide)).trans t48
    have t69 : s59 309 36 = s37 309 36 := f61 309 36 (by decide)
    have t70 : s59 309 43 = s37 309 43 := f61 309 43 (by decide)
    have t71 : s59 309 44 = s37 309 44 := f61 309 44 (by decide)
    have t72 : s59 309 58 = s37 309 58 := f61 309 58 (by decide)
    have t73 : s59 316 0 = s 316 0 := (f61 316 0 (by decide)).trans t49
    have t74 : s59 329 0 = s 329 0 := (f61 329 0 (by decide)).trans t50
    have t75 : s59 329 1 = s 329 1 := (f61 329 1 (by decide)).trans t51
    have r76 := y_TA.fr r56 (fun a b h => f61 a b (nq_X12_pagesBy_309__316 a b h)) (fun a b h => f61 a b (nq_X12_pagesBy_309__346 a b h)) (fun a b h => f61 a b (nq_X12_pagesBy_309__361 a b h))
    have r77 := y_DD.fr r57 (f61 329 0 (by decide)) (f61 329 1 (by decide)) (fun b => f61 359 b (nr_X12_pagesBy_309__359 b)) (fun b => f61 374 b (nr_X12_pagesBy_309__374 b))
    have r78 := y_B.fr r58 (f61 309 20 (by decide)) (f61 316 0 (by decide)) (fun b => f61 3220 b (nr_X12_pagesBy_309__3220 b)) (fun b => f61 3221 b (nr_X12_pagesBy_309__3221 b)) (fun b => f61 3222 b (nr_X12_pagesBy_309__3222 b)) (fun b => f61 361 b (nr_X12_pagesBy_309__361 b))
    have r79 := y_K.fr o43 (by omega) (by omega) (f61 309 44 (by decide)) (f61 309 20 (by decide)) (f61 309 58 (by decide)) (fun b => f61 3438 b (nr_X12_pagesBy_309__3438 b)) (fun b => f61 3220 b (nr_X12_pagesBy_309__3220 b)) (fun a b h => f61 a b (nq_X12_pagesBy_309__3452 a b h))
    have r80 := y_L.fr o44 (f61 309 20 (by decide)) (fun b => f61 3438 b (nr_X12_pagesBy_309__3438 b))
    have r81 := y_BK.fr o45 (by omega) (f61 309 20 (by decide)) (f61 309 58 (by decide)) (fun b => f61 3220 b (nr_X12_pagesBy_309__3220 b)) (fun a b h => f61 a b (nq_X12_pagesBy_309__3452 a b h))
    clear t48
    clear t49
    clear t50
    clear t51
    exact T_ret ⟨c60, f62, r76, (by first | exact r77 | exact y_DD.z (by omega) (by omega)), r78, (by first | exact r79 | exact y_K.b0 (by omega) | exact y_K.k0 (by omega) | exact y_K.bk (by omega) | exact y_K.mk r80 (by omega) r81), ⟨x63, rfl, by omega, by omega⟩⟩
  · exact T_ret ⟨c14, f16, r32, (by first | exact r33 | exact y_DD.z (by omega) (by omega)), r34, (by first | exact r35 | exact y_K.b0 (by omega) | exact y_K.k0 (by omega) | exact y_K.bk (by omega)), ⟨0, rfl, by omega, by omega⟩⟩
theorem sf_X12_pages_309 {fu : Nat} (hfu : 8589934592 ≤ fu) (r0 : z_M) (c0 : z_CI r0) (a1 : Int) (b1 : -2147483648 ≤ a1 ∧ a1 ≤ 2147483647) (p0 : y_TA r0) (p1 : y_DD r0) (p2 : y_B r0) (p3 : y_K r0) : z_T (fX12_pages fu r0 309 a1) (P_X12_pages_309 r0) := by
  refine T_of (fX12_pages.eq_1 ..) ?_
  have u1 := CI_b c0 (k := 309) (j := 20) bd_309_20
  have u2 := CI_b c0 (k := 309) (j := 36) bd_309_36
  have u3 := CI_b c0 (k := 309) (j := 43) bd_309_43
  have u4 := CI_b c0 (k := 309) (j := 44) bd_309_44
  have u5 := CI_b c0 (k := 309) (j := 58) bd_309_58
  have u6 := CI_b c0 (k := 316) (j := 0) bd_316_0
  have u7 := CI_b c0 (k := 329) (j := 0) bd_329_0
  have u8 := CI_b c0 (k := 329) (j := 1) bd_329_1
  refine T_if1 (by decide +kernel) ?_
  refine T_upg c0 bd_309_0 (by omega) (fun s9 c10 g12 g13 e14 => ?_)
  have f11 := z_Fr.upf (R := R_X12_pages_309) z_Fr.rf g12 g13 (Or.inr (Or.inr (⟨rfl, by decide⟩)))
  have t15 : s9 309 20 = r0 309 20 := g13 20 (by decide)
  have t16 : s9 309 36 = r0 309 36 := g13 36 (by decide)
  have t17 : s9 309 43 = r0 309 43 := g13 43 (by decide)
  have t18 : s9 309 44 = r0 309 44 := g13 44 (by decide)
  have t19 : s9 309 58 = r0 309 58 := g13 58 (by decide)
  have t20 : s9 316 0 = r0 316 0 := g12 316 0 (by decide)
  have t21 : s9 329 0 = r0 329 0 := g12 329 0 (by decide)
  have t22 : s9 329 1 = r0 329 1 := g12 329 1 (by decide)
  have r23 := y_TA.fr p0 (fun a b h => g12 a b (by omega)) (fun a b h => g12 a b (by omega)) (fun a b h => g12 a b (by omega))
  have r24 := y_DD.fr p1 (g12 329 0 (by decide)) (g12 329 1 (by decide)) (fun b => g12 359 b (by decide)) (fun b => g12 374 b (by decide))
  have r25 := y_B.fr p2 (g13 20 (by decide)) (g12 316 0 (by decide)) (fun b => g12 3220 b (by decide)) (fun b => g12 3221 b (by decide)) (fun b => g12 3222 b (by decide)) (fun b => g12 361 b (by decide))
  have r26 := y_K.fr p3 (by omega) (by omega) (g13 44 (by decide)) (g13 20 (by decide)) (g13 58 (by decide)) (fun b => g12 3438 b (by decide)) (fun b => g12 3220 b (by decide)) (fun a b h => g12 a b (by omega))
  refine T_useI (sf_X12_in hfu s9 c10 a1 12 9999 (by omega) (by omega) (by omega)) (fun v32 s27 hq => ?_)
  obtain ⟨c28, f29, ⟨x31, rfl, b33, b34, o35⟩⟩ := hq
  refine T_vI ?_
  have q36 := z_Fr.eq (fun a b h => h) f29
  subst q36
  refine T_ite (fun h37 => ?_) (fun h37 => ?_)
  · exact sj_X12_pages_309_J23 hfu r0 s9 c10 f11 a1 0 (by omega) (by omega) r23 (by first | exact r24 | exact y_DD.z (by omega) (by omega)) r25 (by first | exact r26 | exact y_K.b0 (by omega) | exact y_K.k0 (by omega) | exact y_K.bk (by omega))
  · exact sj_X12_pages_309_J23 hfu r0 s9 c10 f11 a1 1 (by omega) (by omega) r23 (by first | exact r24 | exact y_DD.z (by omega) (by omega)) r25 (by first | exact r26 | exact y_K.b0 (by omega) | exact y_K.k0 (by omega) | exact y_K.bk (by omega))
abbrev R_X12_page_309 (a b : Int) : Prop := (310 ≤ a ∧ a ≤ 310) ∨ (3224 ≤ a ∧ a ≤ 7655) ∨ (a = 309 ∧ (b = 0 ∨ b = 35 ∨ b = 36 ∨ b = 38 ∨ b = 39 ∨ b = 43 ∨ b = 44 ∨ b = 58 ∨ b = 60))
abbrev P_X12_page_309 (r0 : z_M) : z_V → z_M → Prop := fun v s' => z_CI s' ∧ z_Fr R_X12_page_309 r0 s' ∧ (y_TA s') ∧ (y_DD s') ∧ (y_B s') ∧ (y_K s') ∧ (∃ x, v = vI x ∧ -2147483648 ≤ x ∧ x ≤ 2147483647)
theorem rs_X12_bad_309__X12_page_309 (a b : Int) (h : R_X12_bad_309 a b) : R_X12_page_309 a b := (h.elim (fun h => (Or.inl (⟨by omega, by omega⟩))) (fun h => (Or.inr (Or.inr (⟨h.1, by omega⟩)))))
theorem rs_X12_laysGutters_309__X12_page_309 (a b : Int) (h : R_X12_laysGutters_309 a b) : R_X12_page_309 a b := (h.elim (fun h => (Or.inr (Or.inl (⟨by omega, by omega⟩)))) (fun h => (Or.inr (Or.inr (⟨h.1, by omega⟩)))))
theorem rs_X12_pagesBy_309__X12_page_309 (a b : Int) (h : R_X12_pagesBy_309 a b) : R_X12_page_309 a b := (h.elim (fun h => (Or.inr (Or.inl (⟨by omega, by omega⟩)))) (fun h => (Or.inr (Or.inr (⟨h.1, by omega⟩)))))
theorem rs_X12_thickOf_309__X12_page_309 (a b : Int) (h : R_X12_thickOf_309 a b) : R_X12_page_309 a b := (h.elim (fun h => (Or.inr (Or.inl (⟨by omega, by omega⟩)))) (fun h => (Or.inr (Or.inr (⟨h.1, by omega⟩)))))
theorem nr_X12_thickOf_309__7653 (b : Int) : ¬ R_X12_thickOf_309 7653 b := by
  unfold R_X12_thickOf_309; omega
theorem sj_X12_page_309_J119 {fu : Nat} (hfu : 8589934592 ≤ fu) (r0 s : z_M) (c : z_CI s) (f : z_Fr R_X12_page_309 r0 s) (t0 : Int) (d0 : -2147483648 ≤ t0 ∧ t0 ≤ 2147483647) (p0 : y_TA s) (p1 : y_DD s) (p2 : y_B s) (p3 : y_K s) : z_T (fX12_page_J119 fu s t0) (P_X12_page_309 r0) := by
  refine T_of (fX12_page_J119.eq_1 ..) ?_
  have u1 := CI_b c (k := 309) (j := 20) bd_309_20
  have u2 := CI_b c (k := 309) (j := 36) bd_309_36
  have u3 := CI_b c (k := 309) (j := 43) bd_309_43
  have u4 := CI_b c (k := 309) (j := 44) bd_309_44
  have u5 := CI_b c (k := 309) (j := 58) bd_309_58
  have u6 := CI_b c (k := 316) (j := 0) bd_316_0
  have u7 := CI_b c (k := 329) (j := 0) bd_329_0
  have u8 := CI_b c (k := 329) (j := 1) bd_329_1
  have t9 : s 309 20 = r0 309 20 := f 309 20 (by decide)
  have t10 : s 316 0 = r0 316 0 := f 316 0 (by decide)
  have t11 : s 329 0 = r0 329 0 := f 329 0 (by decide)
  have t12 : s 329 1 = r0 329 1 := f 329 1 (by decide)
  exact T_ret ⟨c, f, p0, (by first | exact p1 | exact y_DD.z (by omega) (by omega)), p2, (by first | exact p3 | exact y_K.b0 (by omega) | exact y_K.k0 (by omega) | exact y_K.bk (by omega)), ⟨t0, rfl, by omega, by omega⟩⟩
set_option maxHeartbeats 4000000 in
theorem sj_X12_page_309_J32 {fu : Nat} (hfu : 8589934592 ≤ fu) (r0 s : z_M) (c : z_CI s) (f : z_Fr R_X12_page_309 r0 s) (a1 : Int) (a2 : Int) (a3 : Int) (t1 : Int) (b1 : -2147483648 ≤ a1 ∧ a1 ≤ 2147483647) (b2 : -2147483648 ≤ a2 ∧ a2 ≤ 2147483647) (b3 : -2147483648 ≤ a3 ∧ a3 ≤ 2147483647) (d1 : 0 ≤ t1 ∧ t1 ≤ 1) (p0 : y_TA s) (p1 : y_DD s) (p2 : y_B s) (p3 : y_K s) : z_T (fX12_page_J32 fu s 309 a1 a2 a3 309 t1) (P_X12_page_309 r0) := by
  refine T_of (fX12_page_J32.eq_1 ..) ?_
  have u1 := CI_b c (k := 309) (j := 20) bd_309_20
  have u2 := CI_b c (k := 309) (j := 36) bd_309_36
  have u3 := CI_b c (k := 309) (j := 43) bd_309_43
  have u4 := CI_b c (k := 309) (j := 44) bd_309_44
  have u5 := CI_b c (k := 309) (j := 58) bd_309_58
  have u6 := CI_b c (k := 316) (j := 0) bd_316_0
  have u7 := CI_b c (k := 329) (j := 0) bd_329_0
  have u8 := CI_b c (k := 329) (j := 1) bd_329_1
  have t9 : s 309 20 = r0 309 20 := f 309 20 (by decide)
  have t10 : s 316 0 = r0 316 0 := f 316 0 (by decide)
  have t11 : s 329 0 = r0 329 0 := f 329 0 (by decide)
  have t12 : s 329 1 = r0 329 1 := f 329 1 (by decide)
  refine T_if1 (by decide +kernel) ?_
  refine T_useI (sf_X12_bad_309 hfu s c t1 1 1 (by omega) (by omega) (by omega) (by omega)) (fun v18 s13 hq => ?_)
  obtain ⟨c14, f15, o19, ⟨x17, rfl, b20, b21, o22, o23⟩⟩ := hq
  refine T_vI ?_
  have f16 := z_Fr.tr (R := R_X12_page_309) f f15 rs_X12_bad_309__X12_page_309
  have t24 : s13 309 20 = s 309 20 := f15 309 20 (by decide)
  have t25 : s13 309 36 = s 309 36 := f15 309 36 (by decide)
  have t26 : s13 309 43 = s 309 43 := f15 309 43 (by decide)
  have t27 : s13 309 44 = s 309 44 := f15 309 44 (by decide)
  have t28 : s13 309 58 = s 309 58 := f15 309 58 (by decide)
  have t29 : s13 316 0 = s 316 0 := f15 316 0 (by decide)
  have t30 : s13 329 0 = s 329 0 := f15 329 0 (by decide)
  have t31 : s13 329 1 = s 329 1 := f15 329 1 (by decide)
  have r32 := y_TA.fr p0 (fun a b h => f15 a b (nq_X12_bad_309__316 a b h)) (fun a b h => f15 a b (nq_X12_bad_309__346 a b h)) (fun a b h => f15 a b (nq_X12_bad_309__361 a b h))
  have r33 := y_DD.fr p1 (f15 329 0 (by decide)) (f15 329 1 (by decide)) (fun b => f15 359 b (nr_X12_bad_309__359 b)) (fun b => f15 374 b (nr_X12_bad_309__374 b))
  have r34 := y_B.fr p2 (f15 309 20 (by decide)) (f15 316 0 (by decide)) (fun b => f15 3220 b (nr_X12_bad_309__3220 b)) (fun b => f15 3221 b (nr_X12_bad_309__3221 b)) (fun b => f15 3222 b (nr_X12_bad_309__3222 b)) (fun b => f15 361 b (nr_X12_bad_309__361 b))
  have r35 := y_K.fr p3 (by omega) (by omega) (f15 309 44 (by decide)) (f15 309 20 (by decide)) (f15 309 58 (by decide)) (fun b => f15 3438 b (nr_X12_bad_309__3438 b)) (fun b => f15 3220 b (nr_X12_bad_309__3220 b)) (fun a b h => f15 a b (nq_X12_bad_309__3452 a b h))
  refine T_ite (fun h36 => ?_) (fun h36 => ?_)
  · refine T_if1 (by decide +kernel) ?_
    refine T_useN (sf_X12_laysGutters_309 hfu s13 c14 r34 (by first | exact r35 | exact y_K.b0 (by omega) | exact y_K.k0 (by omega) | exact y_K.bk (by omega)) r32) (fun v42 s37 hq => ?_)
    obtain ⟨c38, f39, o43, o44, o45, rfl⟩ := hq
    refine T_vN ?_
    have f40 := z_Fr.tr (R := R_X12_page_309) f16 f39 rs_X12_laysGutters_309__X12_page_309
    have t48 : s37 309 20 = s 309 20 := (f39 309 20 (by decide)).trans t24
    have t49 : s37 316 0 = s 316 0 := (f39 316 0 (by decide)).trans t29
    have t50 : s37 329 0 = s 329 0 := (f39 329 0 (by decide)).trans t30
    have t51 : s37 329 1 = s 329 1 := (f39 329 1 (by decide)).trans t31
    have u52 := CI_b c38 (k := 309) (j := 36) bd_309_36
    have u53 := CI_b c38 (k := 309) (j := 43) bd_309_43
    have u54 := CI_b c38 (k := 309) (j := 44) bd_309_44
    have u55 := CI_b c38 (k := 309) (j := 58) bd_309_58
    have r56 := y_TA.fr r32 (fun a b h => f39 a b (nq_X12_laysGutters_309__316 a b h)) (fun a b h => f39 a b (nq_X12_laysGutters_309__346 a b h)) (fun a b h => f39 a b (nq_X12_laysGutters_309__361 a b h))
    have r57 := y_DD.fr r33 (f39 329 0 (by decide)) (f39 329 1 (by decide)) (fun b => f39 359 b (nr_X12_laysGutters_309__359 b)) (fun b => f39 374 b (nr_X12_laysGutters_309__374 b))
    have r58 := y_B.fr r34 (f39 309 20 (by decide)) (f39 316 0 (by decide)) (fun b => f39 3220 b (nr_X12_laysGutters_309__3220 b)) (fun b => f39 3221 b (nr_X12_laysGutters_309__3221 b)) (fun b => f39 3222 b (nr_X12_laysGutters_309__3222 b)) (fun b => f39 361 b (nr_X12_laysGutters_309__361 b))
    clear t24
    clear t29
    clear t30
    clear t31
    refine T_if1 (by decide +kernel) ?_
    refine T_useI (sf_X12_pagesBy_309 hfu s37 c38 a1 (by omega) r58 (by first | exact o45 | exact y_K.B o43 (by omega) (by omega)) (by first | exact y_L.cg o44 (by omega) | exact y_K.L o43 (by omega) (by omega)) r56) (fun v64 s59 hq => ?_)
    obtain ⟨c60, f61, ⟨x63, rfl, b65, b66, o67⟩⟩ := hq
    refine T_vI ?_
    have f62 := z_Fr.tr (R := R_X12_page_309) f40 f61 rs_X12_pagesBy_309__X12_page_309
    have t68 : s59 309 20 = s 309 20 := (f61 309 20 (by decide)).trans t48
    have t69 : s59 309 36 = s37 309 36 := f61 309 36 (by decide)
    have t70 : s59 309 43 = s37 309 43 := f61 309 43 (by decide)
    have t71 : s59 309 44 = s37 309 44 := f61 309 44 (by decide)
    have t72 : s59 309 58 = s37 309 58 := f61 309 58 (by decide)
    have t73 : s59 316 0 = s 316 0 := (f61 316 0 (by decide)).trans t49
    have t74 : s59 329 0 = s 329 0 := (f61 329 0 (by decide)).trans t50
    have t75 : s59 329 1 = s 329 1 := (f61 329 1 (by decide)).trans t51
    have r76 := y_TA.fr r56 (fun a b h => f61 a b (nq_X12_pagesBy_309__316 a b h)) (fun a b h => f61 a b (nq_X12_pagesBy_309__346 a b h)) (fun a b h => f61 a b (nq_X12_pagesBy_309__361 a b h))
    have r77 := y_DD.fr r57 (f61 329 0 (by decide)) (f61 329 1 (by decide)) (fun b => f61 359 b (nr_X12_pagesBy_309__359 b)) (fun b => f61 374 b (nr_X12_pagesBy_309__374 b))
    have r78 := y_B.fr r58 (f61 309 20 (by decide)) (f61 316 0 (by decide)) (fun b => f61 3220 b (nr_X12_pagesBy_309__3220 b)) (fun b => f61 3221 b (nr_X12_pagesBy_309__3221 b)) (fun b => f61 3222 b (nr_X12_pagesBy_309__3222 b)) (fun b => f61 361 b (nr_X12_pagesBy_309__361 b))
    have r79 := y_K.fr o43 (by omega) (by omega) (f61 309 44 (by decide)) (f61 309 20 (by decide)) (f61 309 58 (by decide)) (fun b => f61 3438 b (nr_X12_pagesBy_309__3438 b)) (fun b => f61 3220 b (nr_X12_pagesBy_309__3220 b)) (fun a b h => f61 a b (nq_X12_pagesBy_309__3452 a b h))
    have r80 := y_L.fr o44 (f61 309 20 (by decide)) (fun b => f61 3438 b (nr_X12_pagesBy_309__3438 b))
    have r81 := y_BK.fr o45 (by omega) (f61 309 20 (by decide)) (f61 309 58 (by decide)) (fun b => f61 3220 b (nr_X12_pagesBy_309__3220 b)) (fun a b h => f61 a b (nq_X12_pagesBy_309__3452 a b h))
    clear t48
    clear t49
    clear t50
    clear t51
    refine T_leq (fun x82 e83 => ?_)
    first | (have w84 := z_wx e83 (by omega)) | (have w84 := z_wr e83)
    refine T_useI (sf_X12_in hfu s59 c60 a2 0 x82 (by omega) (by omega) (by omega)) (fun v90 s85 hq => ?_)
    obtain ⟨c86, f87, ⟨x89, rfl, b91, b92, o93⟩⟩ := hq
    refine T_vI ?_
    have q94 := z_Fr.eq (fun a b h => h) f87
    subst q94
    refine T_ite (fun h95 => ?_) (fun h95 => ?_)
    · refine T_ite (fun h96 => ?_) (fun h96 => ?_)
      · refine T_ite (fun h97 => ?_) (fun h97 => ?_)
        · refine T_if1 (by decide +kernel) ?_
          refine T_let 7653 (by decide +kernel) ?_
          refine T_if1 (z_ixl (n := 201) (by decide +kernel) (by omega) (by omega)) ?_
          refine T_leq (fun x98 e99 => ?_)
          have u100 := CI_b c60 (k := 7653) (j := a2) (bdr_7653 a2)
          refine T_if1 (by decide +kernel) ?_
          refine T_let 7653 (by decide +kernel) ?_
          refine T_leq (fun x101 e102 => ?_)
          first | (have w103 := z_wx e102 (by omega)) | (have w103 := z_wr e102)
          have n104 := y_PF.at o67 (i := a2) (j := x101) (by omega) (by omega) (by omega)
          refine T_if1 (z_ixl (n := 201) (by decide +kernel) (by omega) (by omega)) ?_
          refine T_leq (fun x105 e106 => ?_)
          have u107 := CI_b c60 (k := 7653) (j := x101) (bdr_7653 x101)
          refine T_leq (fun x108 e109 => ?_)
          first | (have w110 := z_wx e109 (by omega)) | (have w110 := z_wr e109)
          refine T_if1 (by decide +kernel) ?_
          refine T_useI (sf_X12_thickOf_309 hfu s59 c60 x98 x108 (by omega) (by omega) r78 (by first | exact r81 | exact y_K.B r79 (by omega) (by omega)) (by first | exact y_L.cg r80 (by omega) | exact y_K.L r79 (by omega) (by omega)) r76 (by omega) (by omega)) (fun v116 s111 hq => ?_)
          obtain ⟨c112, f113, ⟨x115, rfl, b117, b118⟩⟩ := hq
          refine T_vI ?_
          have f114 := z_Fr.tr (R := R_X12_page_309) f62 f113 rs_X12_thickOf_309__X12_page_309
          have t119 : s111 309 20 = s 309 20 := (f113 309 20 (by decide)).trans t68
          have t120 : s111 309 36 = s37 309 36 := (f113 309 36 (by decide)).trans t69
          have t121 : s111 309 43 = s37 309 43 := (f113 309 43 (by decide)).trans t70
          have t122 : s111 309 44 = s37 309 44 := (f113 309 44 (by decide)).trans t71
          have t123 : s111 309 58 = s37 309 58 := (f113 309 58 (by decide)).trans t72
          have t124 : s111 316 0 = s 316 0 := (f113 316 0 (by decide)).trans t73
          have t125 : s111 329 0 = s 329 0 := (f113 329 0 (by decide)).trans t74
          have t126 : s111 329 1 = s 329 1 := (f113 329 1 (by decide)).trans t75
          have r127 := y_TA.fr r76 (fun a b h => f113 a b (nq_X12_thickOf_309__316 a b h)) (fun a b h => f113 a b (nq_X12_thickOf_309__346 a b h)) (fun a b h => f113 a b (nq_X12_thickOf_309__361 a b h))
          have r128 := y_DD.fr r77 (f113 329 0 (by decide)) (f113 329 1 (by decide)) (fun b => f113 359 b (nr_X12_thickOf_309__359 b)) (fun b => f113 374 b (nr_X12_thickOf_309__374 b))
          have r129 := y_B.fr r78 (f113 309 20 (by decide)) (f113 316 0 (by decide)) (fun b => f113 3220 b (nr_X12_thickOf_309__3220 b)) (fun b => f113 3221 b (nr_X12_thickOf_309__3221 b)) (fun b => f113 3222 b (nr_X12_thickOf_309__3222 b)) (fun b => f113 361 b (nr_X12_thickOf_309__361 b))
          have r130 := y_K.fr r79 (by omega) (by omega) (f113 309 44 (by decide)) (f113 309 20 (by decide)) (f113 309 58 (by decide)) (fun b => f113 3438 b (nr_X12_thickOf_309__3438 b)) (fun b => f113 3220 b (nr_X12_thickOf_309__3220 b)) (fun a b h => f113 a b (nq_X12_thickOf_309__3452 a b h))
          have r131 := y_L.fr r80 (f113 309 20 (by decide)) (fun b => f113 3438 b (nr_X12_thickOf_309__3438 b))
          have r132 := y_BK.fr r81 (by omega) (f113 309 20 (by decide)) (f113 309 58 (by decide)) (fun b => f113 3220 b (nr_X12_thickOf_309__3220 b)) (fun a b h => f113 a b (nq_X12_thickOf_309__3452 a b h))
          have r133 := y_PF.fr o67 (f113 309 44 (by decide)) (fun b => f113 7653 b (nr_X12_thickOf_309__7653 b))
          clear t68
          clear t69
          clear t70
          clear t71
          clear t72
          clear t73
          clear t74
          clear t75
          exact sj_X12_page_309_J119 hfu r0 s111 c112 f114 x115 (by omega) r127 (by first | exact r128 | exact y_DD.z (by omega) (by omega)) r129 (by first | exact r130 | exact y_K.b0 (by omega) | exact y_K.k0 (by omega) | exact y_K.bk (by omega) | exact y_K.mk r131 (by omega) r132)
        · refine T_if1 (by decide +kernel) ?_
          refine T_let 7653 (by decide +kernel) ?_
          refine T_leq (fun x134 e135 => ?_)
          first | (have w136 := z_wx e135 (by omega)) | (have w136 := z_wr e135)
          refine T_if1 (z_ixl (n := 201) (by decide +kernel) (by omega) (by omega)) ?_
          refine T_leq (fun x137 e138 => ?_)
          have u139 := CI_b c60 (k := 7653) (j := x134) (bdr_7653 x134)
          refine T_if1 (by decide +kernel) ?_
          refine T_let 7653 (by decide +kernel) ?_
          refine T_if1 (z_ixl (n := 201) (by decide +kernel) (by omega) (by omega)) ?_
          refine T_leq (fun x140 e141 => ?_)
          have u142 := CI_b c60 (k := 7653) (j := a2) (bdr_7653 a2)
          refine T_leq (fun x143 e144 => ?_)
          first | (have w145 := z_wx e144 (by omega)) | (have w145 := z_wr e144)
          exact sj_X12_page_309_J119 hfu r0 s59 c60 f62 x143 (by omega) r76 (by first | exact r77 | exact y_DD.z (by omega) (by omega)) r78 (by first | exact r79 | exact y_K.b0 (by omega) | exact y_K.k0 (by omega) | exact y_K.bk (by omega) | exact y_K.mk r80 (by omega) r81)
      · refine T_if1 (by decide +kernel) ?_
        refine T_let 7653 (by decide +kernel) ?_
        refine T_if1 (z_ixl (n := 201) (by decide +kernel) (by omega) (by omega)) ?_
        refine T_leq (fun x146 e147 => ?_)
        have u148 := CI_b c60 (k := 7653) (j := a2) (bdr_7653 a2)
        exact sj_X12_page_309_J119 hfu r0 s59 c60 f62 x146 (by omega) r76 (by first | exact r77 | exact y_DD.z (by omega) (by omega)) r78 (by first | exact r79 | exact y_K.b0 (by omega) | exact y_K.k0 (by omega) | exact y_K.bk (by omega) | exact y_K.mk r80 (by omega) r81)
    · exact T_ret ⟨c60, f62, r76, (by first | exact r77 | exact y_DD.z (by omega) (by omega)), r78, (by first | exact r79 | exact y_K.b0 (by omega) | exact y_K.k0 (by omega) | exact y_K.bk (by omega) | exact y_K.mk r80 (by omega) r81), ⟨(-1), rfl, by omega, by omega⟩⟩
  · exact T_ret ⟨c14, f16, r32, (by first | exact r33 | exact y_DD.z (by omega) (by omega)), r34, (by first | exact r35 | exact y_K.b0 (by omega) | exact y_K.k0 (by omega) | exact y_K.bk (by omega)), ⟨0, rfl, by omega, by omega⟩⟩
theorem sj_X12_page_309_J27 {fu : Nat} (hfu : 8589934592 ≤ fu) (r0 s : z_M) (c : z_CI s) (f : z_Fr R_X12_page_309 r0 s) (a1 : Int) (a2 : Int) (a3 : Int) (b1 : -2147483648 ≤ a1 ∧ a1 ≤ 2147483647) (b2 : -2147483648 ≤ a2 ∧ a2 ≤ 2147483647) (b3 : -2147483648 ≤ a3 ∧ a3 ≤ 2147483647) (p0 : y_TA s) (p1 : y_DD s) (p2 : y_B s) (p3 : y_K s) : z_T (fX12_page_J27 fu s 309 a1 a2 a3 309) (P_X12_page_309 r0) := by
  refine T_of (fX12_page_J27.eq_1 ..) ?_
  have u1 := CI_b c (k := 309) (j := 20) bd_309_20
  have u2 := CI_b c (k := 309) (j := 36) bd_309_36
  have u3 := CI_b c (k := 309) (j := 43) bd_309_43
  have u4 := CI_b c (k := 309) (j := 44) bd_309_44
  have u5 := CI_b c (k := 309) (j := 58) bd_309_58
  have u6 := CI_b c (k := 316) (j := 0) bd_316_0
  have u7 := CI_b c (k := 329) (j := 0) bd_329_0
  have u8 := CI_b c (k := 329) (j := 1) bd_329_1
  have t9 : s 309 20 = r0 309 20 := f 309 20 (by decide)
  have t10 : s 316 0 = r0 316 0 := f 316 0 (by decide)
  have t11 : s 329 0 = r0 329 0 := f 329 0 (by decide)
  have t12 : s 329 1 = r0 329 1 := f 329 1 (by decide)
  exact sj_X12_page_309_J32 hfu r0 s c f a1 a2 a3 1 (by omega) (by omega) (by omega) (by omega) p0 (by first | exact p1 | exact y_DD.z (by omega) (by omega)) p2 (by first | exact p3 | exact y_K.b0 (by omega) | exact y_K.k0 (by omega) | exact y_K.bk (by omega))
theorem sf_X12_page_309 {fu : Nat} (hfu : 8589934592 ≤ fu) (r0 : z_M) (c0 : z_CI r0) (a1 : Int) (a2 : Int) (a3 : Int) (b1 : -2147483648 ≤ a1 ∧ a1 ≤ 2147483647) (b2 : -2147483648 ≤ a2 ∧ a2 ≤ 2147483647) (b3 : -2147483648 ≤ a3 ∧ a3 ≤ 2147483647) (p0 : y_TA r0) (p1 : y_DD r0) (p2 : y_B r0) (p3 : y_K r0) : z_T (fX12_page fu r0 309 a1 a2 a3) (P_X12_page_309 r0) := by
  refine T_of (fX12_page.eq_1 ..) ?_
  have u1 := CI_b c0 (k := 309) (j := 20) bd_309_20
  have u2 := CI_b c0 (k := 309) (j := 36) bd_309_36
  have u3 := CI_b c0 (k := 309) (j := 43) bd_309_43
  have u4 := CI_b c0 (k := 309) (j := 44) bd_309_44
  have u5 := CI_b c0 (k := 309) (j := 58) bd_309_58
  have u6 := CI_b c0 (k := 316) (j := 0) bd_316_0
  have u7 := CI_b c0 (k := 329) (j := 0) bd_329_0
  have u8 := CI_b c0 (k := 329) (j := 1) bd_329_1
  refine T_if1 (by decide +kernel) ?_
  refine T_upg c0 bd_309_0 (by omega) (fun s9 c10 g12 g13 e14 => ?_)
  have f11 := z_Fr.upf (R := R_X12_page_309) z_Fr.rf g12 g13 (Or.inr (Or.inr (⟨rfl, by decide⟩)))
  have t15 : s9 309 20 = r0 309 20 := g13 20 (by decide)
  have t16 : s9 309 36 = r0 309 36 := g13 36 (by decide)
  have t17 : s9 309 43 = r0 309 43 := g13 43 (by decide)
  have t18 : s9 309 44 = r0 309 44 := g13 44 (by decide)
  have t19 : s9 309 58 = r0 309 58 := g13 58 (by decide)
  have t20 : s9 316 0 = r0 316 0 := g12 316 0 (by decide)
  have t21 : s9 329 0 = r0 329 0 := g12 329 0 (by decide)
  have t22 : s9 329 1 = r0 329 1 := g12 329 1 (by decide)
  have r23 := y_TA.fr p0 (fun a b h => g12 a b (by omega)) (fun a b h => g12 a b (by omega)) (fun a b h => g12 a b (by omega))
  have r24 := y_DD.fr p1 (g12 329 0 (by decide)) (g12 329 1 (by decide)) (fun b => g12 359 b (by decide)) (fun b => g12 374 b (by decide))
  have r25 := y_B.fr p2 (g13 20 (by decide)) (g12 316 0 (by decide)) (fun b => g12 3220 b (by decide)) (fun b => g12 3221 b (by decide)) (fun b => g12 3222 b (by decide)) (fun b => g12 361 b (by decide))
  have r26 := y_K.fr p3 (by omega) (by omega) (g13 44 (by decide)) (g13 20 (by decide)) (g13 58 (by decide)) (fun b => g12 3438 b (by decide)) (fun b => g12 3220 b (by decide)) (fun a b h => g12 a b (by omega))
  refine T_useI (sf_X12_in hfu s9 c10 a1 12 9999 (by omega) (by omega) (by omega)) (fun v32 s27 hq => ?_)
  obtain ⟨c28, f29, ⟨x31, rfl, b33, b34, o35⟩⟩ := hq
  refine T_vI ?_
  have q36 := z_Fr.eq (fun a b h => h) f29
  subst q36
  refine T_ite (fun h37 => ?_) (fun h37 => ?_)
  · exact sj_X12_page_309_J27 hfu r0 s9 c10 f11 a1 a2 a3 (by omega) (by omega) (by omega) r23 (by first | exact r24 | exact y_DD.z (by omega) (by omega)) r25 (by first | exact r26 | exact y_K.b0 (by omega) | exact y_K.k0 (by omega) | exact y_K.bk (by omega))
  · refine T_useI (sf_X12_in hfu s9 c10 a3 0 2 (by omega) (by omega) (by omega)) (fun v43 s38 hq => ?_)
    obtain ⟨c39, f40, ⟨x42, rfl, b44, b45, o46⟩⟩ := hq
    refine T_vI ?_
    have q47 := z_Fr.eq (fun a b h => h) f40
    subst q47
    refine T_ite (fun h48 => ?_) (fun h48 => ?_)
    · exact sj_X12_page_309_J32 hfu r0 s9 c10 f11 a1 a2 a3 0 (by omega) (by omega) (by omega) (by omega) r23 (by first | exact r24 | exact y_DD.z (by omega) (by omega)) r25 (by first | exact r26 | exact y_K.b0 (by omega) | exact y_K.k0 (by omega) | exact y_K.bk (by omega))
    · exact sj_X12_page_309_J27 hfu r0 s9 c10 f11 a1 a2 a3 (by omega) (by omega) (by omega) r23 (by first | exact r24 | exact y_DD.z (by omega) (by omega)) r25 (by first | exact r26 | exact y_K.b0 (by omega) | exact y_K.k0 (by omega) | exact y_K.bk (by omega))
abbrev R_X12_narrow_309 (a b : Int) : Prop := (310 ≤ a ∧ a ≤ 310) ∨ (3224 ≤ a ∧ a ≤ 7655) ∨ (a = 309 ∧ (b = 0 ∨ b = 35 ∨ b = 36 ∨ b = 38 ∨ b = 39 ∨ b = 43 ∨ b = 44 ∨ b = 58 ∨ b = 60))
abbrev P_X12_narrow_309 (r0 : z_M) : z_V → z_M → Prop := fun v s' => z_CI s' ∧ z_Fr R_X12_narrow_309 r0 s' ∧ (y_TA s') ∧ (y_DD s') ∧ (y_B s') ∧ (y_K s') ∧ (∃ x, v = vI x ∧ -2147483648 ≤ x ∧ x ≤ 2147483647)
theorem rs_X12_bad_309__X12_narrow_309 (a b : Int) (h : R_X12_bad_309 a b) : R_X12_narrow_309 a b := (h.elim (fun h => (Or.inl (⟨by omega, by omega⟩))) (fun h => (Or.inr (Or.inr (⟨h.1, by omega⟩)))))
theorem rs_X12_laysGutters_309__X12_narrow_309 (a b : Int) (h : R_X12_laysGutters_309 a b) : R_X12_narrow_309 a b := (h.elim (fun h => (Or.inr (Or.inl (⟨by omega, by omega⟩)))) (fun h => (Or.inr (Or.inr (⟨h.1, by omega⟩)))))
theorem rs_X12_pagesBy_309__X12_narrow_309 (a b : Int) (h : R_X12_pagesBy_309 a b) : R_X12_narrow_309 a b := (h.elim (fun h => (Or.inr (Or.inl (⟨by omega, by omega⟩)))) (fun h => (Or.inr (Or.inr (⟨h.1, by omega⟩)))))
theorem sl_X12_narrow_309_L39 {fu : Nat} (hfu : 8589934592 ≤ fu) (r0 : z_M) (a1 : Int) (b1 : -2147483648 ≤ a1 ∧ a1 ≤ 2147483647) {k : z_M → z_O} (hk : ∀ (s' : z_M), z_CI s' → z_Fr R_X12_narrow_309 r0 s' → (y_TA s') → (y_DD s') → (y_B s') → (y_K s') → z_T (k s') (P_X12_narrow_309 r0)) : ∀ (F : Nat) (s : z_M) (a2 : Int), z_CI s → z_Fr R_X12_narrow_309 r0 s → (12 ≤ a2 ∧ a2 ≤ 10000) → (y_L s (s 309 44)) → (y_BK s) → (y_TA s) → (y_DD s) → (y_B s) → (y_K s) → (2147483647 - a2 < (F : Int)) → z_T (fX12_narrow_L39 fu 309 a1 F s a2 k) (P_X12_narrow_309 r0) := by
  intro F
  induction F with
  | zero =>
    intro s a2 c f b2 i0 i1 i2 i3 i4 i5 hm
    have u41 := CI_b c (k := 309) (j := 20) bd_309_20
    have u42 := CI_b c (k := 309) (j := 36) bd_309_36
    have u43 := CI_b c (k := 309) (j := 43) bd_309_43
    have u44 := CI_b c (k := 309) (j := 44) bd_309_44
    have u45 := CI_b c (k := 309) (j := 58) bd_309_58
    have u46 := CI_b c (k := 316) (j := 0) bd_316_0
    have u47 := CI_b c (k := 329) (j := 0) bd_329_0
    have u48 := CI_b c (k := 329) (j := 1) bd_329_1
    exfalso; omega
  | succ F ih =>
    intro s a2 c f b2 i0 i1 i2 i3 i4 i5 hm
    refine T_of (fX12_narrow_L39.eq_2 ..) ?_
    have u1 := CI_b c (k := 309) (j := 20) bd_309_20
    have u2 := CI_b c (k := 309) (j := 36) bd_309_36
    have u3 := CI_b c (k := 309) (j := 43) bd_309_43
    have u4 := CI_b c (k := 309) (j := 44) bd_309_44
    have u5 := CI_b c (k := 309) (j := 58) bd_309_58
    have u6 := CI_b c (k := 316) (j := 0) bd_316_0
    have u7 := CI_b c (k := 329) (j := 0) bd_329_0
    have u8 := CI_b c (k := 329) (j := 1) bd_329_1
    have t9 : s 309 20 = r0 309 20 := f 309 20 (by decide)
    have t10 : s 316 0 = r0 316 0 := f 316 0 (by decide)
    have t11 : s 329 0 = r0 329 0 := f 329 0 (by decide)
    have t12 : s 329 1 = r0 329 1 := f 329 1 (by decide)
    refine T_ite (fun h13 => ?_) (fun h13 => ?_)
    · exact hk s c f i2 (by first | exact i3 | exact y_DD.z (by omega) (by omega)) i4 (by first | exact i5 | exact y_K.b0 (by omega) | exact y_K.k0 (by omega) | exact y_K.bk (by omega) | exact y_K.mk i0 (by omega) i1)
    · refine T_if1 (by decide +kernel) ?_
      refine T_useI (sf_X12_pagesBy_309 hfu s c a2 (by omega) i4 (by first | exact i1 | exact y_K.B i5 (by omega) (by omega)) (by first | exact y_L.cg i0 (by omega) | exact y_K.L i5 (by omega) (by omega)) i2) (fun v19 s14 hq => ?_)
      obtain ⟨c15, f16, ⟨x18, rfl, b20, b21, o22⟩⟩ := hq
      refine T_vI ?_
      have f17 := z_Fr.tr (R := R_X12_narrow_309) f f16 rs_X12_pagesBy_309__X12_narrow_309
      have t23 : s14 309 20 = s 309 20 := f16 309 20 (by decide)
      have t24 : s14 309 36 = s 309 36 := f16 309 36 (by decide)
      have t25 : s14 309 43 = s 309 43 := f16 309 43 (by decide)
      have t26 : s14 309 44 = s 309 44 := f16 309 44 (by decide)
      have t27 : s14 309 58 = s 309 58 := f16 309 58 (by decide)
      have t28 : s14 316 0 = s 316 0 := f16 316 0 (by decide)
      have t29 : s14 329 0 = s 329 0 := f16 329 0 (by decide)
      have t30 : s14 329 1 = s 329 1 := f16 329 1 (by decide)
      have r31 := y_L.fr i0 (f16 309 20 (by decide)) (fun b => f16 3438 b (nr_X12_pagesBy_309__3438 b))
      have r32 := y_BK.fr i1 (by omega) (f16 309 20 (by decide)) (f16 309 58 (by decide)) (fun b => f16 3220 b (nr_X12_pagesBy_309__3220 b)) (fun a b h => f16 a b (nq_X12_pagesBy_309__3452 a b h))
      have r33 := y_TA.fr i2 (fun a b h => f16 a b (nq_X12_pagesBy_309__316 a b h)) (fun a b h => f16 a b (nq_X12_pagesBy_309__346 a b h)) (fun a b h => f16 a b (nq_X12_pagesBy_309__361 a b h))
      have r34 := y_DD.fr i3 (f16 329 0 (by decide)) (f16 329 1 (by decide)) (fun b => f16 359 b (nr_X12_pagesBy_309__359 b)) (fun b => f16 374 b (nr_X12_pagesBy_309__374 b))
      have r35 := y_B.fr i4 (f16 309 20 (by decide)) (f16 316 0 (by decide)) (fun b => f16 3220 b (nr_X12_pagesBy_309__3220 b)) (fun b => f16 3221 b (nr_X12_pagesBy_309__3221 b)) (fun b => f16 3222 b (nr_X12_pagesBy_309__3222 b)) (fun b => f16 361 b (nr_X12_pagesBy_309__361 b))
      have r36 := y_K.fr i5 (by omega) (by omega) (f16 309 44 (by decide)) (f16 309 20 (by decide)) (f16 309 58 (by decide)) (fun b => f16 3438 b (nr_X12_pagesBy_309__3438 b)) (fun b => f16 3220 b (nr_X12_pagesBy_309__3220 b)) (fun a b h => f16 a b (nq_X12_pagesBy_309__3452 a b h))
      refine T_ite (fun h37 => ?_) (fun h37 => ?_)
      · refine T_leq (fun x38 e39 => ?_)
        first | (have w40 := z_wx e39 (by omega)) | (have w40 := z_wr e39)
        exact ih s14 x38 c15 f17 (by omega) (by first | exact y_L.cg r31 (by omega) | exact y_K.L r36 (by omega) (by omega)) (by first | exact r32 | exact y_K.B r36 (by omega) (by omega)) r33 (by first | exact r34 | exact y_DD.z (by omega) (by omega)) r35 (by first | exact r36 | exact y_K.b0 (by omega) | exact y_K.k0 (by omega) | exact y_K.bk (by omega) | exact y_K.mk r31 (by omega) r32) (by omega)
      · exact T_ret ⟨c15, f17, r33, (by first | exact r34 | exact y_DD.z (by omega) (by omega)), r35, (by first | exact r36 | exact y_K.b0 (by omega) | exact y_K.k0 (by omega) | exact y_K.bk (by omega) | exact y_K.mk r31 (by omega) r32), ⟨a2, rfl, by omega, by omega⟩⟩
theorem sj_X12_narrow_309_J22 {fu : Nat} (hfu : 8589934592 ≤ fu) (r0 s : z_M) (c : z_CI s) (f : z_Fr R_X12_narrow_309 r0 s) (a1 : Int) (t1 : Int) (b1 : -2147483648 ≤ a1 ∧ a1 ≤ 2147483647) (d1 : 0 ≤ t1 ∧ t1 ≤ 1) (p0 : y_TA s) (p1 : y_DD s) (p2 : y_B s) (p3 : y_K s) : z_T (fX12_narrow_J22 fu s 309 a1 309 t1) (P_X12_narrow_309 r0) := by
  refine T_of (fX12_narrow_J22.eq_1 ..) ?_
  have u1 := CI_b c (k := 309) (j := 20) bd_309_20
  have u2 := CI_b c (k := 309) (j := 36) bd_309_36
  have u3 := CI_b c (k := 309) (j := 43) bd_309_43
  have u4 := CI_b c (k := 309) (j := 44) bd_309_44
  have u5 := CI_b c (k := 309) (j := 58) bd_309_58
  have u6 := CI_b c (k := 316) (j := 0) bd_316_0
  have u7 := CI_b c (k := 329) (j := 0) bd_329_0
  have u8 := CI_b c (k := 329) (j := 1) bd_329_1
  have t9 : s 309 20 = r0 309 20 := f 309 20 (by decide)
  have t10 : s 316 0 = r0 316 0 := f 316 0 (by decide)
  have t11 : s 329 0 = r0 329 0 := f 329 0 (by decide)
  have t12 : s 329 1 = r0 329 1 := f 329 1 (by decide)
  refine T_if1 (by decide +kernel) ?_
  refine T_useI (sf_X12_bad_309 hfu s c t1 1 1 (by omega) (by omega) (by omega) (by omega)) (fun v18 s13 hq => ?_)
  obtain ⟨c14, f15, o19, ⟨x17, rfl, b20, b21, o22, o23⟩⟩ := hq
  refine T_vI ?_
  have f16 := z_Fr.tr (R := R_X12_narrow_309) f f15 rs_X12_bad_309__X12_narrow_309
  have t24 : s13 309 20 = s 309 20 := f15 309 20 (by decide)
  have t25 : s13 309 36 = s 309 36 := f15 309 36 (by decide)
  have t26 : s13 309 43 = s 309 43 := f15 309 43 (by decide)
  have t27 : s13 309 44 = s 309 44 := f15 309 44 (by decide)
  have t28 : s13 309 58 = s 309 58 := f15 309 58 (by decide)
  have t29 : s13 316 0 = s 316 0 := f15 316 0 (by decide)
  have t30 : s13 329 0 = s 329 0 := f15 329 0 (by decide)
  have t31 : s13 329 1 = s 329 1 := f15 329 1 (by decide)
  have r32 := y_TA.fr p0 (fun a b h => f15 a b (nq_X12_bad_309__316 a b h)) (fun a b h => f15 a b (nq_X12_bad_309__346 a b h)) (fun a b h => f15 a b (nq_X12_bad_309__361 a b h))
  have r33 := y_DD.fr p1 (f15 329 0 (by decide)) (f15 329 1 (by decide)) (fun b => f15 359 b (nr_X12_bad_309__359 b)) (fun b => f15 374 b (nr_X12_bad_309__374 b))
  have r34 := y_B.fr p2 (f15 309 20 (by decide)) (f15 316 0 (by decide)) (fun b => f15 3220 b (nr_X12_bad_309__3220 b)) (fun b => f15 3221 b (nr_X12_bad_309__3221 b)) (fun b => f15 3222 b (nr_X12_bad_309__3222 b)) (fun b => f15 361 b (nr_X12_bad_309__361 b))
  have r35 := y_K.fr p3 (by omega) (by omega) (f15 309 44 (by decide)) (f15 309 20 (by decide)) (f15 309 58 (by decide)) (fun b => f15 3438 b (nr_X12_bad_309__3438 b)) (fun b => f15 3220 b (nr_X12_bad_309__3220 b)) (fun a b h => f15 a b (nq_X12_bad_309__3452 a b h))
  refine T_ite (fun h36 => ?_) (fun h36 => ?_)
  · refine T_if1 (by decide +kernel) ?_
    refine T_useN (sf_X12_laysGutters_309 hfu s13 c14 r34 (by first | exact r35 | exact y_K.b0 (by omega) | exact y_K.k0 (by omega) | exact y_K.bk (by omega)) r32) (fun v42 s37 hq => ?_)
    obtain ⟨c38, f39, o43, o44, o45, rfl⟩ := hq
    refine T_vN ?_
    have f40 := z_Fr.tr (R := R_X12_narrow_309) f16 f39 rs_X12_laysGutters_309__X12_narrow_309
    have t48 : s37 309 20 = s 309 20 := (f39 309 20 (by decide)).trans t24
    have t49 : s37 316 0 = s 316 0 := (f39 316 0 (by decide)).trans t29
    have t50 : s37 329 0 = s 329 0 := (f39 329 0 (by decide)).trans t30
    have t51 : s37 329 1 = s 329 1 := (f39 329 1 (by decide)).trans t31
    have u52 := CI_b c38 (k := 309) (j := 36) bd_309_36
    have u53 := CI_b c38 (k := 309) (j := 43) bd_309_43
    have u54 := CI_b c38 (k := 309) (j := 44) bd_309_44
    have u55 := CI_b c38 (k := 309) (j := 58) bd_309_58
    have r56 := y_TA.fr r32 (fun a b h => f39 a b (nq_X12_laysGutters_309__316 a b h)) (fun a b h => f39 a b (nq_X12_laysGutters_309__346 a b h)) (fun a b h => f39 a b (nq_X12_laysGutters_309__361 a b h))
    have r57 := y_DD.fr r33 (f39 329 0 (by decide)) (f39 329 1 (by decide)) (fun b => f39 359 b (nr_X12_laysGutters_309__359 b)) (fun b => f39 374 b (nr_X12_laysGutters_309__374 b))
    have r58 := y_B.fr r34 (f39 309 20 (by decide)) (f39 316 0 (by decide)) (fun b => f39 3220 b (nr_X12_laysGutters_309__3220 b)) (fun b => f39 3221 b (nr_X12_laysGutters_309__3221 b)) (fun b => f39 3222 b (nr_X12_laysGutters_309__3222 b)) (fun b => f39 361 b (nr_X12_laysGutters_309__361 b))
    clear t24
    clear t29
    clear t30
    clear t31
    refine sl_X12_narrow_309_L39 hfu r0 a1 (by omega) (fun s59 c60 f61 g62 g63 g64 g65 => ?_) fu s37 12 c38 f40 (by omega) (by first | exact y_L.cg o44 (by omega) | exact y_K.L o43 (by omega) (by omega)) (by first | exact o45 | exact y_K.B o43 (by omega) (by omega)) r56 (by first | exact r57 | exact y_DD.z (by omega) (by omega)) r58 (by first | exact o43 | exact y_K.b0 (by omega) | exact y_K.k0 (by omega) | exact y_K.bk (by omega) | exact y_K.mk o44 (by omega) o45) (by omega)
    have u66 := CI_b c60 (k := 309) (j := 20) bd_309_20
    have u67 := CI_b c60 (k := 309) (j := 36) bd_309_36
    have u68 := CI_b c60 (k := 309) (j := 43) bd_309_43
    have u69 := CI_b c60 (k := 309) (j := 44) bd_309_44
    have u70 := CI_b c60 (k := 309) (j := 58) bd_309_58
    have u71 := CI_b c60 (k := 316) (j := 0) bd_316_0
    have u72 := CI_b c60 (k := 329) (j := 0) bd_329_0
    have u73 := CI_b c60 (k := 329) (j := 1) bd_329_1
    have t74 : s59 309 20 = r0 309 20 := f61 309 20 (by decide)
    have t75 : s59 316 0 = r0 316 0 := f61 316 0 (by decide)
    have t76 : s59 329 0 = r0 329 0 := f61 329 0 (by decide)
    have t77 : s59 329 1 = r0 329 1 := f61 329 1 (by decide)
    exact T_ret ⟨c60, f61, g62, (by first | exact g63 | exact y_DD.z (by omega) (by omega)), g64, (by first | exact g65 | exact y_K.b0 (by omega) | exact y_K.k0 (by omega) | exact y_K.bk (by omega)), ⟨(-1), rfl, by omega, by omega⟩⟩
  · exact T_ret ⟨c14, f16, r32, (by first | exact r33 | exact y_DD.z (by omega) (by omega)), r34, (by first | exact r35 | exact y_K.b0 (by omega) | exact y_K.k0 (by omega) | exact y_K.bk (by omega)), ⟨0, rfl, by omega, by omega⟩⟩
theorem sf_X12_narrow_309 {fu : Nat} (hfu : 8589934592 ≤ fu) (r0 : z_M) (c0 : z_CI r0) (a1 : Int) (b1 : -2147483648 ≤ a1 ∧ a1 ≤ 2147483647) (p0 : y_TA r0) (p1 : y_DD r0) (p2 : y_B r0) (p3 : y_K r0) : z_T (fX12_narrow fu r0 309 a1) (P_X12_narrow_309 r0) := by
  refine T_of (fX12_narrow.eq_1 ..) ?_
  have u1 := CI_b c0 (k := 309) (j := 20) bd_309_20
  have u2 := CI_b c0 (k := 309) (j := 36) bd_309_36
  have u3 := CI_b c0 (k := 309) (j := 43) bd_309_43
  have u4 := CI_b c0 (k := 309) (j := 44) bd_309_44
  have u5 := CI_b c0 (k := 309) (j := 58) bd_309_58
  have u6 := CI_b c0 (k := 316) (j := 0) bd_316_0
  have u7 := CI_b c0 (k := 329) (j := 0) bd_329_0
  have u8 := CI_b c0 (k := 329) (j := 1) bd_329_1
  refine T_if1 (by decide +kernel) ?_
  refine T_upg c0 bd_309_0 (by omega) (fun s9 c10 g12 g13 e14 => ?_)
  have f11 := z_Fr.upf (R := R_X12_narrow_309) z_Fr.rf g12 g13 (Or.inr (Or.inr (⟨rfl, by decide⟩)))
  have t15 : s9 309 20 = r0 309 20 := g13 20 (by decide)
  have t16 : s9 309 36 = r0 309 36 := g13 36 (by decide)
  have t17 : s9 309 43 = r0 309 43 := g13 43 (by decide)
  have t18 : s9 309 44 = r0 309 44 := g13 44 (by decide)
  have t19 : s9 309 58 = r0 309 58 := g13 58 (by decide)
  have t20 : s9 316 0 = r0 316 0 := g12 316 0 (by decide)
  have t21 : s9 329 0 = r0 329 0 := g12 329 0 (by decide)
  have t22 : s9 329 1 = r0 329 1 := g12 329 1 (by decide)
  have r23 := y_TA.fr p0 (fun a b h => g12 a b (by omega)) (fun a b h => g12 a b (by omega)) (fun a b h => g12 a b (by omega))
  have r24 := y_DD.fr p1 (g12 329 0 (by decide)) (g12 329 1 (by decide)) (fun b => g12 359 b (by decide)) (fun b => g12 374 b (by decide))
  have r25 := y_B.fr p2 (g13 20 (by decide)) (g12 316 0 (by decide)) (fun b => g12 3220 b (by decide)) (fun b => g12 3221 b (by decide)) (fun b => g12 3222 b (by decide)) (fun b => g12 361 b (by decide))
  have r26 := y_K.fr p3 (by omega) (by omega) (g13 44 (by decide)) (g13 20 (by decide)) (g13 58 (by decide)) (fun b => g12 3438 b (by decide)) (fun b => g12 3220 b (by decide)) (fun a b h => g12 a b (by omega))
  refine T_useI (sf_X12_in hfu s9 c10 a1 1 200 (by omega) (by omega) (by omega)) (fun v32 s27 hq => ?_)
  obtain ⟨c28, f29, ⟨x31, rfl, b33, b34, o35⟩⟩ := hq
  refine T_vI ?_
  have q36 := z_Fr.eq (fun a b h => h) f29
  subst q36
  refine T_ite (fun h37 => ?_) (fun h37 => ?_)
  · exact sj_X12_narrow_309_J22 hfu r0 s9 c10 f11 a1 0 (by omega) (by omega) r23 (by first | exact r24 | exact y_DD.z (by omega) (by omega)) r25 (by first | exact r26 | exact y_K.b0 (by omega) | exact y_K.k0 (by omega) | exact y_K.bk (by omega))
  · exact sj_X12_narrow_309_J22 hfu r0 s9 c10 f11 a1 1 (by omega) (by omega) r23 (by first | exact r24 | exact y_DD.z (by omega) (by omega)) r25 (by first | exact r26 | exact y_K.b0 (by omega) | exact y_K.k0 (by omega) | exact y_K.bk (by omega))
abbrev R_X12_ends_309 (a b : Int) : Prop := (310 ≤ a ∧ a ≤ 310) ∨ (3235 ≤ a ∧ a ≤ 3437) ∨ (a = 309 ∧ (b = 0 ∨ b = 36 ∨ b = 38 ∨ b = 39 ∨ b = 43))
abbrev P_X12_ends_309 (r0 : z_M) : z_V → z_M → Prop := fun v s' => z_CI s' ∧ z_Fr R_X12_ends_309 r0 s' ∧ (y_TA s') ∧ (y_DD s') ∧ (y_B s') ∧ (y_K s') ∧ (∃ x, v = vI x ∧ 0 ≤ x ∧ x ≤ 1)
theorem rs_X12_bad_309__X12_ends_309 (a b : Int) (h : R_X12_bad_309 a b) : R_X12_ends_309 a b := (h.elim (fun h => (Or.inl (⟨by omega, by omega⟩))) (fun h => (Or.inr (Or.inr (⟨h.1, by omega⟩)))))
theorem rs_X12_mayEnd_309__X12_ends_309 (a b : Int) (h : R_X12_mayEnd_309 a b) : R_X12_ends_309 a b := (h.elim (fun h => (Or.inr (Or.inl (⟨by omega, by omega⟩)))) (fun h => (Or.inr (Or.inr (⟨h.1, by omega⟩)))))
theorem nq_X12_mayEnd_309__316 (a b : Int) (h : 316 ≤ a ∧ a ≤ 328) : ¬ R_X12_mayEnd_309 a b := by
  unfold R_X12_mayEnd_309; omega
theorem nq_X12_mayEnd_309__346 (a b : Int) (h : 346 ≤ a ∧ a ≤ 358) : ¬ R_X12_mayEnd_309 a b := by
  unfold R_X12_mayEnd_309; omega
theorem nq_X12_mayEnd_309__361 (a b : Int) (h : 361 ≤ a ∧ a ≤ 373) : ¬ R_X12_mayEnd_309 a b := by
  unfold R_X12_mayEnd_309; omega
theorem nr_X12_mayEnd_309__359 (b : Int) : ¬ R_X12_mayEnd_309 359 b := by
  unfold R_X12_mayEnd_309; omega
theorem nr_X12_mayEnd_309__374 (b : Int) : ¬ R_X12_mayEnd_309 374 b := by
  unfold R_X12_mayEnd_309; omega
theorem nr_X12_mayEnd_309__3438 (b : Int) : ¬ R_X12_mayEnd_309 3438 b := by
  unfold R_X12_mayEnd_309; omega
theorem nq_X12_mayEnd_309__3452 (a b : Int) (h : 3452 ≤ a ∧ a ≤ 3651) : ¬ R_X12_mayEnd_309 a b := by
  unfold R_X12_mayEnd_309; omega
theorem sj_X12_ends_309_J19 {fu : Nat} (hfu : 8589934592 ≤ fu) (r0 s : z_M) (c : z_CI s) (f : z_Fr R_X12_ends_309 r0 s) (a1 : Int) (t1 : Int) (b1 : -2147483648 ≤ a1 ∧ a1 ≤ 2147483647) (d1 : 0 ≤ t1 ∧ t1 ≤ 1) (p0 : t1 = 1 ∨ (0 ≤ a1 ∧ a1 < s 309 20)) (p1 : y_TA s) (p2 : y_DD s) (p3 : y_B s) (p4 : y_K s) : z_T (fX12_ends_J19 fu s 309 a1 309 t1) (P_X12_ends_309 r0) := by
  refine T_of (fX12_ends_J19.eq_1 ..) ?_
  have u1 := CI_b c (k := 309) (j := 20) bd_309_20
  have u2 := CI_b c (k := 309) (j := 36) bd_309_36
  have u3 := CI_b c (k := 309) (j := 43) bd_309_43
  have u4 := CI_b c (k := 309) (j := 44) bd_309_44
  have u5 := CI_b c (k := 309) (j := 58) bd_309_58
  have u6 := CI_b c (k := 316) (j := 0) bd_316_0
  have u7 := CI_b c (k := 329) (j := 0) bd_329_0
  have u8 := CI_b c (k := 329) (j := 1) bd_329_1
  have t9 : s 309 20 = r0 309 20 := f 309 20 (by decide)
  have t10 : s 309 44 = r0 309 44 := f 309 44 (by decide)
  have t11 : s 309 58 = r0 309 58 := f 309 58 (by decide)
  have t12 : s 316 0 = r0 316 0 := f 316 0 (by decide)
  have t13 : s 329 0 = r0 329 0 := f 329 0 (by decide)
  have t14 : s 329 1 = r0 329 1 := f 329 1 (by decide)
  refine T_if1 (by decide +kernel) ?_
  refine T_useI (sf_X12_bad_309 hfu s c t1 1 0 (by omega) (by omega) (by omega) (by omega)) (fun v20 s15 hq => ?_)
  obtain ⟨c16, f17, o21, ⟨x19, rfl, b22, b23, o24, o25⟩⟩ := hq
  refine T_vI ?_
  have f18 := z_Fr.tr (R := R_X12_ends_309) f f17 rs_X12_bad_309__X12_ends_309
  have t26 : s15 309 20 = s 309 20 := f17 309 20 (by decide)
  have t27 : s15 309 36 = s 309 36 := f17 309 36 (by decide)
  have t28 : s15 309 43 = s 309 43 := f17 309 43 (by decide)
  have t29 : s15 309 44 = s 309 44 := f17 309 44 (by decide)
  have t30 : s15 309 58 = s 309 58 := f17 309 58 (by decide)
  have t31 : s15 316 0 = s 316 0 := f17 316 0 (by decide)
  have t32 : s15 329 0 = s 329 0 := f17 329 0 (by decide)
  have t33 : s15 329 1 = s 329 1 := f17 329 1 (by decide)
  have r34 := y_TA.fr p1 (fun a b h => f17 a b (nq_X12_bad_309__316 a b h)) (fun a b h => f17 a b (nq_X12_bad_309__346 a b h)) (fun a b h => f17 a b (nq_X12_bad_309__361 a b h))
  have r35 := y_DD.fr p2 (f17 329 0 (by decide)) (f17 329 1 (by decide)) (fun b => f17 359 b (nr_X12_bad_309__359 b)) (fun b => f17 374 b (nr_X12_bad_309__374 b))
  have r36 := y_B.fr p3 (f17 309 20 (by decide)) (f17 316 0 (by decide)) (fun b => f17 3220 b (nr_X12_bad_309__3220 b)) (fun b => f17 3221 b (nr_X12_bad_309__3221 b)) (fun b => f17 3222 b (nr_X12_bad_309__3222 b)) (fun b => f17 361 b (nr_X12_bad_309__361 b))
  have r37 := y_K.fr p4 (by omega) (by omega) (f17 309 44 (by decide)) (f17 309 20 (by decide)) (f17 309 58 (by decide)) (fun b => f17 3438 b (nr_X12_bad_309__3438 b)) (fun b => f17 3220 b (nr_X12_bad_309__3220 b)) (fun a b h => f17 a b (nq_X12_bad_309__3452 a b h))
  refine T_ite (fun h38 => ?_) (fun h38 => ?_)
  · refine T_if1 (by decide +kernel) ?_
    refine T_useI (sf_X12_mayEnd_309 hfu s15 c16 a1 (by omega) r36) (fun v44 s39 hq => ?_)
    obtain ⟨c40, f41, o45, o46, o47, ⟨x43, rfl, b48, b49⟩⟩ := hq
    refine T_vI ?_
    have f42 := z_Fr.tr (R := R_X12_ends_309) f18 f41 rs_X12_mayEnd_309__X12_ends_309
    have t50 : s39 309 20 = s 309 20 := (f41 309 20 (by decide)).trans t26
    have t51 : s39 309 44 = s 309 44 := (f41 309 44 (by decide)).trans t29
    have t52 : s39 309 58 = s 309 58 := (f41 309 58 (by decide)).trans t30
    have t53 : s39 316 0 = s 316 0 := (f41 316 0 (by decide)).trans t31
    have t54 : s39 329 0 = s 329 0 := (f41 329 0 (by decide)).trans t32
    have t55 : s39 329 1 = s 329 1 := (f41 329 1 (by decide)).trans t33
    have u56 := CI_b c40 (k := 309) (j := 36) bd_309_36
    have u57 := CI_b c40 (k := 309) (j := 43) bd_309_43
    have r58 := y_TA.fr r34 (fun a b h => f41 a b (nq_X12_mayEnd_309__316 a b h)) (fun a b h => f41 a b (nq_X12_mayEnd_309__346 a b h)) (fun a b h => f41 a b (nq_X12_mayEnd_309__361 a b h))
    have r59 := y_DD.fr r35 (f41 329 0 (by decide)) (f41 329 1 (by decide)) (fun b => f41 359 b (nr_X12_mayEnd_309__359 b)) (fun b => f41 374 b (nr_X12_mayEnd_309__374 b))
    have r60 := y_B.fr r36 (f41 309 20 (by decide)) (f41 316 0 (by decide)) (fun b => f41 3220 b (nr_X12_mayEnd_309__3220 b)) (fun b => f41 3221 b (nr_X12_mayEnd_309__3221 b)) (fun b => f41 3222 b (nr_X12_mayEnd_309__3222 b)) (fun b => f41 361 b (nr_X12_mayEnd_309__361 b))
    have r61 := y_K.fr r37 (by omega) (by omega) (f41 309 44 (by decide)) (f41 309 20 (by decide)) (f41 309 58 (by decide)) (fun b => f41 3438 b (nr_X12_mayEnd_309__3438 b)) (fun b => f41 3220 b (nr_X12_mayEnd_309__3220 b)) (fun a b h => f41 a b (nq_X12_mayEnd_309__3452 a b h))
    clear t26
    clear t29
    clear t30
    clear t31
    clear t32
    clear t33
    refine T_if1 (by unfold z_bl; omega) ?_
    exact T_ret ⟨c40, f42, r58, (by first | exact r59 | exact y_DD.z (by omega) (by omega)), r60, (by first | exact r61 | exact y_K.b0 (by omega) | exact y_K.k0 (by omega) | exact y_K.bk (by omega)), ⟨x43, rfl, by omega, by omega⟩⟩
  · refine T_if1 (by unfold z_bl; omega) ?_
    exact T_ret ⟨c16, f18, r34, (by first | exact r35 | exact y_DD.z (by omega) (by omega)), r36, (by first | exact r37 | exact y_K.b0 (by omega) | exact y_K.k0 (by omega) | exact y_K.bk (by omega)), ⟨0, rfl, by omega, by omega⟩⟩
theorem sf_X12_ends_309 {fu : Nat} (hfu : 8589934592 ≤ fu) (r0 : z_M) (c0 : z_CI r0) (a1 : Int) (b1 : -2147483648 ≤ a1 ∧ a1 ≤ 2147483647) (p0 : y_TA r0) (p1 : y_DD r0) (p2 : y_B r0) (p3 : y_K r0) : z_T (fX12_ends fu r0 309 a1) (P_X12_ends_309 r0) := by
  refine T_of (fX12_ends.eq_1 ..) ?_
  have u1 := CI_b c0 (k := 309) (j := 20) bd_309_20
  have u2 := CI_b c0 (k := 309) (j := 36) bd_309_36
  have u3 := CI_b c0 (k := 309) (j := 43) bd_309_43
  have u4 := CI_b c0 (k := 309) (j := 44) bd_309_44
  have u5 := CI_b c0 (k := 309) (j := 58) bd_309_58
  have u6 := CI_b c0 (k := 316) (j := 0) bd_316_0
  have u7 := CI_b c0 (k := 329) (j := 0) bd_329_0
  have u8 := CI_b c0 (k := 329) (j := 1) bd_329_1
  refine T_if1 (by decide +kernel) ?_
  refine T_upg c0 bd_309_0 (by omega) (fun s9 c10 g12 g13 e14 => ?_)
  have f11 := z_Fr.upf (R := R_X12_ends_309) z_Fr.rf g12 g13 (Or.inr (Or.inr (⟨rfl, by decide⟩)))
  have t15 : s9 309 20 = r0 309 20 := g13 20 (by decide)
  have t16 : s9 309 36 = r0 309 36 := g13 36 (by decide)
  have t17 : s9 309 43 = r0 309 43 := g13 43 (by decide)
  have t18 : s9 309 44 = r0 309 44 := g13 44 (by decide)
  have t19 : s9 309 58 = r0 309 58 := g13 58 (by decide)
  have t20 : s9 316 0 = r0 316 0 := g12 316 0 (by decide)
  have t21 : s9 329 0 = r0 329 0 := g12 329 0 (by decide)
  have t22 : s9 329 1 = r0 329 1 := g12 329 1 (by decide)
  have r23 := y_TA.fr p0 (fun a b h => g12 a b (by omega)) (fun a b h => g12 a b (by omega)) (fun a b h => g12 a b (by omega))
  have r24 := y_DD.fr p1 (g12 329 0 (by decide)) (g12 329 1 (by decide)) (fun b => g12 359 b (by decide)) (fun b => g12 374 b (by decide))
  have r25 := y_B.fr p2 (g13 20 (by decide)) (g12 316 0 (by decide)) (fun b => g12 3220 b (by decide)) (fun b => g12 3221 b (by decide)) (fun b => g12 3222 b (by decide)) (fun b => g12 361 b (by decide))
  have r26 := y_K.fr p3 (by omega) (by omega) (g13 44 (by decide)) (g13 20 (by decide)) (g13 58 (by decide)) (fun b => g12 3438 b (by decide)) (fun b => g12 3220 b (by decide)) (fun a b h => g12 a b (by omega))
  refine T_if1 (by decide +kernel) ?_
  refine T_useI (sf_X12_isUnit_309 hfu s9 c10 a1 (by omega)) (fun v32 s27 hq => ?_)
  obtain ⟨c28, f29, ⟨x31, rfl, b33, b34, o35⟩⟩ := hq
  refine T_vI ?_
  have q36 := z_Fr.eq (fun a b h => h) f29
  subst q36
  refine T_ite (fun h37 => ?_) (fun h37 => ?_)
  · exact sj_X12_ends_309_J19 hfu r0 s9 c10 f11 a1 0 (by omega) (by omega) (by omega) r23 (by first | exact r24 | exact y_DD.z (by omega) (by omega)) r25 (by first | exact r26 | exact y_K.b0 (by omega) | exact y_K.k0 (by omega) | exact y_K.bk (by omega))
  · exact sj_X12_ends_309_J19 hfu r0 s9 c10 f11 a1 1 (by omega) (by omega) (by omega) r23 (by first | exact r24 | exact y_DD.z (by omega) (by omega)) r25 (by first | exact r26 | exact y_K.b0 (by omega) | exact y_K.k0 (by omega) | exact y_K.bk (by omega))
abbrev R_X12_longOf_309 (a b : Int) : Prop := (310 ≤ a ∧ a ≤ 310) ∨ (3224 ≤ a ∧ a ≤ 3437) ∨ (a = 309 ∧ (b = 0 ∨ b = 35 ∨ b = 36 ∨ b = 38 ∨ b = 39 ∨ b = 43))
abbrev P_X12_longOf_309 (r0 : z_M) : z_V → z_M → Prop := fun v s' => z_CI s' ∧ z_Fr R_X12_longOf_309 r0 s' ∧ (y_TA s') ∧ (y_DD s') ∧ (y_B s') ∧ (y_K s') ∧ (∃ x, v = vI x ∧ -2147483648 ≤ x ∧ x ≤ 2147483647)
theorem rs_X12_bad_309__X12_longOf_309 (a b : Int) (h : R_X12_bad_309 a b) : R_X12_longOf_309 a b := (h.elim (fun h => (Or.inl (⟨by omega, by omega⟩))) (fun h => (Or.inr (Or.inr (⟨h.1, by omega⟩)))))
theorem sj_X12_longOf_309_J54 {fu : Nat} (hfu : 8589934592 ≤ fu) (r0 s : z_M) (c : z_CI s) (f : z_Fr R_X12_longOf_309 r0 s) (p0 : y_TA s) (p1 : y_DD s) (p2 : y_B s) (p3 : y_K s) : z_T (fX12_longOf_J54 fu s) (P_X12_longOf_309 r0) := by
  refine T_of (fX12_longOf_J54.eq_1 ..) ?_
  have u1 := CI_b c (k := 309) (j := 20) bd_309_20
  have u2 := CI_b c (k := 309) (j := 36) bd_309_36
  have u3 := CI_b c (k := 309) (j := 43) bd_309_43
  have u4 := CI_b c (k := 309) (j := 44) bd_309_44
  have u5 := CI_b c (k := 309) (j := 58) bd_309_58
  have u6 := CI_b c (k := 316) (j := 0) bd_316_0
  have u7 := CI_b c (k := 329) (j := 0) bd_329_0
  have u8 := CI_b c (k := 329) (j := 1) bd_329_1
  have t9 : s 309 20 = r0 309 20 := f 309 20 (by decide)
  have t10 : s 309 44 = r0 309 44 := f 309 44 (by decide)
  have t11 : s 309 58 = r0 309 58 := f 309 58 (by decide)
  have t12 : s 316 0 = r0 316 0 := f 316 0 (by decide)
  have t13 : s 329 0 = r0 329 0 := f 329 0 (by decide)
  have t14 : s 329 1 = r0 329 1 := f 329 1 (by decide)
  exact T_ret ⟨c, f, p0, (by first | exact p1 | exact y_DD.z (by omega) (by omega)), p2, (by first | exact p3 | exact y_K.b0 (by omega) | exact y_K.k0 (by omega) | exact y_K.bk (by omega)), ⟨0, rfl, by omega, by omega⟩⟩
theorem rs_X12_longAs_309__X12_longOf_309 (a b : Int) (h : R_X12_longAs_309 a b) : R_X12_longOf_309 a b := (h.elim (fun h => (Or.inr (Or.inl (⟨by omega, by omega⟩)))) (fun h => (Or.inr (Or.inr (⟨h.1, by omega⟩)))))
theorem nq_X12_longAs_309__316 (a b : Int) (h : 316 ≤ a ∧ a ≤ 328) : ¬ R_X12_longAs_309 a b := by
  unfold R_X12_longAs_309; omega
theorem nq_X12_longAs_309__346 (a b : Int) (h : 346 ≤ a ∧ a ≤ 358) : ¬ R_X12_longAs_309 a b := by
  unfold R_X12_longAs_309; omega
theorem nq_X12_longAs_309__361 (a b : Int) (h : 361 ≤ a ∧ a ≤ 373) : ¬ R_X12_longAs_309 a b := by
  unfold R_X12_longAs_309; omega
theorem nr_X12_longAs_309__359 (b : Int) : ¬ R_X12_longAs_309 359 b := by
  unfold R_X12_longAs_309; omega
theorem nr_X12_longAs_309__374 (b : Int) : ¬ R_X12_longAs_309 374 b := by
  unfold R_X12_longAs_309; omega
theorem nr_X12_longAs_309__3438 (b : Int) : ¬ R_X12_longAs_309 3438 b := by
  unfold R_X12_longAs_309; omega
theorem nq_X12_longAs_309__3452 (a b : Int) (h : 3452 ≤ a ∧ a ≤ 3651) : ¬ R_X12_longAs_309 a b := by
  unfold R_X12_longAs_309; omega
theorem sj_X12_longOf_309_J46 {fu : Nat} (hfu : 8589934592 ≤ fu) (r0 s : z_M) (c : z_CI s) (f : z_Fr R_X12_longOf_309 r0 s) (a1 : Int) (a2 : Int) (t1 : Int) (b1 : -2147483648 ≤ a1 ∧ a1 ≤ 2147483647) (b2 : -2147483648 ≤ a2 ∧ a2 ≤ 2147483647) (d1 : 0 ≤ t1 ∧ t1 ≤ 1) (p0 : 0 ≤ a1 ∧ a1 < s 309 20 ∧ 0 ≤ a2 ∧ a2 < s 309 20) (p1 : t1 = 1 ∨ a1 ≤ a2) (p2 : y_TA s) (p3 : y_DD s) (p4 : y_B s) (p5 : y_K s) : z_T (fX12_longOf_J46 fu s 309 a1 a2 309 t1) (P_X12_longOf_309 r0) := by
  refine T_of (fX12_longOf_J46.eq_1 ..) ?_
  have u1 := CI_b c (k := 309) (j := 20) bd_309_20
  have u2 := CI_b c (k := 309) (j := 36) bd_309_36
  have u3 := CI_b c (k := 309) (j := 43) bd_309_43
  have u4 := CI_b c (k := 309) (j := 44) bd_309_44
  have u5 := CI_b c (k := 309) (j := 58) bd_309_58
  have u6 := CI_b c (k := 316) (j := 0) bd_316_0
  have u7 := CI_b c (k := 329) (j := 0) bd_329_0
  have u8 := CI_b c (k := 329) (j := 1) bd_329_1
  have t9 : s 309 20 = r0 309 20 := f 309 20 (by decide)
  have t10 : s 309 44 = r0 309 44 := f 309 44 (by decide)
  have t11 : s 309 58 = r0 309 58 := f 309 58 (by decide)
  have t12 : s 316 0 = r0 316 0 := f 316 0 (by decide)
  have t13 : s 329 0 = r0 329 0 := f 329 0 (by decide)
  have t14 : s 329 1 = r0 329 1 := f 329 1 (by decide)
  refine T_if1 (by decide +kernel) ?_
  refine T_useI (sf_X12_bad_309 hfu s c t1 2 1 (by omega) (by omega) (by omega) (by omega)) (fun v20 s15 hq => ?_)
  obtain ⟨c16, f17, o21, ⟨x19, rfl, b22, b23, o24, o25⟩⟩ := hq
  refine T_vI ?_
  have f18 := z_Fr.tr (R := R_X12_longOf_309) f f17 rs_X12_bad_309__X12_longOf_309
  have t26 : s15 309 20 = s 309 20 := f17 309 20 (by decide)
  have t27 : s15 309 36 = s 309 36 := f17 309 36 (by decide)
  have t28 : s15 309 43 = s 309 43 := f17 309 43 (by decide)
  have t29 : s15 309 44 = s 309 44 := f17 309 44 (by decide)
  have t30 : s15 309 58 = s 309 58 := f17 309 58 (by decide)
  have t31 : s15 316 0 = s 316 0 := f17 316 0 (by decide)
  have t32 : s15 329 0 = s 329 0 := f17 329 0 (by decide)
  have t33 : s15 329 1 = s 329 1 := f17 329 1 (by decide)
  have r34 := y_TA.fr p2 (fun a b h => f17 a b (nq_X12_bad_309__316 a b h)) (fun a b h => f17 a b (nq_X12_bad_309__346 a b h)) (fun a b h => f17 a b (nq_X12_bad_309__361 a b h))
  have r35 := y_DD.fr p3 (f17 329 0 (by decide)) (f17 329 1 (by decide)) (fun b => f17 359 b (nr_X12_bad_309__359 b)) (fun b => f17 374 b (nr_X12_bad_309__374 b))
  have r36 := y_B.fr p4 (f17 309 20 (by decide)) (f17 316 0 (by decide)) (fun b => f17 3220 b (nr_X12_bad_309__3220 b)) (fun b => f17 3221 b (nr_X12_bad_309__3221 b)) (fun b => f17 3222 b (nr_X12_bad_309__3222 b)) (fun b => f17 361 b (nr_X12_bad_309__361 b))
  have r37 := y_K.fr p5 (by omega) (by omega) (f17 309 44 (by decide)) (f17 309 20 (by decide)) (f17 309 58 (by decide)) (fun b => f17 3438 b (nr_X12_bad_309__3438 b)) (fun b => f17 3220 b (nr_X12_bad_309__3220 b)) (fun a b h => f17 a b (nq_X12_bad_309__3452 a b h))
  refine T_ite (fun h38 => ?_) (fun h38 => ?_)
  · refine T_if1 (by decide +kernel) ?_
    refine T_useI (sf_X12_longAs_309 hfu s15 c16 a1 a2 (by omega) (by omega) r36 (by omega) (by omega)) (fun v44 s39 hq => ?_)
    obtain ⟨c40, f41, o45, o46, o47, ⟨x43, rfl, b48, b49⟩⟩ := hq
    refine T_vI ?_
    have f42 := z_Fr.tr (R := R_X12_longOf_309) f18 f41 rs_X12_longAs_309__X12_longOf_309
    have t50 : s39 309 20 = s 309 20 := (f41 309 20 (by decide)).trans t26
    have t51 : s39 309 44 = s 309 44 := (f41 309 44 (by decide)).trans t29
    have t52 : s39 309 58 = s 309 58 := (f41 309 58 (by decide)).trans t30
    have t53 : s39 316 0 = s 316 0 := (f41 316 0 (by decide)).trans t31
    have t54 : s39 329 0 = s 329 0 := (f41 329 0 (by decide)).trans t32
    have t55 : s39 329 1 = s 329 1 := (f41 329 1 (by decide)).trans t33
    have u56 := CI_b c40 (k := 309) (j := 36) bd_309_36
    have u57 := CI_b c40 (k := 309) (j := 43) bd_309_43
    have r58 := y_TA.fr r34 (fun a b h => f41 a b (nq_X12_longAs_309__316 a b h)) (fun a b h => f41 a b (nq_X12_longAs_309__346 a b h)) (fun a b h => f41 a b (nq_X12_longAs_309__361 a b h))
    have r59 := y_DD.fr r35 (f41 329 0 (by decide)) (f41 329 1 (by decide)) (fun b => f41 359 b (nr_X12_longAs_309__359 b)) (fun b => f41 374 b (nr_X12_longAs_309__374 b))
    have r60 := y_B.fr r36 (f41 309 20 (by decide)) (f41 316 0 (by decide)) (fun b => f41 3220 b (nr_X12_longAs_309__3220 b)) (fun b => f41 3221 b (nr_X12_longAs_309__3221 b)) (fun b => f41 3222 b (nr_X12_longAs_309__3222 b)) (fun b => f41 361 b (nr_X12_longAs_309__361 b))
    have r61 := y_K.fr r37 (by omega) (by omega) (f41 309 44 (by decide)) (f41 309 20 (by decide)) (f41 309 58 (by decide)) (fun b => f41 3438 b (nr_X12_longAs_309__3438 b)) (fun b => f41 3220 b (nr_X12_longAs_309__3220 b)) (fun a b h => f41 a b (nq_X12_longAs_309__3452 a b h))
    clear t26
    clear t29
    clear t30
    clear t31
    clear t32
    clear t33
    exact T_ret ⟨c40, f42, r58, (by first | exact r59 | exact y_DD.z (by omega) (by omega)), r60, (by first | exact r61 | exact y_K.b0 (by omega) | exact y_K.k0 (by omega) | exact y_K.bk (by omega)), ⟨x43, rfl, by omega, by omega⟩⟩
  · exact sj_X12_longOf_309_J54 hfu r0 s15 c16 f18 r34 (by first | exact r35 | exact y_DD.z (by omega) (by omega)) r36 (by first | exact r37 | exact y_K.b0 (by omega) | exact y_K.k0 (by omega) | exact y_K.bk (by omega))
theorem sj_X12_longOf_309_J27 {fu : Nat} (hfu : 8589934592 ≤ fu) (r0 s : z_M) (c : z_CI s) (f : z_Fr R_X12_longOf_309 r0 s) (a1 : Int) (a2 : Int) (t1 : Int) (b1 : -2147483648 ≤ a1 ∧ a1 ≤ 2147483647) (b2 : -2147483648 ≤ a2 ∧ a2 ≤ 2147483647) (d1 : 0 ≤ t1 ∧ t1 ≤ 1) (p0 : t1 = 1 ∨ (0 ≤ a1 ∧ a1 < s 309 20 ∧ 0 ≤ a2 ∧ a2 < s 309 20)) (p1 : y_TA s) (p2 : y_DD s) (p3 : y_B s) (p4 : y_K s) : z_T (fX12_longOf_J27 fu s 309 a1 a2 309 t1) (P_X12_longOf_309 r0) := by
  refine T_of (fX12_longOf_J27.eq_1 ..) ?_
  have u1 := CI_b c (k := 309) (j := 20) bd_309_20
  have u2 := CI_b c (k := 309) (j := 36) bd_309_36
  have u3 := CI_b c (k := 309) (j := 43) bd_309_43
  have u4 := CI_b c (k := 309) (j := 44) bd_309_44
  have u5 := CI_b c (k := 309) (j := 58) bd_309_58
  have u6 := CI_b c (k := 316) (j := 0) bd_316_0
  have u7 := CI_b c (k := 329) (j := 0) bd_329_0
  have u8 := CI_b c (k := 329) (j := 1) bd_329_1
  have t9 : s 309 20 = r0 309 20 := f 309 20 (by decide)
  have t10 : s 309 44 = r0 309 44 := f 309 44 (by decide)
  have t11 : s 309 58 = r0 309 58 := f 309 58 (by decide)
  have t12 : s 316 0 = r0 316 0 := f 316 0 (by decide)
  have t13 : s 329 0 = r0 329 0 := f 329 0 (by decide)
  have t14 : s 329 1 = r0 329 1 := f 329 1 (by decide)
  refine T_if1 (by decide +kernel) ?_
  refine T_useI (sf_X12_bad_309 hfu s c t1 1 0 (by omega) (by omega) (by omega) (by omega)) (fun v20 s15 hq => ?_)
  obtain ⟨c16, f17, o21, ⟨x19, rfl, b22, b23, o24, o25⟩⟩ := hq
  refine T_vI ?_
  have f18 := z_Fr.tr (R := R_X12_longOf_309) f f17 rs_X12_bad_309__X12_longOf_309
  have t26 : s15 309 20 = s 309 20 := f17 309 20 (by decide)
  have t27 : s15 309 36 = s 309 36 := f17 309 36 (by decide)
  have t28 : s15 309 43 = s 309 43 := f17 309 43 (by decide)
  have t29 : s15 309 44 = s 309 44 := f17 309 44 (by decide)
  have t30 : s15 309 58 = s 309 58 := f17 309 58 (by decide)
  have t31 : s15 316 0 = s 316 0 := f17 316 0 (by decide)
  have t32 : s15 329 0 = s 329 0 := f17 329 0 (by decide)
  have t33 : s15 329 1 = s 329 1 := f17 329 1 (by decide)
  have r34 := y_TA.fr p1 (fun a b h => f17 a b (nq_X12_bad_309__316 a b h)) (fun a b h => f17 a b (nq_X12_bad_309__346 a b h)) (fun a b h => f17 a b (nq_X12_bad_309__361 a b h))
  have r35 := y_DD.fr p2 (f17 329 0 (by decide)) (f17 329 1 (by decide)) (fun b => f17 359 b (nr_X12_bad_309__359 b)) (fun b => f17 374 b (nr_X12_bad_309__374 b))
  have r36 := y_B.fr p3 (f17 309 20 (by decide)) (f17 316 0 (by decide)) (fun b => f17 3220 b (nr_X12_bad_309__3220 b)) (fun b => f17 3221 b (nr_X12_bad_309__3221 b)) (fun b => f17 3222 b (nr_X12_bad_309__3222 b)) (fun b => f17 361 b (nr_X12_bad_309__361 b))
  have r37 := y_K.fr p4 (by omega) (by omega) (f17 309 44 (by decide)) (f17 309 20 (by decide)) (f17 309 58 (by decide)) (fun b => f17 3438 b (nr_X12_bad_309__3438 b)) (fun b => f17 3220 b (nr_X12_bad_309__3220 b)) (fun a b h => f17 a b (nq_X12_bad_309__3452 a b h))
  refine T_ite (fun h38 => ?_) (fun h38 => ?_)
  · exact sj_X12_longOf_309_J54 hfu r0 s15 c16 f18 r34 (by first | exact r35 | exact y_DD.z (by omega) (by omega)) r36 (by first | exact r37 | exact y_K.b0 (by omega) | exact y_K.k0 (by omega) | exact y_K.bk (by omega))
  · refine T_ite (fun h39 => ?_) (fun h39 => ?_)
    · exact sj_X12_longOf_309_J46 hfu r0 s15 c16 f18 a1 a2 0 (by omega) (by omega) (by omega) (by omega) (by omega) r34 (by first | exact r35 | exact y_DD.z (by omega) (by omega)) r36 (by first | exact r37 | exact y_K.b0 (by omega) | exact y_K.k0 (by omega) | exact y_K.bk (by omega))
    · exact sj_X12_longOf_309_J46 hfu r0 s15 c16 f18 a1 a2 1 (by omega) (by omega) (by omega) (by omega) (by omega) r34 (by first | exact r35 | exact y_DD.z (by omega) (by omega)) r36 (by first | exact r37 | exact y_K.b0 (by omega) | exact y_K.k0 (by omega) | exact y_K.bk (by omega))
theorem sj_X12_longOf_309_J22 {fu : Nat} (hfu : 8589934592 ≤ fu) (r0 s : z_M) (c : z_CI s) (f : z_Fr R_X12_longOf_309 r0 s) (a1 : Int) (a2 : Int) (b1 : -2147483648 ≤ a1 ∧ a1 ≤ 2147483647) (b2 : -2147483648 ≤ a2 ∧ a2 ≤ 2147483647) (p0 : y_TA s) (p1 : y_DD s) (p2 : y_B s) (p3 : y_K s) : z_T (fX12_longOf_J22 fu s 309 a1 a2 309) (P_X12_longOf_309 r0) := by
  refine T_of (fX12_longOf_J22.eq_1 ..) ?_
  have u1 := CI_b c (k := 309) (j := 20) bd_309_20
  have u2 := CI_b c (k := 309) (j := 36) bd_309_36
  have u3 := CI_b c (k := 309) (j := 43) bd_309_43
  have u4 := CI_b c (k := 309) (j := 44) bd_309_44
  have u5 := CI_b c (k := 309) (j := 58) bd_309_58
  have u6 := CI_b c (k := 316) (j := 0) bd_316_0
  have u7 := CI_b c (k := 329) (j := 0) bd_329_0
  have u8 := CI_b c (k := 329) (j := 1) bd_329_1
  have t9 : s 309 20 = r0 309 20 := f 309 20 (by decide)
  have t10 : s 309 44 = r0 309 44 := f 309 44 (by decide)
  have t11 : s 309 58 = r0 309 58 := f 309 58 (by decide)
  have t12 : s 316 0 = r0 316 0 := f 316 0 (by decide)
  have t13 : s 329 0 = r0 329 0 := f 329 0 (by decide)
  have t14 : s 329 1 = r0 329 1 := f 329 1 (by decide)
  exact sj_X12_longOf_309_J27 hfu r0 s c f a1 a2 1 (by omega) (by omega) (by omega) (by omega) p0 (by first | exact p1 | exact y_DD.z (by omega) (by omega)) p2 (by first | exact p3 | exact y_K.b0 (by omega) | exact y_K.k0 (by omega) | exact y_K.bk (by omega))
theorem sf_X12_longOf_309 {fu : Nat} (hfu : 8589934592 ≤ fu) (r0 : z_M) (c0 : z_CI r0) (a1 : Int) (a2 : Int) (b1 : -2147483648 ≤ a1 ∧ a1 ≤ 2147483647) (b2 : -2147483648 ≤ a2 ∧ a2 ≤ 2147483647) (p0 : y_TA r0) (p1 : y_DD r0) (p2 : y_B r0) (p3 : y_K r0) : z_T (fX12_longOf fu r0 309 a1 a2) (P_X12_longOf_309 r0) := by
  refine T_of (fX12_longOf.eq_1 ..) ?_
  have u1 := CI_b c0 (k := 309) (j := 20) bd_309_20
  have u2 := CI_b c0 (k := 309) (j := 36) bd_309_36
  have u3 := CI_b c0 (k := 309) (j := 43) bd_309_43
  have u4 := CI_b c0 (k := 309) (j := 44) bd_309_44
  have u5 := CI_b c0 (k := 309) (j := 58) bd_309_58
  have u6 := CI_b c0 (k := 316) (j := 0) bd_316_0
  have u7 := CI_b c0 (k := 329) (j := 0) bd_329_0
  have u8 := CI_b c0 (k := 329) (j := 1) bd_329_1
  refine T_if1 (by decide +kernel) ?_
  refine T_upg c0 bd_309_0 (by omega) (fun s9 c10 g12 g13 e14 => ?_)
  have f11 := z_Fr.upf (R := R_X12_longOf_309) z_Fr.rf g12 g13 (Or.inr (Or.inr (⟨rfl, by decide⟩)))
  have t15 : s9 309 20 = r0 309 20 := g13 20 (by decide)
  have t16 : s9 309 36 = r0 309 36 := g13 36 (by decide)
  have t17 : s9 309 43 = r0 309 43 := g13 43 (by decide)
  have t18 : s9 309 44 = r0 309 44 := g13 44 (by decide)
  have t19 : s9 309 58 = r0 309 58 := g13 58 (by decide)
  have t20 : s9 316 0 = r0 316 0 := g12 316 0 (by decide)
  have t21 : s9 329 0 = r0 329 0 := g12 329 0 (by decide)
  have t22 : s9 329 1 = r0 329 1 := g12 329 1 (by decide)
  have r23 := y_TA.fr p0 (fun a b h => g12 a b (by omega)) (fun a b h => g12 a b (by omega)) (fun a b h => g12 a b (by omega))
  have r24 := y_DD.fr p1 (g12 329 0 (by decide)) (g12 329 1 (by decide)) (fun b => g12 359 b (by decide)) (fun b => g12 374 b (by decide))
  have r25 := y_B.fr p2 (g13 20 (by decide)) (g12 316 0 (by decide)) (fun b => g12 3220 b (by decide)) (fun b => g12 3221 b (by decide)) (fun b => g12 3222 b (by decide)) (fun b => g12 361 b (by decide))
  have r26 := y_K.fr p3 (by omega) (by omega) (g13 44 (by decide)) (g13 20 (by decide)) (g13 58 (by decide)) (fun b => g12 3438 b (by decide)) (fun b => g12 3220 b (by decide)) (fun a b h => g12 a b (by omega))
  refine T_if1 (by decide +kernel) ?_
  refine T_useI (sf_X12_isUnit_309 hfu s9 c10 a1 (by omega)) (fun v32 s27 hq => ?_)
  obtain ⟨c28, f29, ⟨x31, rfl, b33, b34, o35⟩⟩ := hq
  refine T_vI ?_
  have q36 := z_Fr.eq (fun a b h => h) f29
  subst q36
  refine T_ite (fun h37 => ?_) (fun h37 => ?_)
  · exact sj_X12_longOf_309_J22 hfu r0 s9 c10 f11 a1 a2 (by omega) (by omega) r23 (by first | exact r24 | exact y_DD.z (by omega) (by omega)) r25 (by first | exact r26 | exact y_K.b0 (by omega) | exact y_K.k0 (by omega) | exact y_K.bk (by omega))
  · refine T_if1 (by decide +kernel) ?_
    refine T_useI (sf_X12_isUnit_309 hfu s9 c10 a2 (by omega)) (fun v43 s38 hq => ?_)
    obtain ⟨c39, f40, ⟨x42, rfl, b44, b45, o46⟩⟩ := hq
    refine T_vI ?_
    have q47 := z_Fr.eq (fun a b h => h) f40
    subst q47
    refine T_ite (fun h48 => ?_) (fun h48 => ?_)
    · exact sj_X12_longOf_309_J27 hfu r0 s9 c10 f11 a1 a2 0 (by omega) (by omega) (by omega) (by omega) r23 (by first | exact r24 | exact y_DD.z (by omega) (by omega)) r25 (by first | exact r26 | exact y_K.b0 (by omega) | exact y_K.k0 (by omega) | exact y_K.bk (by omega))
    · exact sj_X12_longOf_309_J22 hfu r0 s9 c10 f11 a1 a2 (by omega) (by omega) r23 (by first | exact r24 | exact y_DD.z (by omega) (by omega)) r25 (by first | exact r26 | exact y_K.b0 (by omega) | exact y_K.k0 (by omega) | exact y_K.bk (by omega))
abbrev R_X12_lines_309 (a b : Int) : Prop := (310 ≤ a ∧ a ≤ 310) ∨ (3224 ≤ a ∧ a ≤ 3440) ∨ (a = 309 ∧ (b = 0 ∨ b = 35 ∨ b = 36 ∨ b = 38 ∨ b = 39 ∨ b = 43))
abbrev P_X12_lines_309 (r0 : z_M) : z_V → z_M → Prop := fun v s' => z_CI s' ∧ z_Fr R_X12_lines_309 r0 s' ∧ (y_TA s') ∧ (y_DD s') ∧ (y_B s') ∧ (y_K s') ∧ (∃ x, v = vI x ∧ -2147483648 ≤ x ∧ x ≤ 2147483647)
theorem rs_X12_bad_309__X12_lines_309 (a b : Int) (h : R_X12_bad_309 a b) : R_X12_lines_309 a b := (h.elim (fun h => (Or.inl (⟨by omega, by omega⟩))) (fun h => (Or.inr (Or.inr (⟨h.1, by omega⟩)))))
theorem rs_X12_breaks_309__X12_lines_309 (a b : Int) (h : R_X12_breaks_309 a b) : R_X12_lines_309 a b := (h.elim (fun h => (Or.inr (Or.inl (⟨by omega, by omega⟩)))) (fun h => (Or.inr (Or.inr (⟨h.1, by omega⟩)))))
theorem nq_X12_breaks_309__316 (a b : Int) (h : 316 ≤ a ∧ a ≤ 328) : ¬ R_X12_breaks_309 a b := by
  unfold R_X12_breaks_309; omega
theorem nq_X12_breaks_309__346 (a b : Int) (h : 346 ≤ a ∧ a ≤ 358) : ¬ R_X12_breaks_309 a b := by
  unfold R_X12_breaks_309; omega
theorem nq_X12_breaks_309__361 (a b : Int) (h : 361 ≤ a ∧ a ≤ 373) : ¬ R_X12_breaks_309 a b := by
  unfold R_X12_breaks_309; omega
theorem nr_X12_breaks_309__359 (b : Int) : ¬ R_X12_breaks_309 359 b := by
  unfold R_X12_breaks_309; omega
theorem nr_X12_breaks_309__374 (b : Int) : ¬ R_X12_breaks_309 374 b := by
  unfold R_X12_breaks_309; omega
theorem sj_X12_lines_309_J32 {fu : Nat} (hfu : 8589934592 ≤ fu) (r0 s : z_M) (c : z_CI s) (f : z_Fr R_X12_lines_309 r0 s) (a1 : Int) (a2 : Int) (t1 : Int) (b1 : -2147483648 ≤ a1 ∧ a1 ≤ 2147483647) (b2 : -2147483648 ≤ a2 ∧ a2 ≤ 2147483647) (d1 : 0 ≤ t1 ∧ t1 ≤ 1) (p0 : y_TA s) (p1 : y_DD s) (p2 : y_B s) (p3 : y_K s) : z_T (fX12_lines_J32 fu s 309 a1 a2 309 t1) (P_X12_lines_309 r0) := by
  refine T_of (fX12_lines_J32.eq_1 ..) ?_
  have u1 := CI_b c (k := 309) (j := 20) bd_309_20
  have u2 := CI_b c (k := 309) (j := 36) bd_309_36
  have u3 := CI_b c (k := 309) (j := 43) bd_309_43
  have u4 := CI_b c (k := 309) (j := 44) bd_309_44
  have u5 := CI_b c (k := 309) (j := 58) bd_309_58
  have u6 := CI_b c (k := 316) (j := 0) bd_316_0
  have u7 := CI_b c (k := 329) (j := 0) bd_329_0
  have u8 := CI_b c (k := 329) (j := 1) bd_329_1
  have t9 : s 309 20 = r0 309 20 := f 309 20 (by decide)
  have t10 : s 309 44 = r0 309 44 := f 309 44 (by decide)
  have t11 : s 309 58 = r0 309 58 := f 309 58 (by decide)
  have t12 : s 316 0 = r0 316 0 := f 316 0 (by decide)
  have t13 : s 329 0 = r0 329 0 := f 329 0 (by decide)
  have t14 : s 329 1 = r0 329 1 := f 329 1 (by decide)
  refine T_if1 (by decide +kernel) ?_
  refine T_useI (sf_X12_bad_309 hfu s c t1 1 1 (by omega) (by omega) (by omega) (by omega)) (fun v20 s15 hq => ?_)
  obtain ⟨c16, f17, o21, ⟨x19, rfl, b22, b23, o24, o25⟩⟩ := hq
  refine T_vI ?_
  have f18 := z_Fr.tr (R := R_X12_lines_309) f f17 rs_X12_bad_309__X12_lines_309
  have t26 : s15 309 20 = s 309 20 := f17 309 20 (by decide)
  have t27 : s15 309 36 = s 309 36 := f17 309 36 (by decide)
  have t28 : s15 309 43 = s 309 43 := f17 309 43 (by decide)
  have t29 : s15 309 44 = s 309 44 := f17 309 44 (by decide)
  have t30 : s15 309 58 = s 309 58 := f17 309 58 (by decide)
  have t31 : s15 316 0 = s 316 0 := f17 316 0 (by decide)
  have t32 : s15 329 0 = s 329 0 := f17 329 0 (by decide)
  have t33 : s15 329 1 = s 329 1 := f17 329 1 (by decide)
  have r34 := y_TA.fr p0 (fun a b h => f17 a b (nq_X12_bad_309__316 a b h)) (fun a b h => f17 a b (nq_X12_bad_309__346 a b h)) (fun a b h => f17 a b (nq_X12_bad_309__361 a b h))
  have r35 := y_DD.fr p1 (f17 329 0 (by decide)) (f17 329 1 (by decide)) (fun b => f17 359 b (nr_X12_bad_309__359 b)) (fun b => f17 374 b (nr_X12_bad_309__374 b))
  have r36 := y_B.fr p2 (f17 309 20 (by decide)) (f17 316 0 (by decide)) (fun b => f17 3220 b (nr_X12_bad_309__3220 b)) (fun b => f17 3221 b (nr_X12_bad_309__3221 b)) (fun b => f17 3222 b (nr_X12_bad_309__3222 b)) (fun b => f17 361 b (nr_X12_bad_309__361 b))
  have r37 := y_K.fr p3 (by omega) (by omega) (f17 309 44 (by decide)) (f17 309 20 (by decide)) (f17 309 58 (by decide)) (fun b => f17 3438 b (nr_X12_bad_309__3438 b)) (fun b => f17 3220 b (nr_X12_bad_309__3220 b)) (fun a b h => f17 a b (nq_X12_bad_309__3452 a b h))
  refine T_ite (fun h38 => ?_) (fun h38 => ?_)
  · refine T_if1 (by decide +kernel) ?_
    refine T_useI (sf_X12_breaks_309 hfu s15 c16 a1 a2 (by omega) (by omega) r36) (fun v44 s39 hq => ?_)
    obtain ⟨c40, f41, o45, o46, ⟨x43, rfl, b47, b48, o49⟩⟩ := hq
    refine T_vI ?_
    have f42 := z_Fr.tr (R := R_X12_lines_309) f18 f41 rs_X12_breaks_309__X12_lines_309
    have t50 : s39 309 20 = s 309 20 := (f41 309 20 (by decide)).trans t26
    have t51 : s39 309 44 = s 309 44 := (f41 309 44 (by decide)).trans t29
    have t52 : s39 309 58 = s 309 58 := (f41 309 58 (by decide)).trans t30
    have t53 : s39 316 0 = s 316 0 := (f41 316 0 (by decide)).trans t31
    have t54 : s39 329 0 = s 329 0 := (f41 329 0 (by decide)).trans t32
    have t55 : s39 329 1 = s 329 1 := (f41 329 1 (by decide)).trans t33
    have u56 := CI_b c40 (k := 309) (j := 36) bd_309_36
    have u57 := CI_b c40 (k := 309) (j := 43) bd_309_43
    have r58 := y_TA.fr r34 (fun a b h => f41 a b (nq_X12_breaks_309__316 a b h)) (fun a b h => f41 a b (nq_X12_breaks_309__346 a b h)) (fun a b h => f41 a b (nq_X12_breaks_309__361 a b h))
    have r59 := y_DD.fr r35 (f41 329 0 (by decide)) (f41 329 1 (by decide)) (fun b => f41 359 b (nr_X12_breaks_309__359 b)) (fun b => f41 374 b (nr_X12_breaks_309__374 b))
    have r60 := y_B.fr r36 (f41 309 20 (by decide)) (f41 316 0 (by decide)) (fun b => f41 3220 b (nr_X12_breaks_309__3220 b)) (fun b => f41 3221 b (nr_X12_breaks_309__3221 b)) (fun b => f41 3222 b (nr_X12_breaks_309__3222 b)) (fun b => f41 361 b (nr_X12_breaks_309__361 b))
    clear t26
    clear t29
    clear t30
    clear t31
    clear t32
    clear t33
    refine T_if1 ⟨(by decide +kernel), by unfold z_bl; omega⟩ ?_
    refine T_upg c40 bd_309_43 (by omega) (fun s61 c62 g64 g65 e66 => ?_)
    have f63 := z_Fr.upf (R := R_X12_lines_309) f42 g64 g65 (Or.inr (Or.inr (⟨rfl, by decide⟩)))
    have t67 : s61 309 20 = s 309 20 := (g65 20 (by decide)).trans t50
    have t68 : s61 309 36 = s39 309 36 := g65 36 (by decide)
    have t69 : s61 309 44 = s 309 44 := (g65 44 (by decide)).trans t51
    have t70 : s61 309 58 = s 309 58 := (g65 58 (by decide)).trans t52
    have t71 : s61 316 0 = s 316 0 := (g64 316 0 (by decide)).trans t53
    have t72 : s61 329 0 = s 329 0 := (g64 329 0 (by decide)).trans t54
    have t73 : s61 329 1 = s 329 1 := (g64 329 1 (by decide)).trans t55
    have u74 := CI_b c62 (k := 309) (j := 43) bd_309_43
    have r75 := y_TA.fr r58 (fun a b h => g64 a b (by omega)) (fun a b h => g64 a b (by omega)) (fun a b h => g64 a b (by omega))
    have r76 := y_DD.fr r59 (g64 329 0 (by decide)) (g64 329 1 (by decide)) (fun b => g64 359 b (by decide)) (fun b => g64 374 b (by decide))
    have r77 := y_B.fr r60 (g65 20 (by decide)) (g64 316 0 (by decide)) (fun b => g64 3220 b (by decide)) (fun b => g64 3221 b (by decide)) (fun b => g64 3222 b (by decide)) (fun b => g64 361 b (by decide))
    have r78 := y_L.fr o49 (g65 20 (by decide)) (fun b => g64 3438 b (by decide))
    clear t50
    clear t51
    clear t52
    clear t53
    clear t54
    clear t55
    exact T_ret ⟨c62, f63, r75, (by first | exact r76 | exact y_DD.z (by omega) (by omega)), r77, (by first | exact y_K.b0 (by omega) | exact y_K.k0 (by omega) | exact y_K.bk (by omega)), ⟨x43, rfl, by omega, by omega⟩⟩
  · exact T_ret ⟨c16, f18, r34, (by first | exact r35 | exact y_DD.z (by omega) (by omega)), r36, (by first | exact r37 | exact y_K.b0 (by omega) | exact y_K.k0 (by omega) | exact y_K.bk (by omega)), ⟨0, rfl, by omega, by omega⟩⟩
theorem sj_X12_lines_309_J27 {fu : Nat} (hfu : 8589934592 ≤ fu) (r0 s : z_M) (c : z_CI s) (f : z_Fr R_X12_lines_309 r0 s) (a1 : Int) (a2 : Int) (b1 : -2147483648 ≤ a1 ∧ a1 ≤ 2147483647) (b2 : -2147483648 ≤ a2 ∧ a2 ≤ 2147483647) (p0 : y_TA s) (p1 : y_DD s) (p2 : y_B s) (p3 : y_K s) : z_T (fX12_lines_J27 fu s 309 a1 a2 309) (P_X12_lines_309 r0) := by
  refine T_of (fX12_lines_J27.eq_1 ..) ?_
  have u1 := CI_b c (k := 309) (j := 20) bd_309_20
  have u2 := CI_b c (k := 309) (j := 36) bd_309_36
  have u3 := CI_b c (k := 309) (j := 43) bd_309_43
  have u4 := CI_b c (k := 309) (j := 44) bd_309_44
  have u5 := CI_b c (k := 309) (j := 58) bd_309_58
  have u6 := CI_b c (k := 316) (j := 0) bd_316_0
  have u7 := CI_b c (k := 329) (j := 0) bd_329_0
  have u8 := CI_b c (k := 329) (j := 1) bd_329_1
  have t9 : s 309 20 = r0 309 20 := f 309 20 (by decide)
  have t10 : s 309 44 = r0 309 44 := f 309 44 (by decide)
  have t11 : s 309 58 = r0 309 58 := f 309 58 (by decide)
  have t12 : s 316 0 = r0 316 0 := f 316 0 (by decide)
  have t13 : s 329 0 = r0 329 0 := f 329 0 (by decide)
  have t14 : s 329 1 = r0 329 1 := f 329 1 (by decide)
  exact sj_X12_lines_309_J32 hfu r0 s c f a1 a2 1 (by omega) (by omega) (by omega) p0 (by first | exact p1 | exact y_DD.z (by omega) (by omega)) p2 (by first | exact p3 | exact y_K.b0 (by omega) | exact y_K.k0 (by omega) | exact y_K.bk (by omega))
theorem sf_X12_lines_309 {fu : Nat} (hfu : 8589934592 ≤ fu) (r0 : z_M) (c0 : z_CI r0) (a1 : Int) (a2 : Int) (b1 : -2147483648 ≤ a1 ∧ a1 ≤ 2147483647) (b2 : -2147483648 ≤ a2 ∧ a2 ≤ 2147483647) (p0 : y_TA r0) (p1 : y_DD r0) (p2 : y_B r0) (p3 : y_K r0) : z_T (fX12_lines fu r0 309 a1 a2) (P_X12_lines_309 r0) := by
  refine T_of (fX12_lines.eq_1 ..) ?_
  have u1 := CI_b c0 (k := 309) (j := 20) bd_309_20
  have u2 := CI_b c0 (k := 309) (j := 36) bd_309_36
  have u3 := CI_b c0 (k := 309) (j := 43) bd_309_43
  have u4 := CI_b c0 (k := 309) (j := 44) bd_309_44
  have u5 := CI_b c0 (k := 309) (j := 58) bd_309_58
  have u6 := CI_b c0 (k := 316) (j := 0) bd_316_0
  have u7 := CI_b c0 (k := 329) (j := 0) bd_329_0
  have u8 := CI_b c0 (k := 329) (j := 1) bd_329_1
  refine T_if1 (by decide +kernel) ?_
  refine T_upg c0 bd_309_0 (by omega) (fun s9 c10 g12 g13 e14 => ?_)
  have f11 := z_Fr.upf (R := R_X12_lines_309) z_Fr.rf g12 g13 (Or.inr (Or.inr (⟨rfl, by decide⟩)))
  have t15 : s9 309 20 = r0 309 20 := g13 20 (by decide)
  have t16 : s9 309 36 = r0 309 36 := g13 36 (by decide)
  have t17 : s9 309 43 = r0 309 43 := g13 43 (by decide)
  have t18 : s9 309 44 = r0 309 44 := g13 44 (by decide)
  have t19 : s9 309 58 = r0 309 58 := g13 58 (by decide)
  have t20 : s9 316 0 = r0 316 0 := g12 316 0 (by decide)
  have t21 : s9 329 0 = r0 329 0 := g12 329 0 (by decide)
  have t22 : s9 329 1 = r0 329 1 := g12 329 1 (by decide)
  have r23 := y_TA.fr p0 (fun a b h => g12 a b (by omega)) (fun a b h => g12 a b (by omega)) (fun a b h => g12 a b (by omega))
  have r24 := y_DD.fr p1 (g12 329 0 (by decide)) (g12 329 1 (by decide)) (fun b => g12 359 b (by decide)) (fun b => g12 374 b (by decide))
  have r25 := y_B.fr p2 (g13 20 (by decide)) (g12 316 0 (by decide)) (fun b => g12 3220 b (by decide)) (fun b => g12 3221 b (by decide)) (fun b => g12 3222 b (by decide)) (fun b => g12 361 b (by decide))
  have r26 := y_K.fr p3 (by omega) (by omega) (g13 44 (by decide)) (g13 20 (by decide)) (g13 58 (by decide)) (fun b => g12 3438 b (by decide)) (fun b => g12 3220 b (by decide)) (fun a b h => g12 a b (by omega))
  refine T_useI (sf_X12_in hfu s9 c10 a1 12 999 (by omega) (by omega) (by omega)) (fun v32 s27 hq => ?_)
  obtain ⟨c28, f29, ⟨x31, rfl, b33, b34, o35⟩⟩ := hq
  refine T_vI ?_
  have q36 := z_Fr.eq (fun a b h => h) f29
  subst q36
  refine T_ite (fun h37 => ?_) (fun h37 => ?_)
  · exact sj_X12_lines_309_J27 hfu r0 s9 c10 f11 a1 a2 (by omega) (by omega) r23 (by first | exact r24 | exact y_DD.z (by omega) (by omega)) r25 (by first | exact r26 | exact y_K.b0 (by omega) | exact y_K.k0 (by omega) | exact y_K.bk (by omega))
  · refine T_useI (sf_X12_in hfu s9 c10 a2 0 1 (by omega) (by omega) (by omega)) (fun v43 s38 hq => ?_)
    obtain ⟨c39, f40, ⟨x42, rfl, b44, b45, o46⟩⟩ := hq
    refine T_vI ?_
    have q47 := z_Fr.eq (fun a b h => h) f40
    subst q47
    refine T_ite (fun h48 => ?_) (fun h48 => ?_)
    · exact sj_X12_lines_309_J32 hfu r0 s9 c10 f11 a1 a2 0 (by omega) (by omega) (by omega) r23 (by first | exact r24 | exact y_DD.z (by omega) (by omega)) r25 (by first | exact r26 | exact y_K.b0 (by omega) | exact y_K.k0 (by omega) | exact y_K.bk (by omega))
    · exact sj_X12_lines_309_J27 hfu r0 s9 c10 f11 a1 a2 (by omega) (by omega) r23 (by first | exact r24 | exact y_DD.z (by omega) (by omega)) r25 (by first | exact r26 | exact y_K.b0 (by omega) | exact y_K.k0 (by omega) | exact y_K.bk (by omega))
abbrev R_X12_least_309 (a b : Int) : Prop := (310 ≤ a ∧ a ≤ 310) ∨ (3224 ≤ a ∧ a ≤ 3440) ∨ (a = 309 ∧ (b = 0 ∨ b = 35 ∨ b = 36 ∨ b = 38 ∨ b = 39 ∨ b = 43))
abbrev P_X12_least_309 (r0 : z_M) : z_V → z_M → Prop := fun v s' => z_CI s' ∧ z_Fr R_X12_least_309 r0 s' ∧ (y_TA s') ∧ (y_DD s') ∧ (y_B s') ∧ (y_K s') ∧ (∃ x, v = vI x ∧ -2147483648 ≤ x ∧ x ≤ 2147483647)
theorem rs_X12_bad_309__X12_least_309 (a b : Int) (h : R_X12_bad_309 a b) : R_X12_least_309 a b := (h.elim (fun h => (Or.inl (⟨by omega, by omega⟩))) (fun h => (Or.inr (Or.inr (⟨h.1, by omega⟩)))))
theorem rs_X12_breaks_309__X12_least_309 (a b : Int) (h : R_X12_breaks_309 a b) : R_X12_least_309 a b := (h.elim (fun h => (Or.inr (Or.inl (⟨by omega, by omega⟩)))) (fun h => (Or.inr (Or.inr (⟨h.1, by omega⟩)))))
theorem rs_X12_longAs_309__X12_least_309 (a b : Int) (h : R_X12_longAs_309 a b) : R_X12_least_309 a b := (h.elim (fun h => (Or.inr (Or.inl (⟨by omega, by omega⟩)))) (fun h => (Or.inr (Or.inr (⟨h.1, by omega⟩)))))
theorem sj_X12_least_309_J116 {fu : Nat} (hfu : 8589934592 ≤ fu) (r0 s : z_M) (c : z_CI s) (f : z_Fr R_X12_least_309 r0 s) (a1 : Int) (a2 : Int) (a3 : Int) (a5 : Int) (t0 : Int) (b1 : -2147483648 ≤ a1 ∧ a1 ≤ 2147483647) (b2 : 12 ≤ a2 ∧ a2 ≤ 999) (b3 : 0 ≤ a3 ∧ a3 ≤ 200) (b5 : 0 ≤ a5 ∧ a5 ≤ 199) (d0 : 0 ≤ t0 ∧ t0 ≤ 1) (p0 : s 309 43 = 0 ∨ s 309 36 = 0) (p1 : y_L s a3) (p2 : y_TA s) (p3 : y_DD s) (p4 : y_B s) (p5 : y_K s) (M : Int) (pm : 2147483647 - a5 ≤ M) {r : z_M → Int → Int → z_O} {k : z_M → Int → z_O} (hr : ∀ (s' : z_M) (v4 : Int) (v5 : Int), z_CI s' → z_Fr R_X12_least_309 r0 s' → (0 ≤ v4 ∧ v4 ≤ 1) → (0 ≤ v5 ∧ v5 ≤ 200) → (s' 309 43 = 0 ∨ s' 309 36 = 0) → (y_L s' a3) → (y_TA s') → (y_DD s') → (y_B s') → (y_K s') → (2147483647 - v5 < M) → z_T (r s' v4 v5) (P_X12_least_309 r0)) (hk : ∀ (s' : z_M) (v4 : Int), z_CI s' → z_Fr R_X12_least_309 r0 s' → (0 ≤ v4 ∧ v4 ≤ 1) → (s' 309 43 = 0 ∨ s' 309 36 = 0) → (y_TA s') → (y_DD s') → (y_B s') → (y_K s') → z_T (k s' v4) (P_X12_least_309 r0)) : z_T (fX12_least_J116 fu s 309 a1 a2 a3 a5 t0 r k) (P_X12_least_309 r0) := by
  refine T_of (fX12_least_J116.eq_1 ..) ?_
  have u1 := CI_b c (k := 309) (j := 20) bd_309_20
  have u2 := CI_b c (k := 309) (j := 36) bd_309_36
  have u3 := CI_b c (k := 309) (j := 43) bd_309_43
  have u4 := CI_b c (k := 309) (j := 44) bd_309_44
  have u5 := CI_b c (k := 309) (j := 58) bd_309_58
  have u6 := CI_b c (k := 316) (j := 0) bd_316_0
  have u7 := CI_b c (k := 329) (j := 0) bd_329_0
  have u8 := CI_b c (k := 329) (j := 1) bd_329_1
  have t9 : s 309 20 = r0 309 20 := f 309 20 (by decide)
  have t10 : s 309 44 = r0 309 44 := f 309 44 (by decide)
  have t11 : s 309 58 = r0 309 58 := f 309 58 (by decide)
  have t12 : s 316 0 = r0 316 0 := f 316 0 (by decide)
  have t13 : s 329 0 = r0 329 0 := f 329 0 (by decide)
  have t14 : s 329 1 = r0 329 1 := f 329 1 (by decide)
  refine T_leq (fun x15 e16 => ?_)
  first | (have w17 := z_wx e16 (by omega)) | (have w17 := z_wr e16)
  exact hr s t0 x15 c f (by omega) (by omega) (by omega) (by first | exact y_L.cg p1 (by omega) | exact y_K.L p5 (by omega) (by omega)) p2 (by first | exact p3 | exact y_DD.z (by omega) (by omega)) p4 (by first | exact p5 | exact y_K.b0 (by omega) | exact y_K.k0 (by omega) | exact y_K.bk (by omega)) (by omega)
theorem sl_X12_least_309_L74 {fu : Nat} (hfu : 8589934592 ≤ fu) (r0 : z_M) (a1 : Int) (a2 : Int) (a3 : Int) (b1 : -2147483648 ≤ a1 ∧ a1 ≤ 2147483647) (b2 : 12 ≤ a2 ∧ a2 ≤ 999) (b3 : 0 ≤ a3 ∧ a3 ≤ 200) {k : z_M → Int → z_O} (hk : ∀ (s' : z_M) (v4 : Int), z_CI s' → z_Fr R_X12_least_309 r0 s' → (0 ≤ v4 ∧ v4 ≤ 1) → (s' 309 43 = 0 ∨ s' 309 36 = 0) → (y_TA s') → (y_DD s') → (y_B s') → (y_K s') → z_T (k s' v4) (P_X12_least_309 r0)) : ∀ (F : Nat) (s : z_M) (a4 : Int) (a5 : Int), z_CI s → z_Fr R_X12_least_309 r0 s → (0 ≤ a4 ∧ a4 ≤ 1) → (0 ≤ a5 ∧ a5 ≤ 200) → (s 309 43 = 0 ∨ s 309 36 = 0) → (y_L s a3) → (y_TA s) → (y_DD s) → (y_B s) → (y_K s) → (2147483647 - a5 < (F : Int)) → z_T (fX12_least_L74 fu 309 a1 a2 a3 F s a4 a5 k) (P_X12_least_309 r0) := by
  intro F
  induction F with
  | zero =>
    intro s a4 a5 c f b4 b5 i0 i1 i2 i3 i4 i5 hm
    have u55 := CI_b c (k := 309) (j := 20) bd_309_20
    have u56 := CI_b c (k := 309) (j := 36) bd_309_36
    have u57 := CI_b c (k := 309) (j := 43) bd_309_43
    have u58 := CI_b c (k := 309) (j := 44) bd_309_44
    have u59 := CI_b c (k := 309) (j := 58) bd_309_58
    have u60 := CI_b c (k := 316) (j := 0) bd_316_0
    have u61 := CI_b c (k := 329) (j := 0) bd_329_0
    have u62 := CI_b c (k := 329) (j := 1) bd_329_1
    exfalso; omega
  | succ F ih =>
    intro s a4 a5 c f b4 b5 i0 i1 i2 i3 i4 i5 hm
    refine T_of (fX12_least_L74.eq_2 ..) ?_
    have u1 := CI_b c (k := 309) (j := 20) bd_309_20
    have u2 := CI_b c (k := 309) (j := 36) bd_309_36
    have u3 := CI_b c (k := 309) (j := 43) bd_309_43
    have u4 := CI_b c (k := 309) (j := 44) bd_309_44
    have u5 := CI_b c (k := 309) (j := 58) bd_309_58
    have u6 := CI_b c (k := 316) (j := 0) bd_316_0
    have u7 := CI_b c (k := 329) (j := 0) bd_329_0
    have u8 := CI_b c (k := 329) (j := 1) bd_329_1
    have t9 : s 309 20 = r0 309 20 := f 309 20 (by decide)
    have t10 : s 309 44 = r0 309 44 := f 309 44 (by decide)
    have t11 : s 309 58 = r0 309 58 := f 309 58 (by decide)
    have t12 : s 316 0 = r0 316 0 := f 316 0 (by decide)
    have t13 : s 329 0 = r0 329 0 := f 329 0 (by decide)
    have t14 : s 329 1 = r0 329 1 := f 329 1 (by decide)
    refine T_ite (fun h15 => ?_) (fun h15 => ?_)
    · exact hk s a4 c f (by omega) (by omega) i2 (by first | exact i3 | exact y_DD.z (by omega) (by omega)) i4 (by first | exact i5 | exact y_K.b0 (by omega) | exact y_K.k0 (by omega) | exact y_K.bk (by omega))
    · refine T_ite (fun h16 => ?_) (fun h16 => ?_)
      · exact hk s a4 c f (by omega) (by omega) i2 (by first | exact i3 | exact y_DD.z (by omega) (by omega)) i4 (by first | exact i5 | exact y_K.b0 (by omega) | exact y_K.k0 (by omega) | exact y_K.bk (by omega))
      · refine T_if1 (by decide +kernel) ?_
        refine T_let 3438 (by decide +kernel) ?_
        refine T_if1 (z_ixl (n := 201) (by decide +kernel) (by omega) (by omega)) ?_
        refine T_leq (fun x17 e18 => ?_)
        have u19 := CI_b c (k := 3438) (j := a5) (bdr_3438 a5)
        refine T_if1 (by decide +kernel) ?_
        refine T_let 3438 (by decide +kernel) ?_
        refine T_leq (fun x20 e21 => ?_)
        first | (have w22 := z_wx e21 (by omega)) | (have w22 := z_wr e21)
        have n23 := y_L.at i1 (i := a5) (j := x20) (by omega) (by omega) (by omega)
        refine T_if1 (z_ixl (n := 201) (by decide +kernel) (by omega) (by omega)) ?_
        refine T_leq (fun x24 e25 => ?_)
        have u26 := CI_b c (k := 3438) (j := x20) (bdr_3438 x20)
        refine T_leq (fun x27 e28 => ?_)
        first | (have w29 := z_wx e28 (by omega)) | (have w29 := z_wr e28)
        refine T_if1 (by decide +kernel) ?_
        refine T_useI (sf_X12_longAs_309 hfu s c x17 x27 (by omega) (by omega) i4 (by omega) (by omega)) (fun v35 s30 hq => ?_)
        obtain ⟨c31, f32, o36, o37, o38, ⟨x34, rfl, b39, b40⟩⟩ := hq
        refine T_vI ?_
        have f33 := z_Fr.tr (R := R_X12_least_309) f f32 rs_X12_longAs_309__X12_least_309
        have t41 : s30 309 20 = s 309 20 := f32 309 20 (by decide)
        have t42 : s30 309 44 = s 309 44 := f32 309 44 (by decide)
        have t43 : s30 309 58 = s 309 58 := f32 309 58 (by decide)
        have t44 : s30 316 0 = s 316 0 := f32 316 0 (by decide)
        have t45 : s30 329 0 = s 329 0 := f32 329 0 (by decide)
        have t46 : s30 329 1 = s 329 1 := f32 329 1 (by decide)
        have u47 := CI_b c31 (k := 309) (j := 36) bd_309_36
        have u48 := CI_b c31 (k := 309) (j := 43) bd_309_43
        have r49 := y_L.fr i1 (f32 309 20 (by decide)) (fun b => f32 3438 b (nr_X12_longAs_309__3438 b))
        have r50 := y_TA.fr i2 (fun a b h => f32 a b (nq_X12_longAs_309__316 a b h)) (fun a b h => f32 a b (nq_X12_longAs_309__346 a b h)) (fun a b h => f32 a b (nq_X12_longAs_309__361 a b h))
        have r51 := y_DD.fr i3 (f32 329 0 (by decide)) (f32 329 1 (by decide)) (fun b => f32 359 b (nr_X12_longAs_309__359 b)) (fun b => f32 374 b (nr_X12_longAs_309__374 b))
        have r52 := y_B.fr i4 (f32 309 20 (by decide)) (f32 316 0 (by decide)) (fun b => f32 3220 b (nr_X12_longAs_309__3220 b)) (fun b => f32 3221 b (nr_X12_longAs_309__3221 b)) (fun b => f32 3222 b (nr_X12_longAs_309__3222 b)) (fun b => f32 361 b (nr_X12_longAs_309__361 b))
        have r53 := y_K.fr i5 (by omega) (by omega) (f32 309 44 (by decide)) (f32 309 20 (by decide)) (f32 309 58 (by decide)) (fun b => f32 3438 b (nr_X12_longAs_309__3438 b)) (fun b => f32 3220 b (nr_X12_longAs_309__3220 b)) (fun a b h => f32 a b (nq_X12_longAs_309__3452 a b h))
        refine T_ite (fun h54 => ?_) (fun h54 => ?_)
        · exact sj_X12_least_309_J116 hfu r0 s30 c31 f33 a1 a2 a3 a5 0 (by omega) (by omega) (by omega) (by omega) (by omega) (by omega) (by first | exact y_L.cg r49 (by omega) | exact y_K.L r53 (by omega) (by omega)) r50 (by first | exact r51 | exact y_DD.z (by omega) (by omega)) r52 (by first | exact r53 | exact y_K.b0 (by omega) | exact y_K.k0 (by omega) | exact y_K.bk (by omega)) (2147483647 - a5) (by omega) (fun s' v4 v5 c' f' w4 w5 z0 z1 z2 z3 z4 z5 pg => ih s' v4 v5 c' f' w4 w5 z0 z1 z2 z3 z4 z5 (by omega)) hk
        · exact sj_X12_least_309_J116 hfu r0 s30 c31 f33 a1 a2 a3 a5 1 (by omega) (by omega) (by omega) (by omega) (by omega) (by omega) (by first | exact y_L.cg r49 (by omega) | exact y_K.L r53 (by omega) (by omega)) r50 (by first | exact r51 | exact y_DD.z (by omega) (by omega)) r52 (by first | exact r53 | exact y_K.b0 (by omega) | exact y_K.k0 (by omega) | exact y_K.bk (by omega)) (2147483647 - a5) (by omega) (fun s' v4 v5 c' f' w4 w5 z0 z1 z2 z3 z4 z5 pg => ih s' v4 v5 c' f' w4 w5 z0 z1 z2 z3 z4 z5 (by omega)) hk
theorem sj_X12_least_309_J124 {fu : Nat} (hfu : 8589934592 ≤ fu) (r0 s : z_M) (c : z_CI s) (f : z_Fr R_X12_least_309 r0 s) (a1 : Int) (a2 : Int) (a4 : Int) (b1 : -2147483648 ≤ a1 ∧ a1 ≤ 2147483647) (b2 : 12 ≤ a2 ∧ a2 ≤ 999) (b4 : 0 ≤ a4 ∧ a4 ≤ 1) (p0 : s 309 43 = 0 ∨ s 309 36 = 0) (p1 : y_TA s) (p2 : y_DD s) (p3 : y_B s) (p4 : y_K s) (M : Int) (pm : 2147483647 - a2 ≤ M) {r : z_M → Int → z_O} {k : z_M → z_O} (hr : ∀ (s' : z_M) (v2 : Int), z_CI s' → z_Fr R_X12_least_309 r0 s' → (12 ≤ v2 ∧ v2 ≤ 1000) → (s' 309 43 = 0 ∨ s' 309 36 = 0) → (y_TA s') → (y_DD s') → (y_B s') → (y_K s') → (2147483647 - v2 < M) → z_T (r s' v2) (P_X12_least_309 r0)) (hk : ∀ (s' : z_M), z_CI s' → z_Fr R_X12_least_309 r0 s' → (y_TA s') → (y_DD s') → (y_B s') → (y_K s') → z_T (k s') (P_X12_least_309 r0)) : z_T (fX12_least_J124 fu s 309 a1 a2 a4 r k) (P_X12_least_309 r0) := by
  refine T_of (fX12_least_J124.eq_1 ..) ?_
  have u1 := CI_b c (k := 309) (j := 20) bd_309_20
  have u2 := CI_b c (k := 309) (j := 36) bd_309_36
  have u3 := CI_b c (k := 309) (j := 43) bd_309_43
  have u4 := CI_b c (k := 309) (j := 44) bd_309_44
  have u5 := CI_b c (k := 309) (j := 58) bd_309_58
  have u6 := CI_b c (k := 316) (j := 0) bd_316_0
  have u7 := CI_b c (k := 329) (j := 0) bd_329_0
  have u8 := CI_b c (k := 329) (j := 1) bd_329_1
  have t9 : s 309 20 = r0 309 20 := f 309 20 (by decide)
  have t10 : s 309 44 = r0 309 44 := f 309 44 (by decide)
  have t11 : s 309 58 = r0 309 58 := f 309 58 (by decide)
  have t12 : s 316 0 = r0 316 0 := f 316 0 (by decide)
  have t13 : s 329 0 = r0 329 0 := f 329 0 (by decide)
  have t14 : s 329 1 = r0 329 1 := f 329 1 (by decide)
  refine T_ite (fun h15 => ?_) (fun h15 => ?_)
  · refine T_leq (fun x16 e17 => ?_)
    first | (have w18 := z_wx e17 (by omega)) | (have w18 := z_wr e17)
    exact hr s x16 c f (by omega) (by omega) p1 (by first | exact p2 | exact y_DD.z (by omega) (by omega)) p3 (by first | exact p4 | exact y_K.b0 (by omega) | exact y_K.k0 (by omega) | exact y_K.bk (by omega)) (by omega)
  · exact T_ret ⟨c, f, p1, (by first | exact p2 | exact y_DD.z (by omega) (by omega)), p3, (by first | exact p4 | exact y_K.b0 (by omega) | exact y_K.k0 (by omega) | exact y_K.bk (by omega)), ⟨a2, rfl, by omega, by omega⟩⟩
theorem sj_X12_least_309_J69 {fu : Nat} (hfu : 8589934592 ≤ fu) (r0 s : z_M) (c : z_CI s) (f : z_Fr R_X12_least_309 r0 s) (a1 : Int) (a2 : Int) (a3 : Int) (t0 : Int) (b1 : -2147483648 ≤ a1 ∧ a1 ≤ 2147483647) (b2 : 12 ≤ a2 ∧ a2 ≤ 999) (b3 : 0 ≤ a3 ∧ a3 ≤ 200) (d0 : 0 ≤ t0 ∧ t0 ≤ 1) (p0 : s 309 43 = 0 ∨ s 309 36 = 0) (p1 : y_L s a3) (p2 : y_TA s) (p3 : y_DD s) (p4 : y_B s) (p5 : y_K s) (M : Int) (pm : 2147483647 - a2 ≤ M) {r : z_M → Int → z_O} {k : z_M → z_O} (hr : ∀ (s' : z_M) (v2 : Int), z_CI s' → z_Fr R_X12_least_309 r0 s' → (12 ≤ v2 ∧ v2 ≤ 1000) → (s' 309 43 = 0 ∨ s' 309 36 = 0) → (y_TA s') → (y_DD s') → (y_B s') → (y_K s') → (2147483647 - v2 < M) → z_T (r s' v2) (P_X12_least_309 r0)) (hk : ∀ (s' : z_M), z_CI s' → z_Fr R_X12_least_309 r0 s' → (y_TA s') → (y_DD s') → (y_B s') → (y_K s') → z_T (k s') (P_X12_least_309 r0)) : z_T (fX12_least_J69 fu s 309 a1 a2 a3 t0 r k) (P_X12_least_309 r0) := by
  refine T_of (fX12_least_J69.eq_1 ..) ?_
  have u1 := CI_b c (k := 309) (j := 20) bd_309_20
  have u2 := CI_b c (k := 309) (j := 36) bd_309_36
  have u3 := CI_b c (k := 309) (j := 43) bd_309_43
  have u4 := CI_b c (k := 309) (j := 44) bd_309_44
  have u5 := CI_b c (k := 309) (j := 58) bd_309_58
  have u6 := CI_b c (k := 316) (j := 0) bd_316_0
  have u7 := CI_b c (k := 329) (j := 0) bd_329_0
  have u8 := CI_b c (k := 329) (j := 1) bd_329_1
  have t9 : s 309 20 = r0 309 20 := f 309 20 (by decide)
  have t10 : s 309 44 = r0 309 44 := f 309 44 (by decide)
  have t11 : s 309 58 = r0 309 58 := f 309 58 (by decide)
  have t12 : s 316 0 = r0 316 0 := f 316 0 (by decide)
  have t13 : s 329 0 = r0 329 0 := f 329 0 (by decide)
  have t14 : s 329 1 = r0 329 1 := f 329 1 (by decide)
  refine sl_X12_least_309_L74 hfu r0 a1 a2 a3 (by omega) (by omega) (by omega) (fun s15 y18 c16 f17 b19 g20 g21 g22 g23 g24 => ?_) fu s t0 0 c f (by omega) (by omega) (by omega) (by first | exact y_L.cg p1 (by omega) | exact y_K.L p5 (by omega) (by omega)) p2 (by first | exact p3 | exact y_DD.z (by omega) (by omega)) p4 (by first | exact p5 | exact y_K.b0 (by omega) | exact y_K.k0 (by omega) | exact y_K.bk (by omega)) (by omega)
  have u25 := CI_b c16 (k := 309) (j := 20) bd_309_20
  have u26 := CI_b c16 (k := 309) (j := 36) bd_309_36
  have u27 := CI_b c16 (k := 309) (j := 43) bd_309_43
  have u28 := CI_b c16 (k := 309) (j := 44) bd_309_44
  have u29 := CI_b c16 (k := 309) (j := 58) bd_309_58
  have u30 := CI_b c16 (k := 316) (j := 0) bd_316_0
  have u31 := CI_b c16 (k := 329) (j := 0) bd_329_0
  have u32 := CI_b c16 (k := 329) (j := 1) bd_329_1
  have t33 : s15 309 20 = r0 309 20 := f17 309 20 (by decide)
  have t34 : s15 309 44 = r0 309 44 := f17 309 44 (by decide)
  have t35 : s15 309 58 = r0 309 58 := f17 309 58 (by decide)
  have t36 : s15 316 0 = r0 316 0 := f17 316 0 (by decide)
  have t37 : s15 329 0 = r0 329 0 := f17 329 0 (by decide)
  have t38 : s15 329 1 = r0 329 1 := f17 329 1 (by decide)
  exact sj_X12_least_309_J124 hfu r0 s15 c16 f17 a1 a2 y18 (by omega) (by omega) (by omega) (by omega) g21 (by first | exact g22 | exact y_DD.z (by omega) (by omega)) g23 (by first | exact g24 | exact y_K.b0 (by omega) | exact y_K.k0 (by omega) | exact y_K.bk (by omega)) M (by omega) (fun s' v2 c' f' w2 z0 z1 z2 z3 z4 pg => hr s' v2 c' f' w2 z0 z1 z2 z3 z4 (by omega)) hk
theorem sl_X12_least_309_L40 {fu : Nat} (hfu : 8589934592 ≤ fu) (r0 : z_M) (a1 : Int) (b1 : -2147483648 ≤ a1 ∧ a1 ≤ 2147483647) {k : z_M → z_O} (hk : ∀ (s' : z_M), z_CI s' → z_Fr R_X12_least_309 r0 s' → (y_TA s') → (y_DD s') → (y_B s') → (y_K s') → z_T (k s') (P_X12_least_309 r0)) : ∀ (F : Nat) (s : z_M) (a2 : Int), z_CI s → z_Fr R_X12_least_309 r0 s → (12 ≤ a2 ∧ a2 ≤ 1000) → (s 309 43 = 0 ∨ s 309 36 = 0) → (y_TA s) → (y_DD s) → (y_B s) → (y_K s) → (2147483647 - a2 < (F : Int)) → z_T (fX12_least_L40 fu 309 a1 F s a2 k) (P_X12_least_309 r0) := by
  intro F
  induction F with
  | zero =>
    intro s a2 c f b2 i0 i1 i2 i3 i4 hm
    have u42 := CI_b c (k := 309) (j := 20) bd_309_20
    have u43 := CI_b c (k := 309) (j := 36) bd_309_36
    have u44 := CI_b c (k := 309) (j := 43) bd_309_43
    have u45 := CI_b c (k := 309) (j := 44) bd_309_44
    have u46 := CI_b c (k := 309) (j := 58) bd_309_58
    have u47 := CI_b c (k := 316) (j := 0) bd_316_0
    have u48 := CI_b c (k := 329) (j := 0) bd_329_0
    have u49 := CI_b c (k := 329) (j := 1) bd_329_1
    exfalso; omega
  | succ F ih =>
    intro s a2 c f b2 i0 i1 i2 i3 i4 hm
    refine T_of (fX12_least_L40.eq_2 ..) ?_
    have u1 := CI_b c (k := 309) (j := 20) bd_309_20
    have u2 := CI_b c (k := 309) (j := 36) bd_309_36
    have u3 := CI_b c (k := 309) (j := 43) bd_309_43
    have u4 := CI_b c (k := 309) (j := 44) bd_309_44
    have u5 := CI_b c (k := 309) (j := 58) bd_309_58
    have u6 := CI_b c (k := 316) (j := 0) bd_316_0
    have u7 := CI_b c (k := 329) (j := 0) bd_329_0
    have u8 := CI_b c (k := 329) (j := 1) bd_329_1
    have t9 : s 309 20 = r0 309 20 := f 309 20 (by decide)
    have t10 : s 309 44 = r0 309 44 := f 309 44 (by decide)
    have t11 : s 309 58 = r0 309 58 := f 309 58 (by decide)
    have t12 : s 316 0 = r0 316 0 := f 316 0 (by decide)
    have t13 : s 329 0 = r0 329 0 := f 329 0 (by decide)
    have t14 : s 329 1 = r0 329 1 := f 329 1 (by decide)
    refine T_ite (fun h15 => ?_) (fun h15 => ?_)
    · exact hk s c f i1 (by first | exact i2 | exact y_DD.z (by omega) (by omega)) i3 (by first | exact i4 | exact y_K.b0 (by omega) | exact y_K.k0 (by omega) | exact y_K.bk (by omega))
    · refine T_if1 (by decide +kernel) ?_
      refine T_let 312 (by decide +kernel) ?_
      refine T_if1 (z_ixl (n := 9) (by decide +kernel) (by omega) (by omega)) ?_
      refine T_leq (fun x16 e17 => ?_)
      have u18 := CI_b c (k := 312) (j := 3) (bdr_312 3)
      refine T_if1 (by decide +kernel) ?_
      refine T_useI (sf_X12_breaks_309 hfu s c a2 x16 (by omega) (by omega) i3) (fun v24 s19 hq => ?_)
      obtain ⟨c20, f21, o25, o26, ⟨x23, rfl, b27, b28, o29⟩⟩ := hq
      refine T_vI ?_
      have f22 := z_Fr.tr (R := R_X12_least_309) f f21 rs_X12_breaks_309__X12_least_309
      have t30 : s19 309 20 = s 309 20 := f21 309 20 (by decide)
      have t31 : s19 309 44 = s 309 44 := f21 309 44 (by decide)
      have t32 : s19 309 58 = s 309 58 := f21 309 58 (by decide)
      have t33 : s19 316 0 = s 316 0 := f21 316 0 (by decide)
      have t34 : s19 329 0 = s 329 0 := f21 329 0 (by decide)
      have t35 : s19 329 1 = s 329 1 := f21 329 1 (by decide)
      have u36 := CI_b c20 (k := 309) (j := 36) bd_309_36
      have u37 := CI_b c20 (k := 309) (j := 43) bd_309_43
      have r38 := y_TA.fr i1 (fun a b h => f21 a b (nq_X12_breaks_309__316 a b h)) (fun a b h => f21 a b (nq_X12_breaks_309__346 a b h)) (fun a b h => f21 a b (nq_X12_breaks_309__361 a b h))
      have r39 := y_DD.fr i2 (f21 329 0 (by decide)) (f21 329 1 (by decide)) (fun b => f21 359 b (nr_X12_breaks_309__359 b)) (fun b => f21 374 b (nr_X12_breaks_309__374 b))
      have r40 := y_B.fr i3 (f21 309 20 (by decide)) (f21 316 0 (by decide)) (fun b => f21 3220 b (nr_X12_breaks_309__3220 b)) (fun b => f21 3221 b (nr_X12_breaks_309__3221 b)) (fun b => f21 3222 b (nr_X12_breaks_309__3222 b)) (fun b => f21 361 b (nr_X12_breaks_309__361 b))
      refine T_ite (fun h41 => ?_) (fun h41 => ?_)
      · exact sj_X12_least_309_J69 hfu r0 s19 c20 f22 a1 a2 x23 0 (by omega) (by omega) (by omega) (by omega) (by omega) (by first | exact y_L.cg o29 (by omega)) r38 (by first | exact r39 | exact y_DD.z (by omega) (by omega)) r40 (by first | exact y_K.b0 (by omega) | exact y_K.k0 (by omega) | exact y_K.bk (by omega)) (2147483647 - a2) (by omega) (fun s' v2 c' f' w2 z0 z1 z2 z3 z4 pg => ih s' v2 c' f' w2 z0 z1 z2 z3 z4 (by omega)) hk
      · exact sj_X12_least_309_J69 hfu r0 s19 c20 f22 a1 a2 x23 1 (by omega) (by omega) (by omega) (by omega) (by omega) (by first | exact y_L.cg o29 (by omega)) r38 (by first | exact r39 | exact y_DD.z (by omega) (by omega)) r40 (by first | exact y_K.b0 (by omega) | exact y_K.k0 (by omega) | exact y_K.bk (by omega)) (2147483647 - a2) (by omega) (fun s' v2 c' f' w2 z0 z1 z2 z3 z4 pg => ih s' v2 c' f' w2 z0 z1 z2 z3 z4 (by omega)) hk
theorem sj_X12_least_309_J22 {fu : Nat} (hfu : 8589934592 ≤ fu) (r0 s : z_M) (c : z_CI s) (f : z_Fr R_X12_least_309 r0 s) (a1 : Int) (t1 : Int) (b1 : -2147483648 ≤ a1 ∧ a1 ≤ 2147483647) (d1 : 0 ≤ t1 ∧ t1 ≤ 1) (p0 : y_TA s) (p1 : y_DD s) (p2 : y_B s) (p3 : y_K s) : z_T (fX12_least_J22 fu s 309 a1 309 t1) (P_X12_least_309 r0) := by
  refine T_of (fX12_least_J22.eq_1 ..) ?_
  have u1 := CI_b c (k := 309) (j := 20) bd_309_20
  have u2 := CI_b c (k := 309) (j := 36) bd_309_36
  have u3 := CI_b c (k := 309) (j := 43) bd_309_43
  have u4 := CI_b c (k := 309) (j := 44) bd_309_44
  have u5 := CI_b c (k := 309) (j := 58) bd_309_58
  have u6 := CI_b c (k := 316) (j := 0) bd_316_0
  have u7 := CI_b c (k := 329) (j := 0) bd_329_0
  have u8 := CI_b c (k := 329) (j := 1) bd_329_1
  have t9 : s 309 20 = r0 309 20 := f 309 20 (by decide)
  have t10 : s 309 44 = r0 309 44 := f 309 44 (by decide)
  have t11 : s 309 58 = r0 309 58 := f 309 58 (by decide)
  have t12 : s 316 0 = r0 316 0 := f 316 0 (by decide)
  have t13 : s 329 0 = r0 329 0 := f 329 0 (by decide)
  have t14 : s 329 1 = r0 329 1 := f 329 1 (by decide)
  refine T_if1 (by decide +kernel) ?_
  refine T_useI (sf_X12_bad_309 hfu s c t1 1 1 (by omega) (by omega) (by omega) (by omega)) (fun v20 s15 hq => ?_)
  obtain ⟨c16, f17, o21, ⟨x19, rfl, b22, b23, o24, o25⟩⟩ := hq
  refine T_vI ?_
  have f18 := z_Fr.tr (R := R_X12_least_309) f f17 rs_X12_bad_309__X12_least_309
  have t26 : s15 309 20 = s 309 20 := f17 309 20 (by decide)
  have t27 : s15 309 36 = s 309 36 := f17 309 36 (by decide)
  have t28 : s15 309 43 = s 309 43 := f17 309 43 (by decide)
  have t29 : s15 309 44 = s 309 44 := f17 309 44 (by decide)
  have t30 : s15 309 58 = s 309 58 := f17 309 58 (by decide)
  have t31 : s15 316 0 = s 316 0 := f17 316 0 (by decide)
  have t32 : s15 329 0 = s 329 0 := f17 329 0 (by decide)
  have t33 : s15 329 1 = s 329 1 := f17 329 1 (by decide)
  have r34 := y_TA.fr p0 (fun a b h => f17 a b (nq_X12_bad_309__316 a b h)) (fun a b h => f17 a b (nq_X12_bad_309__346 a b h)) (fun a b h => f17 a b (nq_X12_bad_309__361 a b h))
  have r35 := y_DD.fr p1 (f17 329 0 (by decide)) (f17 329 1 (by decide)) (fun b => f17 359 b (nr_X12_bad_309__359 b)) (fun b => f17 374 b (nr_X12_bad_309__374 b))
  have r36 := y_B.fr p2 (f17 309 20 (by decide)) (f17 316 0 (by decide)) (fun b => f17 3220 b (nr_X12_bad_309__3220 b)) (fun b => f17 3221 b (nr_X12_bad_309__3221 b)) (fun b => f17 3222 b (nr_X12_bad_309__3222 b)) (fun b => f17 361 b (nr_X12_bad_309__361 b))
  have r37 := y_K.fr p3 (by omega) (by omega) (f17 309 44 (by decide)) (f17 309 20 (by decide)) (f17 309 58 (by decide)) (fun b => f17 3438 b (nr_X12_bad_309__3438 b)) (fun b => f17 3220 b (nr_X12_bad_309__3220 b)) (fun a b h => f17 a b (nq_X12_bad_309__3452 a b h))
  refine T_ite (fun h38 => ?_) (fun h38 => ?_)
  · refine T_if1 ⟨(by decide +kernel), by unfold z_bl; omega⟩ ?_
    refine T_upg c16 bd_309_43 (by omega) (fun s39 c40 g42 g43 e44 => ?_)
    have f41 := z_Fr.upf (R := R_X12_least_309) f18 g42 g43 (Or.inr (Or.inr (⟨rfl, by decide⟩)))
    have t45 : s39 309 20 = s 309 20 := (g43 20 (by decide)).trans t26
    have t46 : s39 309 36 = s 309 36 := (g43 36 (by decide)).trans t27
    have t47 : s39 309 44 = s 309 44 := (g43 44 (by decide)).trans t29
    have t48 : s39 309 58 = s 309 58 := (g43 58 (by decide)).trans t30
    have t49 : s39 316 0 = s 316 0 := (g42 316 0 (by decide)).trans t31
    have t50 : s39 329 0 = s 329 0 := (g42 329 0 (by decide)).trans t32
    have t51 : s39 329 1 = s 329 1 := (g42 329 1 (by decide)).trans t33
    have u52 := CI_b c40 (k := 309) (j := 43) bd_309_43
    have r53 := y_TA.fr r34 (fun a b h => g42 a b (by omega)) (fun a b h => g42 a b (by omega)) (fun a b h => g42 a b (by omega))
    have r54 := y_DD.fr r35 (g42 329 0 (by decide)) (g42 329 1 (by decide)) (fun b => g42 359 b (by decide)) (fun b => g42 374 b (by decide))
    have r55 := y_B.fr r36 (g43 20 (by decide)) (g42 316 0 (by decide)) (fun b => g42 3220 b (by decide)) (fun b => g42 3221 b (by decide)) (fun b => g42 3222 b (by decide)) (fun b => g42 361 b (by decide))
    have r56 := y_K.fr r37 (by omega) (by omega) (g43 44 (by decide)) (g43 20 (by decide)) (g43 58 (by decide)) (fun b => g42 3438 b (by decide)) (fun b => g42 3220 b (by decide)) (fun a b h => g42 a b (by omega))
    clear t26
    clear t27
    clear t29
    clear t30
    clear t31
    clear t32
    clear t33
    refine sl_X12_least_309_L40 hfu r0 a1 (by omega) (fun s57 c58 f59 g60 g61 g62 g63 => ?_) fu s39 12 c40 f41 (by omega) (by omega) r53 (by first | exact r54 | exact y_DD.z (by omega) (by omega)) r55 (by first | exact r56 | exact y_K.b0 (by omega) | exact y_K.k0 (by omega) | exact y_K.bk (by omega)) (by omega)
    have u64 := CI_b c58 (k := 309) (j := 20) bd_309_20
    have u65 := CI_b c58 (k := 309) (j := 36) bd_309_36
    have u66 := CI_b c58 (k := 309) (j := 43) bd_309_43
    have u67 := CI_b c58 (k := 309) (j := 44) bd_309_44
    have u68 := CI_b c58 (k := 309) (j := 58) bd_309_58
    have u69 := CI_b c58 (k := 316) (j := 0) bd_316_0
    have u70 := CI_b c58 (k := 329) (j := 0) bd_329_0
    have u71 := CI_b c58 (k := 329) (j := 1) bd_329_1
    have t72 : s57 309 20 = r0 309 20 := f59 309 20 (by decide)
    have t73 : s57 309 44 = r0 309 44 := f59 309 44 (by decide)
    have t74 : s57 309 58 = r0 309 58 := f59 309 58 (by decide)
    have t75 : s57 316 0 = r0 316 0 := f59 316 0 (by decide)
    have t76 : s57 329 0 = r0 329 0 := f59 329 0 (by decide)
    have t77 : s57 329 1 = r0 329 1 := f59 329 1 (by decide)
    exact T_ret ⟨c58, f59, g60, (by first | exact g61 | exact y_DD.z (by omega) (by omega)), g62, (by first | exact g63 | exact y_K.b0 (by omega) | exact y_K.k0 (by omega) | exact y_K.bk (by omega)), ⟨(-1), rfl, by omega, by omega⟩⟩
  · exact T_ret ⟨c16, f18, r34, (by first | exact r35 | exact y_DD.z (by omega) (by omega)), r36, (by first | exact r37 | exact y_K.b0 (by omega) | exact y_K.k0 (by omega) | exact y_K.bk (by omega)), ⟨0, rfl, by omega, by omega⟩⟩
theorem sf_X12_least_309 {fu : Nat} (hfu : 8589934592 ≤ fu) (r0 : z_M) (c0 : z_CI r0) (a1 : Int) (b1 : -2147483648 ≤ a1 ∧ a1 ≤ 2147483647) (p0 : y_TA r0) (p1 : y_DD r0) (p2 : y_B r0) (p3 : y_K r0) : z_T (fX12_least fu r0 309 a1) (P_X12_least_309 r0) := by
  refine T_of (fX12_least.eq_1 ..) ?_
  have u1 := CI_b c0 (k := 309) (j := 20) bd_309_20
  have u2 := CI_b c0 (k := 309) (j := 36) bd_309_36
  have u3 := CI_b c0 (k := 309) (j := 43) bd_309_43
  have u4 := CI_b c0 (k := 309) (j := 44) bd_309_44
  have u5 := CI_b c0 (k := 309) (j := 58) bd_309_58
  have u6 := CI_b c0 (k := 316) (j := 0) bd_316_0
  have u7 := CI_b c0 (k := 329) (j := 0) bd_329_0
  have u8 := CI_b c0 (k := 329) (j := 1) bd_329_1
  refine T_if1 (by decide +kernel) ?_
  refine T_upg c0 bd_309_0 (by omega) (fun s9 c10 g12 g13 e14 => ?_)
  have f11 := z_Fr.upf (R := R_X12_least_309) z_Fr.rf g12 g13 (Or.inr (Or.inr (⟨rfl, by decide⟩)))
  have t15 : s9 309 20 = r0 309 20 := g13 20 (by decide)
  have t16 : s9 309 36 = r0 309 36 := g13 36 (by decide)
  have t17 : s9 309 43 = r0 309 43 := g13 43 (by decide)
  have t18 : s9 309 44 = r0 309 44 := g13 44 (by decide)
  have t19 : s9 309 58 = r0 309 58 := g13 58 (by decide)
  have t20 : s9 316 0 = r0 316 0 := g12 316 0 (by decide)
  have t21 : s9 329 0 = r0 329 0 := g12 329 0 (by decide)
  have t22 : s9 329 1 = r0 329 1 := g12 329 1 (by decide)
  have r23 := y_TA.fr p0 (fun a b h => g12 a b (by omega)) (fun a b h => g12 a b (by omega)) (fun a b h => g12 a b (by omega))
  have r24 := y_DD.fr p1 (g12 329 0 (by decide)) (g12 329 1 (by decide)) (fun b => g12 359 b (by decide)) (fun b => g12 374 b (by decide))
  have r25 := y_B.fr p2 (g13 20 (by decide)) (g12 316 0 (by decide)) (fun b => g12 3220 b (by decide)) (fun b => g12 3221 b (by decide)) (fun b => g12 3222 b (by decide)) (fun b => g12 361 b (by decide))
  have r26 := y_K.fr p3 (by omega) (by omega) (g13 44 (by decide)) (g13 20 (by decide)) (g13 58 (by decide)) (fun b => g12 3438 b (by decide)) (fun b => g12 3220 b (by decide)) (fun a b h => g12 a b (by omega))
  refine T_useI (sf_X12_in hfu s9 c10 a1 1 200 (by omega) (by omega) (by omega)) (fun v32 s27 hq => ?_)
  obtain ⟨c28, f29, ⟨x31, rfl, b33, b34, o35⟩⟩ := hq
  refine T_vI ?_
  have q36 := z_Fr.eq (fun a b h => h) f29
  subst q36
  refine T_ite (fun h37 => ?_) (fun h37 => ?_)
  · exact sj_X12_least_309_J22 hfu r0 s9 c10 f11 a1 0 (by omega) (by omega) r23 (by first | exact r24 | exact y_DD.z (by omega) (by omega)) r25 (by first | exact r26 | exact y_K.b0 (by omega) | exact y_K.k0 (by omega) | exact y_K.bk (by omega))
  · exact sj_X12_least_309_J22 hfu r0 s9 c10 f11 a1 1 (by omega) (by omega) r23 (by first | exact r24 | exact y_DD.z (by omega) (by omega)) r25 (by first | exact r26 | exact y_K.b0 (by omega) | exact y_K.k0 (by omega) | exact y_K.bk (by omega))
abbrev R_X12_costsBy_309 (a b : Int) : Prop := (3224 ≤ a ∧ a ≤ 3440) ∨ (a = 309 ∧ (b = 35 ∨ b = 36 ∨ b = 38 ∨ b = 39 ∨ b = 43 ∨ b = 44))
abbrev P_X12_costsBy_309 (r0 : z_M) : z_V → z_M → Prop := fun v s' => z_CI s' ∧ z_Fr R_X12_costsBy_309 r0 s' ∧ (s' 309 43 = 0 ∨ s' 309 36 = 0) ∧ (∃ x, v = vL x ∧ -9223372036854775808 ≤ x ∧ x ≤ 9223372036854775807)
theorem rs_X12_breaks_309__X12_costsBy_309 (a b : Int) (h : R_X12_breaks_309 a b) : R_X12_costsBy_309 a b := (h.elim (fun h => (Or.inl (⟨by omega, by omega⟩))) (fun h => (Or.inr (⟨h.1, by omega⟩))))
theorem rs_X12_costs_309__X12_costsBy_309 (a b : Int) (h : R_X12_costs_309 a b) : R_X12_costsBy_309 a b := (h.elim (fun h => (Or.inl (⟨by omega, by omega⟩))) (fun h => (Or.inr (⟨h.1, by omega⟩))))
theorem sf_X12_costsBy_309 {fu : Nat} (hfu : 8589934592 ≤ fu) (r0 : z_M) (c0 : z_CI r0) (a1 : Int) (b1 : -2147483648 ≤ a1 ∧ a1 ≤ 2147483647) (p0 : y_B r0) : z_T (fX12_costsBy fu r0 309 a1) (P_X12_costsBy_309 r0) := by
  refine T_of (fX12_costsBy.eq_1 ..) ?_
  have u1 := CI_b c0 (k := 309) (j := 20) bd_309_20
  have u2 := CI_b c0 (k := 309) (j := 36) bd_309_36
  have u3 := CI_b c0 (k := 309) (j := 43) bd_309_43
  have u4 := CI_b c0 (k := 309) (j := 44) bd_309_44
  have u5 := CI_b c0 (k := 309) (j := 58) bd_309_58
  have u6 := CI_b c0 (k := 316) (j := 0) bd_316_0
  refine T_if1 (by decide +kernel) ?_
  refine T_let 312 (by decide +kernel) ?_
  refine T_if1 (z_ixl (n := 9) (by decide +kernel) (by omega) (by omega)) ?_
  refine T_leq (fun x7 e8 => ?_)
  have u9 := CI_b c0 (k := 312) (j := 0) (bdr_312 0)
  refine T_if1 (by decide +kernel) ?_
  refine T_useI (sf_X12_breaks_309 hfu r0 c0 x7 a1 (by omega) (by omega) p0) (fun v15 s10 hq => ?_)
  obtain ⟨c11, f12, o16, o17, ⟨x14, rfl, b18, b19, o20⟩⟩ := hq
  refine T_vI ?_
  have f13 := z_Fr.tr (R := R_X12_costsBy_309) z_Fr.rf f12 rs_X12_breaks_309__X12_costsBy_309
  have t21 : s10 309 20 = r0 309 20 := f12 309 20 (by decide)
  have t22 : s10 309 44 = r0 309 44 := f12 309 44 (by decide)
  have t23 : s10 309 58 = r0 309 58 := f12 309 58 (by decide)
  have t24 : s10 316 0 = r0 316 0 := f12 316 0 (by decide)
  have u25 := CI_b c11 (k := 309) (j := 36) bd_309_36
  have u26 := CI_b c11 (k := 309) (j := 43) bd_309_43
  have r27 := y_B.fr p0 (f12 309 20 (by decide)) (f12 316 0 (by decide)) (fun b => f12 3220 b (nr_X12_breaks_309__3220 b)) (fun b => f12 3221 b (nr_X12_breaks_309__3221 b)) (fun b => f12 3222 b (nr_X12_breaks_309__3222 b)) (fun b => f12 361 b (nr_X12_breaks_309__361 b))
  refine T_if1 (by decide +kernel) ?_
  refine T_upg c11 bd_309_44 (by omega) (fun s28 c29 g31 g32 e33 => ?_)
  have f30 := z_Fr.upf (R := R_X12_costsBy_309) f13 g31 g32 (Or.inr (⟨rfl, by decide⟩))
  have t34 : s28 309 20 = r0 309 20 := (g32 20 (by decide)).trans t21
  have t35 : s28 309 36 = s10 309 36 := g32 36 (by decide)
  have t36 : s28 309 43 = s10 309 43 := g32 43 (by decide)
  have t37 : s28 309 58 = r0 309 58 := (g32 58 (by decide)).trans t23
  have t38 : s28 316 0 = r0 316 0 := (g31 316 0 (by decide)).trans t24
  have u39 := CI_b c29 (k := 309) (j := 44) bd_309_44
  have r40 := y_B.fr r27 (g32 20 (by decide)) (g31 316 0 (by decide)) (fun b => g31 3220 b (by decide)) (fun b => g31 3221 b (by decide)) (fun b => g31 3222 b (by decide)) (fun b => g31 361 b (by decide))
  have r41 := y_L.fr o20 (g32 20 (by decide)) (fun b => g31 3438 b (by decide))
  clear t21
  clear t23
  clear t24
  refine T_if1 ⟨(by decide +kernel), by unfold z_bl; omega⟩ ?_
  refine T_upg c29 bd_309_43 (by omega) (fun s42 c43 g45 g46 e47 => ?_)
  have f44 := z_Fr.upf (R := R_X12_costsBy_309) f30 g45 g46 (Or.inr (⟨rfl, by decide⟩))
  have t48 : s42 309 20 = r0 309 20 := (g46 20 (by decide)).trans t34
  have t49 : s42 309 36 = s10 309 36 := (g46 36 (by decide)).trans t35
  have t50 : s42 309 44 = s28 309 44 := g46 44 (by decide)
  have t51 : s42 309 58 = r0 309 58 := (g46 58 (by decide)).trans t37
  have t52 : s42 316 0 = r0 316 0 := (g45 316 0 (by decide)).trans t38
  have u53 := CI_b c43 (k := 309) (j := 43) bd_309_43
  have r54 := y_B.fr r40 (g46 20 (by decide)) (g45 316 0 (by decide)) (fun b => g45 3220 b (by decide)) (fun b => g45 3221 b (by decide)) (fun b => g45 3222 b (by decide)) (fun b => g45 361 b (by decide))
  have r55 := y_L.fr r41 (g46 20 (by decide)) (fun b => g45 3438 b (by decide))
  clear t34
  clear t35
  clear t37
  clear t38
  refine T_if1 (by decide +kernel) ?_
  refine T_useL (sf_X12_costs_309 hfu s42 c43 r54 (by first | exact y_L.cg r55 (by omega))) (fun v61 s56 hq => ?_)
  obtain ⟨c57, f58, o62, o63, ⟨x60, rfl, b64, b65⟩⟩ := hq
  refine T_vL ?_
  have f59 := z_Fr.tr (R := R_X12_costsBy_309) f44 f58 rs_X12_costs_309__X12_costsBy_309
  have t66 : s56 309 20 = r0 309 20 := (f58 309 20 (by decide)).trans t48
  have t67 : s56 309 44 = s28 309 44 := (f58 309 44 (by decide)).trans t50
  have t68 : s56 309 58 = r0 309 58 := (f58 309 58 (by decide)).trans t51
  have t69 : s56 316 0 = r0 316 0 := (f58 316 0 (by decide)).trans t52
  have u70 := CI_b c57 (k := 309) (j := 36) bd_309_36
  have u71 := CI_b c57 (k := 309) (j := 43) bd_309_43
  have r72 := y_B.fr r54 (f58 309 20 (by decide)) (f58 316 0 (by decide)) (fun b => f58 3220 b (nr_X12_costs_309__3220 b)) (fun b => f58 3221 b (nr_X12_costs_309__3221 b)) (fun b => f58 3222 b (nr_X12_costs_309__3222 b)) (fun b => f58 361 b (nr_X12_costs_309__361 b))
  have r73 := y_L.fr r55 (f58 309 20 (by decide)) (fun b => f58 3438 b (nr_X12_costs_309__3438 b))
  clear t48
  clear t50
  clear t51
  clear t52
  exact T_ret ⟨c57, f59, (by omega), ⟨x60, rfl, by omega, by omega⟩⟩
abbrev R_X12_better_309 (a b : Int) : Prop := (3224 ≤ a ∧ a ≤ 3440) ∨ (a = 309 ∧ (b = 0 ∨ b = 35 ∨ b = 36 ∨ b = 38 ∨ b = 39 ∨ b = 43 ∨ b = 44))
abbrev P_X12_better_309 (r0 : z_M) : z_V → z_M → Prop := fun v s' => z_CI s' ∧ z_Fr R_X12_better_309 r0 s' ∧ (y_TA s') ∧ (y_DD s') ∧ (y_B s') ∧ (y_K s') ∧ (∃ x, v = vL x ∧ -9223372036854775808 ≤ x ∧ x ≤ 9223372036854775807)
theorem rs_X12_costsBy_309__X12_better_309 (a b : Int) (h : R_X12_costsBy_309 a b) : R_X12_better_309 a b := (h.elim (fun h => (Or.inl (⟨by omega, by omega⟩))) (fun h => (Or.inr (⟨h.1, by omega⟩))))
theorem nq_X12_costsBy_309__316 (a b : Int) (h : 316 ≤ a ∧ a ≤ 328) : ¬ R_X12_costsBy_309 a b := by
  unfold R_X12_costsBy_309; omega
theorem nq_X12_costsBy_309__346 (a b : Int) (h : 346 ≤ a ∧ a ≤ 358) : ¬ R_X12_costsBy_309 a b := by
  unfold R_X12_costsBy_309; omega
theorem nq_X12_costsBy_309__361 (a b : Int) (h : 361 ≤ a ∧ a ≤ 373) : ¬ R_X12_costsBy_309 a b := by
  unfold R_X12_costsBy_309; omega
theorem nr_X12_costsBy_309__359 (b : Int) : ¬ R_X12_costsBy_309 359 b := by
  unfold R_X12_costsBy_309; omega
theorem nr_X12_costsBy_309__374 (b : Int) : ¬ R_X12_costsBy_309 374 b := by
  unfold R_X12_costsBy_309; omega
theorem nr_X12_costsBy_309__3220 (b : Int) : ¬ R_X12_costsBy_309 3220 b := by
  unfold R_X12_costsBy_309; omega
theorem nr_X12_costsBy_309__3221 (b : Int) : ¬ R_X12_costsBy_309 3221 b := by
  unfold R_X12_costsBy_309; omega
theorem nr_X12_costsBy_309__3222 (b : Int) : ¬ R_X12_costsBy_309 3222 b := by
  unfold R_X12_costsBy_309; omega
theorem nr_X12_costsBy_309__361 (b : Int) : ¬ R_X12_costsBy_309 361 b := by
  unfold R_X12_costsBy_309; omega
theorem sf_X12_better_309 {fu : Nat} (hfu : 8589934592 ≤ fu) (r0 : z_M) (c0 : z_CI r0) (p0 : y_TA r0) (p1 : y_DD r0) (p2 : y_B r0) (p3 : y_K r0) : z_T (fX12_better fu r0 309) (P_X12_better_309 r0) := by
  refine T_of (fX12_better.eq_1 ..) ?_
  have u1 := CI_b c0 (k := 309) (j := 20) bd_309_20
  have u2 := CI_b c0 (k := 309) (j := 36) bd_309_36
  have u3 := CI_b c0 (k := 309) (j := 43) bd_309_43
  have u4 := CI_b c0 (k := 309) (j := 44) bd_309_44
  have u5 := CI_b c0 (k := 309) (j := 58) bd_309_58
  have u6 := CI_b c0 (k := 316) (j := 0) bd_316_0
  have u7 := CI_b c0 (k := 329) (j := 0) bd_329_0
  have u8 := CI_b c0 (k := 329) (j := 1) bd_329_1
  refine T_if1 (by decide +kernel) ?_
  refine T_upg c0 bd_309_0 (by omega) (fun s9 c10 g12 g13 e14 => ?_)
  have f11 := z_Fr.upf (R := R_X12_better_309) z_Fr.rf g12 g13 (Or.inr (⟨rfl, by decide⟩))
  have t15 : s9 309 20 = r0 309 20 := g13 20 (by decide)
  have t16 : s9 309 36 = r0 309 36 := g13 36 (by decide)
  have t17 : s9 309 43 = r0 309 43 := g13 43 (by decide)
  have t18 : s9 309 44 = r0 309 44 := g13 44 (by decide)
  have t19 : s9 309 58 = r0 309 58 := g13 58 (by decide)
  have t20 : s9 316 0 = r0 316 0 := g12 316 0 (by decide)
  have t21 : s9 329 0 = r0 329 0 := g12 329 0 (by decide)
  have t22 : s9 329 1 = r0 329 1 := g12 329 1 (by decide)
  have r23 := y_TA.fr p0 (fun a b h => g12 a b (by omega)) (fun a b h => g12 a b (by omega)) (fun a b h => g12 a b (by omega))
  have r24 := y_DD.fr p1 (g12 329 0 (by decide)) (g12 329 1 (by decide)) (fun b => g12 359 b (by decide)) (fun b => g12 374 b (by decide))
  have r25 := y_B.fr p2 (g13 20 (by decide)) (g12 316 0 (by decide)) (fun b => g12 3220 b (by decide)) (fun b => g12 3221 b (by decide)) (fun b => g12 3222 b (by decide)) (fun b => g12 361 b (by decide))
  have r26 := y_K.fr p3 (by omega) (by omega) (g13 44 (by decide)) (g13 20 (by decide)) (g13 58 (by decide)) (fun b => g12 3438 b (by decide)) (fun b => g12 3220 b (by decide)) (fun a b h => g12 a b (by omega))
  refine T_if1 (by decide +kernel) ?_
  refine T_useL (sf_X12_costsBy_309 hfu s9 c10 0 (by omega) r25) (fun v32 s27 hq => ?_)
  obtain ⟨c28, f29, o33, ⟨x31, rfl, b34, b35⟩⟩ := hq
  refine T_vL ?_
  have f30 := z_Fr.tr (R := R_X12_better_309) f11 f29 rs_X12_costsBy_309__X12_better_309
  have t36 : s27 309 20 = r0 309 20 := (f29 309 20 (by decide)).trans t15
  have t37 : s27 309 58 = r0 309 58 := (f29 309 58 (by decide)).trans t19
  have t38 : s27 316 0 = r0 316 0 := (f29 316 0 (by decide)).trans t20
  have t39 : s27 329 0 = r0 329 0 := (f29 329 0 (by decide)).trans t21
  have t40 : s27 329 1 = r0 329 1 := (f29 329 1 (by decide)).trans t22
  have u41 := CI_b c28 (k := 309) (j := 36) bd_309_36
  have u42 := CI_b c28 (k := 309) (j := 43) bd_309_43
  have u43 := CI_b c28 (k := 309) (j := 44) bd_309_44
  have r44 := y_TA.fr r23 (fun a b h => f29 a b (nq_X12_costsBy_309__316 a b h)) (fun a b h => f29 a b (nq_X12_costsBy_309__346 a b h)) (fun a b h => f29 a b (nq_X12_costsBy_309__361 a b h))
  have r45 := y_DD.fr r24 (f29 329 0 (by decide)) (f29 329 1 (by decide)) (fun b => f29 359 b (nr_X12_costsBy_309__359 b)) (fun b => f29 374 b (nr_X12_costsBy_309__374 b))
  have r46 := y_B.fr r25 (f29 309 20 (by decide)) (f29 316 0 (by decide)) (fun b => f29 3220 b (nr_X12_costsBy_309__3220 b)) (fun b => f29 3221 b (nr_X12_costsBy_309__3221 b)) (fun b => f29 3222 b (nr_X12_costsBy_309__3222 b)) (fun b => f29 361 b (nr_X12_costsBy_309__361 b))
  clear t15
  clear t19
  clear t20
  clear t21
  clear t22
  refine T_if1 (by decide +kernel) ?_
  refine T_useL (sf_X12_costsBy_309 hfu s27 c28 1 (by omega) r46) (fun v52 s47 hq => ?_)
  obtain ⟨c48, f49, o53, ⟨x51, rfl, b54, b55⟩⟩ := hq
  refine T_vL ?_
  have f50 := z_Fr.tr (R := R_X12_better_309) f30 f49 rs_X12_costsBy_309__X12_better_309
  have t56 : s47 309 20 = r0 309 20 := (f49 309 20 (by decide)).trans t36
  have t57 : s47 309 58 = r0 309 58 := (f49 309 58 (by decide)).trans t37
  have t58 : s47 316 0 = r0 316 0 := (f49 316 0 (by decide)).trans t38
  have t59 : s47 329 0 = r0 329 0 := (f49 329 0 (by decide)).trans t39
  have t60 : s47 329 1 = r0 329 1 := (f49 329 1 (by decide)).trans t40
  have u61 := CI_b c48 (k := 309) (j := 36) bd_309_36
  have u62 := CI_b c48 (k := 309) (j := 43) bd_309_43
  have u63 := CI_b c48 (k := 309) (j := 44) bd_309_44
  have r64 := y_TA.fr r44 (fun a b h => f49 a b (nq_X12_costsBy_309__316 a b h)) (fun a b h => f49 a b (nq_X12_costsBy_309__346 a b h)) (fun a b h => f49 a b (nq_X12_costsBy_309__361 a b h))
  have r65 := y_DD.fr r45 (f49 329 0 (by decide)) (f49 329 1 (by decide)) (fun b => f49 359 b (nr_X12_costsBy_309__359 b)) (fun b => f49 374 b (nr_X12_costsBy_309__374 b))
  have r66 := y_B.fr r46 (f49 309 20 (by decide)) (f49 316 0 (by decide)) (fun b => f49 3220 b (nr_X12_costsBy_309__3220 b)) (fun b => f49 3221 b (nr_X12_costsBy_309__3221 b)) (fun b => f49 3222 b (nr_X12_costsBy_309__3222 b)) (fun b => f49 361 b (nr_X12_costsBy_309__361 b))
  clear t36
  clear t37
  clear t38
  clear t39
  clear t40
  refine T_leq (fun x67 e68 => ?_)
  have w69 := z_wlr e68
  exact T_ret ⟨c48, f50, r64, (by first | exact r65 | exact y_DD.z (by omega) (by omega)), r66, (by first | exact y_K.b0 (by omega) | exact y_K.k0 (by omega) | exact y_K.bk (by omega)), ⟨x67, rfl, by omega, by omega⟩⟩
abbrev R_X12_turnsOver_309 (a b : Int) : Prop := (312 ≤ a ∧ a ≤ 312) ∨ (3224 ≤ a ∧ a ≤ 3651) ∨ (a = 309 ∧ (b = 35 ∨ b = 36 ∨ b = 38 ∨ b = 39 ∨ b = 43 ∨ b = 44 ∨ b = 58))
abbrev P_X12_turnsOver_309 (r0 : z_M) : z_V → z_M → Prop := fun v s' => z_CI s' ∧ z_Fr R_X12_turnsOver_309 r0 s' ∧ (y_K s') ∧ (y_S5 r0 s') ∧ (v = vN)
theorem rs_X12_laysAll_309__X12_turnsOver_309 (a b : Int) (h : R_X12_laysAll_309 a b) : R_X12_turnsOver_309 a b := (h.elim (fun h => (Or.inr (Or.inl (⟨by omega, by omega⟩)))) (fun h => (Or.inr (Or.inr (⟨h.1, by omega⟩)))))
theorem nr_X12_laysAll_309__312 (b : Int) : ¬ R_X12_laysAll_309 312 b := by
  unfold R_X12_laysAll_309; omega
theorem sf_X12_turnsOver_309 {fu : Nat} (hfu : 8589934592 ≤ fu) (r0 : z_M) (c0 : z_CI r0) (p0 : y_B r0) (p1 : y_K r0) : z_T (fX12_turnsOver fu r0 309) (P_X12_turnsOver_309 r0) := by
  refine T_of (fX12_turnsOver.eq_1 ..) ?_
  have u1 := CI_b c0 (k := 309) (j := 20) bd_309_20
  have u2 := CI_b c0 (k := 309) (j := 36) bd_309_36
  have u3 := CI_b c0 (k := 309) (j := 43) bd_309_43
  have u4 := CI_b c0 (k := 309) (j := 44) bd_309_44
  have u5 := CI_b c0 (k := 309) (j := 58) bd_309_58
  have u6 := CI_b c0 (k := 316) (j := 0) bd_316_0
  have r7 : y_SE r0 r0 := y_SE.z
  refine T_if1 (by decide +kernel) ?_
  refine T_let 312 (by decide +kernel) ?_
  refine T_if1 (by decide +kernel) ?_
  refine T_let 312 (by decide +kernel) ?_
  refine T_if1 (z_ixl (n := 9) (by decide +kernel) (by omega) (by omega)) ?_
  refine T_leq (fun x8 e9 => ?_)
  have u10 := CI_b c0 (k := 312) (j := 5) (bdr_312 5)
  refine T_leq (fun x11 e12 => ?_)
  first | (have w13 := z_wx e12 (by omega)) | (have w13 := z_wr e12)
  refine T_if1 (z_ixl (n := 9) (by decide +kernel) (by omega) (by omega)) ?_
  refine T_upg c0 (bdr_312 5) (by omega) (fun s14 c15 g17 g18 e19 => ?_)
  have f16 := z_Fr.up (R := R_X12_turnsOver_309) z_Fr.rf g17 (fun _ => (Or.inl (⟨by decide, by decide⟩)))
  have t20 : s14 309 20 = r0 309 20 := g17 309 20 (by decide)
  have t21 : s14 309 36 = r0 309 36 := g17 309 36 (by decide)
  have t22 : s14 309 43 = r0 309 43 := g17 309 43 (by decide)
  have t23 : s14 309 44 = r0 309 44 := g17 309 44 (by decide)
  have t24 : s14 309 58 = r0 309 58 := g17 309 58 (by decide)
  have t25 : s14 316 0 = r0 316 0 := g17 316 0 (by decide)
  have r26 := y_B.fr p0 (g17 309 20 (by decide)) (g17 316 0 (by decide)) (fun b => g17 3220 b (by decide)) (fun b => g17 3221 b (by decide)) (fun b => g17 3222 b (by decide)) (fun b => g17 361 b (by decide))
  have r27 := y_K.fr p1 (by omega) (by omega) (g17 309 44 (by decide)) (g17 309 20 (by decide)) (g17 309 58 (by decide)) (fun b => g17 3438 b (by decide)) (fun b => g17 3220 b (by decide)) (fun a b h => g17 a b (by omega))
  have r28 := y_S5.mk r7 e9 (by assumption) e19 g18
  refine T_if1 ⟨(by decide +kernel), by unfold z_bl; omega⟩ ?_
  refine T_upg c15 bd_309_36 (by omega) (fun s29 c30 g32 g33 e34 => ?_)
  have f31 := z_Fr.upf (R := R_X12_turnsOver_309) f16 g32 g33 (Or.inr (Or.inr (⟨rfl, by decide⟩)))
  have t35 : s29 309 20 = r0 309 20 := (g33 20 (by decide)).trans t20
  have t36 : s29 309 43 = r0 309 43 := (g33 43 (by decide)).trans t22
  have t37 : s29 309 44 = r0 309 44 := (g33 44 (by decide)).trans t23
  have t38 : s29 309 58 = r0 309 58 := (g33 58 (by decide)).trans t24
  have t39 : s29 316 0 = r0 316 0 := (g32 316 0 (by decide)).trans t25
  have u40 := CI_b c30 (k := 309) (j := 36) bd_309_36
  have r41 := y_B.fr r26 (g33 20 (by decide)) (g32 316 0 (by decide)) (fun b => g32 3220 b (by decide)) (fun b => g32 3221 b (by decide)) (fun b => g32 3222 b (by decide)) (fun b => g32 361 b (by decide))
  have r42 := y_K.fr r27 (by omega) (by omega) (g33 44 (by decide)) (g33 20 (by decide)) (g33 58 (by decide)) (fun b => g32 3438 b (by decide)) (fun b => g32 3220 b (by decide)) (fun a b h => g32 a b (by omega))
  have r43 := y_S5.fr r28 (fun b => g32 312 b (by decide))
  clear t20
  clear t22
  clear t23
  clear t24
  clear t25
  refine T_if1 (by decide +kernel) ?_
  refine T_useN (sf_X12_laysAll_309 hfu s29 c30 r41 (by first | exact r42 | exact y_K.b0 (by omega) | exact y_K.k0 (by omega) | exact y_K.bk (by omega))) (fun v49 s44 hq => ?_)
  obtain ⟨c45, f46, o50, o51, o52, o53, o54, o55, rfl⟩ := hq
  refine T_vN ?_
  have f47 := z_Fr.tr (R := R_X12_turnsOver_309) f31 f46 rs_X12_laysAll_309__X12_turnsOver_309
  have t58 : s44 309 20 = r0 309 20 := (f46 309 20 (by decide)).trans t35
  have t59 : s44 316 0 = r0 316 0 := (f46 316 0 (by decide)).trans t39
  have u60 := CI_b c45 (k := 309) (j := 36) bd_309_36
  have u61 := CI_b c45 (k := 309) (j := 43) bd_309_43
  have u62 := CI_b c45 (k := 309) (j := 44) bd_309_44
  have u63 := CI_b c45 (k := 309) (j := 58) bd_309_58
  have r64 := y_B.fr r41 (f46 309 20 (by decide)) (f46 316 0 (by decide)) (fun b => f46 3220 b (nr_X12_laysAll_309__3220 b)) (fun b => f46 3221 b (nr_X12_laysAll_309__3221 b)) (fun b => f46 3222 b (nr_X12_laysAll_309__3222 b)) (fun b => f46 361 b (nr_X12_laysAll_309__361 b))
  have r65 := y_S5.fr r43 (fun b => f46 312 b (nr_X12_laysAll_309__312 b))
  clear t35
  clear t39
  exact T_ret ⟨c45, f47, (by first | exact o50 | exact y_K.b0 (by omega) | exact y_K.k0 (by omega) | exact y_K.bk (by omega) | exact y_K.mk o51 (by omega) o52), r65, rfl⟩
abbrev R_X12_moves_309 (a b : Int) : Prop := (312 ≤ a ∧ a ≤ 312) ∨ (3224 ≤ a ∧ a ≤ 3651) ∨ (7656 ≤ a ∧ a ≤ 7656) ∨ (a = 309 ∧ (b = 0 ∨ b = 35 ∨ b = 36 ∨ b = 38 ∨ b = 39 ∨ b = 43 ∨ b = 44 ∨ b = 58))
abbrev P_X12_moves_309 (r0 : z_M) : z_V → z_M → Prop := fun v s' => z_CI s' ∧ z_Fr R_X12_moves_309 r0 s' ∧ (y_SE r0 s') ∧ (y_TA s') ∧ (y_DD s') ∧ (y_B s') ∧ (y_K s') ∧ (∃ x, v = vI x ∧ -2147483648 ≤ x ∧ x ≤ 2147483647)
theorem rs_X12_laysAll_309__X12_moves_309 (a b : Int) (h : R_X12_laysAll_309 a b) : R_X12_moves_309 a b := (h.elim (fun h => (Or.inr (Or.inl (⟨by omega, by omega⟩)))) (fun h => (Or.inr (Or.inr (Or.inr (⟨h.1, by omega⟩))))))
theorem sl_X12_moves_309_L11 {fu : Nat} (hfu : 8589934592 ≤ fu) (r0 : z_M) {k : z_M → z_O} (hk : ∀ (s' : z_M), z_CI s' → z_Fr R_X12_moves_309 r0 s' → (y_SE r0 s') → (y_TA s') → (y_DD s') → (y_B s') → (y_K s') → z_T (k s') (P_X12_moves_309 r0)) : ∀ (F : Nat) (s : z_M) (a1 : Int), z_CI s → z_Fr R_X12_moves_309 r0 s → (0 ≤ a1 ∧ a1 ≤ 200) → (y_SE r0 s) → (y_TA s) → (y_DD s) → (y_B s) → (y_K s) → (2147483647 - a1 < (F : Int)) → z_T (fX12_moves_L11 fu 309 F s a1 k) (P_X12_moves_309 r0) := by
  intro F
  induction F with
  | zero =>
    intro s a1 c f b1 i0 i1 i2 i3 i4 hm
    have u42 := CI_b c (k := 309) (j := 20) bd_309_20
    have u43 := CI_b c (k := 309) (j := 36) bd_309_36
    have u44 := CI_b c (k := 309) (j := 43) bd_309_43
    have u45 := CI_b c (k := 309) (j := 44) bd_309_44
    have u46 := CI_b c (k := 309) (j := 58) bd_309_58
    have u47 := CI_b c (k := 316) (j := 0) bd_316_0
    have u48 := CI_b c (k := 329) (j := 0) bd_329_0
    have u49 := CI_b c (k := 329) (j := 1) bd_329_1
    exfalso; omega
  | succ F ih =>
    intro s a1 c f b1 i0 i1 i2 i3 i4 hm
    refine T_of (fX12_moves_L11.eq_2 ..) ?_
    have u1 := CI_b c (k := 309) (j := 20) bd_309_20
    have u2 := CI_b c (k := 309) (j := 36) bd_309_36
    have u3 := CI_b c (k := 309) (j := 43) bd_309_43
    have u4 := CI_b c (k := 309) (j := 44) bd_309_44
    have u5 := CI_b c (k := 309) (j := 58) bd_309_58
    have u6 := CI_b c (k := 316) (j := 0) bd_316_0
    have u7 := CI_b c (k := 329) (j := 0) bd_329_0
    have u8 := CI_b c (k := 329) (j := 1) bd_329_1
    have t9 : s 309 20 = r0 309 20 := f 309 20 (by decide)
    have t10 : s 316 0 = r0 316 0 := f 316 0 (by decide)
    have t11 : s 329 0 = r0 329 0 := f 329 0 (by decide)
    have t12 : s 329 1 = r0 329 1 := f 329 1 (by decide)
    refine T_if1 (by decide +kernel) ?_
    refine T_leq (fun x13 e14 => ?_)
    have u15 := CI_b c (k := 309) (j := 20) bd_309_20
    refine T_ite (fun h16 => ?_) (fun h16 => ?_)
    · exact hk s c f i0 i1 (by first | exact i2 | exact y_DD.z (by omega) (by omega)) i3 (by first | exact i4 | exact y_K.b0 (by omega) | exact y_K.k0 (by omega) | exact y_K.bk (by omega))
    · refine T_if1 (by decide +kernel) ?_
      refine T_let 7656 (by decide +kernel) ?_
      refine T_if1 (by decide +kernel) ?_
      refine T_let 3441 (by decide +kernel) ?_
      refine T_if1 (z_ixl (n := 200) (by decide +kernel) (by omega) (by omega)) ?_
      refine T_leq (fun x17 e18 => ?_)
      have u19 := CI_b c (k := 3441) (j := a1) (bdr_3441 a1)
      refine T_if1 (z_ixl (n := 200) (by decide +kernel) (by omega) (by omega)) ?_
      refine T_upg c (bdr_7656 a1) (by omega) (fun s20 c21 g23 g24 e25 => ?_)
      have f22 := z_Fr.up (R := R_X12_moves_309) f g23 (fun _ => (Or.inr (Or.inr (Or.inl (⟨by decide, by decide⟩)))))
      have t26 : s20 309 20 = x13 := (g23 309 20 (by decide)).trans e14
      have t27 : s20 309 36 = s 309 36 := g23 309 36 (by decide)
      have t28 : s20 309 43 = s 309 43 := g23 309 43 (by decide)
      have t29 : s20 309 44 = s 309 44 := g23 309 44 (by decide)
      have t30 : s20 309 58 = s 309 58 := g23 309 58 (by decide)
      have t31 : s20 316 0 = s 316 0 := g23 316 0 (by decide)
      have t32 : s20 329 0 = s 329 0 := g23 329 0 (by decide)
      have t33 : s20 329 1 = s 329 1 := g23 329 1 (by decide)
      have r34 := y_SE.fr i0 (fun b => g23 312 b (by decide))
      have r35 := y_TA.fr i1 (fun a b h => g23 a b (by omega)) (fun a b h => g23 a b (by omega)) (fun a b h => g23 a b (by omega))
      have r36 := y_DD.fr i2 (g23 329 0 (by decide)) (g23 329 1 (by decide)) (fun b => g23 359 b (by decide)) (fun b => g23 374 b (by decide))
      have r37 := y_B.fr i3 (g23 309 20 (by decide)) (g23 316 0 (by decide)) (fun b => g23 3220 b (by decide)) (fun b => g23 3221 b (by decide)) (fun b => g23 3222 b (by decide)) (fun b => g23 361 b (by decide))
      have r38 := y_K.fr i4 (by omega) (by omega) (g23 309 44 (by decide)) (g23 309 20 (by decide)) (g23 309 58 (by decide)) (fun b => g23 3438 b (by decide)) (fun b => g23 3220 b (by decide)) (fun a b h => g23 a b (by omega))
      refine T_leq (fun x39 e40 => ?_)
      first | (have w41 := z_wx e40 (by omega)) | (have w41 := z_wr e40)
      exact ih s20 x39 c21 f22 (by omega) r34 r35 (by first | exact r36 | exact y_DD.z (by omega) (by omega)) r37 (by first | exact r38 | exact y_K.b0 (by omega) | exact y_K.k0 (by omega) | exact y_K.bk (by omega)) (by omega)
theorem rs_X12_turnsOver_309__X12_moves_309 (a b : Int) (h : R_X12_turnsOver_309 a b) : R_X12_moves_309 a b := (h.elim (fun h => (Or.inl (⟨by omega, by omega⟩))) (fun h => (h.elim (fun h => (Or.inr (Or.inl (⟨by omega, by omega⟩)))) (fun h => (Or.inr (Or.inr (Or.inr (⟨h.1, by omega⟩))))))))
theorem nq_X12_turnsOver_309__316 (a b : Int) (h : 316 ≤ a ∧ a ≤ 328) : ¬ R_X12_turnsOver_309 a b := by
  unfold R_X12_turnsOver_309; omega
theorem nq_X12_turnsOver_309__346 (a b : Int) (h : 346 ≤ a ∧ a ≤ 358) : ¬ R_X12_turnsOver_309 a b := by
  unfold R_X12_turnsOver_309; omega
theorem nq_X12_turnsOver_309__361 (a b : Int) (h : 361 ≤ a ∧ a ≤ 373) : ¬ R_X12_turnsOver_309 a b := by
  unfold R_X12_turnsOver_309; omega
theorem nr_X12_turnsOver_309__359 (b : Int) : ¬ R_X12_turnsOver_309 359 b := by
  unfold R_X12_turnsOver_309; omega
theorem nr_X12_turnsOver_309__374 (b : Int) : ¬ R_X12_turnsOver_309 374 b := by
  unfold R_X12_turnsOver_309; omega
theorem nr_X12_turnsOver_309__3220 (b : Int) : ¬ R_X12_turnsOver_309 3220 b := by
  unfold R_X12_turnsOver_309; omega
theorem nr_X12_turnsOver_309__3221 (b : Int) : ¬ R_X12_turnsOver_309 3221 b := by
  unfold R_X12_turnsOver_309; omega
theorem nr_X12_turnsOver_309__3222 (b : Int) : ¬ R_X12_turnsOver_309 3222 b := by
  unfold R_X12_turnsOver_309; omega
theorem nr_X12_turnsOver_309__361 (b : Int) : ¬ R_X12_turnsOver_309 361 b := by
  unfold R_X12_turnsOver_309; omega
theorem sj_X12_moves_309_J79 {fu : Nat} (hfu : 8589934592 ≤ fu) (r0 s : z_M) (c : z_CI s) (f : z_Fr R_X12_moves_309 r0 s) (a2 : Int) (t0 : Int) (t1 : Int) (b2 : 0 ≤ a2 ∧ a2 ≤ 199) (d0 : -2147483648 ≤ t0 ∧ t0 ≤ 2147483647) (d1 : -2147483648 ≤ t1 ∧ t1 ≤ 2147483647) (p0 : y_S5 r0 s) (p1 : y_TA s) (p2 : y_DD s) (p3 : y_B s) (p4 : y_K s) (M : Int) (pm : 2147483647 - a2 ≤ M) {r : z_M → Int → Int → z_O} {k : z_M → Int → z_O} (hr : ∀ (s' : z_M) (v1 : Int) (v2 : Int), z_CI s' → z_Fr R_X12_moves_309 r0 s' → (-2147483648 ≤ v1 ∧ v1 ≤ 2147483647) → (0 ≤ v2 ∧ v2 ≤ 200) → (y_S5 r0 s') → (y_TA s') → (y_DD s') → (y_B s') → (y_K s') → (2147483647 - v2 < M) → z_T (r s' v1 v2) (P_X12_moves_309 r0)) (hk : ∀ (s' : z_M) (v1 : Int), z_CI s' → z_Fr R_X12_moves_309 r0 s' → (-2147483648 ≤ v1 ∧ v1 ≤ 2147483647) → (y_S5 r0 s') → (y_TA s') → (y_DD s') → (y_B s') → (y_K s') → z_T (k s' v1) (P_X12_moves_309 r0)) : z_T (fX12_moves_J79 fu s 309 a2 t0 t1 r k) (P_X12_moves_309 r0) := by
  refine T_of (fX12_moves_J79.eq_1 ..) ?_
  have u1 := CI_b c (k := 309) (j := 20) bd_309_20
  have u2 := CI_b c (k := 309) (j := 36) bd_309_36
  have u3 := CI_b c (k := 309) (j := 43) bd_309_43
  have u4 := CI_b c (k := 309) (j := 44) bd_309_44
  have u5 := CI_b c (k := 309) (j := 58) bd_309_58
  have u6 := CI_b c (k := 316) (j := 0) bd_316_0
  have u7 := CI_b c (k := 329) (j := 0) bd_329_0
  have u8 := CI_b c (k := 329) (j := 1) bd_329_1
  have t9 : s 309 20 = r0 309 20 := f 309 20 (by decide)
  have t10 : s 316 0 = r0 316 0 := f 316 0 (by decide)
  have t11 : s 329 0 = r0 329 0 := f 329 0 (by decide)
  have t12 : s 329 1 = r0 329 1 := f 329 1 (by decide)
  refine T_leq (fun x13 e14 => ?_)
  first | (have w15 := z_wx e14 (by omega)) | (have w15 := z_wr e14)
  refine T_leq (fun x16 e17 => ?_)
  first | (have w18 := z_wx e17 (by omega)) | (have w18 := z_wr e17)
  exact hr s x13 x16 c f (by omega) (by omega) p0 p1 (by first | exact p2 | exact y_DD.z (by omega) (by omega)) p3 (by first | exact p4 | exact y_K.b0 (by omega) | exact y_K.k0 (by omega) | exact y_K.bk (by omega)) (by omega)
theorem sl_X12_moves_309_L45 {fu : Nat} (hfu : 8589934592 ≤ fu) (r0 : z_M) {k : z_M → Int → z_O} (hk : ∀ (s' : z_M) (v1 : Int), z_CI s' → z_Fr R_X12_moves_309 r0 s' → (-2147483648 ≤ v1 ∧ v1 ≤ 2147483647) → (y_S5 r0 s') → (y_TA s') → (y_DD s') → (y_B s') → (y_K s') → z_T (k s' v1) (P_X12_moves_309 r0)) : ∀ (F : Nat) (s : z_M) (a1 : Int) (a2 : Int), z_CI s → z_Fr R_X12_moves_309 r0 s → (-2147483648 ≤ a1 ∧ a1 ≤ 2147483647) → (0 ≤ a2 ∧ a2 ≤ 200) → (y_S5 r0 s) → (y_TA s) → (y_DD s) → (y_B s) → (y_K s) → (2147483647 - a2 < (F : Int)) → z_T (fX12_moves_L45 fu 309 F s a1 a2 k) (P_X12_moves_309 r0) := by
  intro F
  induction F with
  | zero =>
    intro s a1 a2 c f b1 b2 i0 i1 i2 i3 i4 hm
    have u27 := CI_b c (k := 309) (j := 20) bd_309_20
    have u28 := CI_b c (k := 309) (j := 36) bd_309_36
    have u29 := CI_b c (k := 309) (j := 43) bd_309_43
    have u30 := CI_b c (k := 309) (j := 44) bd_309_44
    have u31 := CI_b c (k := 309) (j := 58) bd_309_58
    have u32 := CI_b c (k := 316) (j := 0) bd_316_0
    have u33 := CI_b c (k := 329) (j := 0) bd_329_0
    have u34 := CI_b c (k := 329) (j := 1) bd_329_1
    exfalso; omega
  | succ F ih =>
    intro s a1 a2 c f b1 b2 i0 i1 i2 i3 i4 hm
    refine T_of (fX12_moves_L45.eq_2 ..) ?_
    have u1 := CI_b c (k := 309) (j := 20) bd_309_20
    have u2 := CI_b c (k := 309) (j := 36) bd_309_36
    have u3 := CI_b c (k := 309) (j := 43) bd_309_43
    have u4 := CI_b c (k := 309) (j := 44) bd_309_44
    have u5 := CI_b c (k := 309) (j := 58) bd_309_58
    have u6 := CI_b c (k := 316) (j := 0) bd_316_0
    have u7 := CI_b c (k := 329) (j := 0) bd_329_0
    have u8 := CI_b c (k := 329) (j := 1) bd_329_1
    have t9 : s 309 20 = r0 309 20 := f 309 20 (by decide)
    have t10 : s 316 0 = r0 316 0 := f 316 0 (by decide)
    have t11 : s 329 0 = r0 329 0 := f 329 0 (by decide)
    have t12 : s 329 1 = r0 329 1 := f 329 1 (by decide)
    refine T_if1 (by decide +kernel) ?_
    refine T_leq (fun x13 e14 => ?_)
    have u15 := CI_b c (k := 309) (j := 20) bd_309_20
    refine T_ite (fun h16 => ?_) (fun h16 => ?_)
    · exact hk s a1 c f (by omega) i0 i1 (by first | exact i2 | exact y_DD.z (by omega) (by omega)) i3 (by first | exact i4 | exact y_K.b0 (by omega) | exact y_K.k0 (by omega) | exact y_K.bk (by omega))
    · refine T_if1 (by decide +kernel) ?_
      refine T_let 3441 (by decide +kernel) ?_
      refine T_if1 (z_ixl (n := 200) (by decide +kernel) (by omega) (by omega)) ?_
      refine T_leq (fun x17 e18 => ?_)
      have u19 := CI_b c (k := 3441) (j := a2) (bdr_3441 a2)
      refine T_if1 (by decide +kernel) ?_
      refine T_let 7656 (by decide +kernel) ?_
      refine T_if1 (z_ixl (n := 200) (by decide +kernel) (by omega) (by omega)) ?_
      refine T_leq (fun x20 e21 => ?_)
      have u22 := CI_b c (k := 7656) (j := a2) (bdr_7656 a2)
      refine T_ite (fun h23 => ?_) (fun h23 => ?_)
      · refine T_if1 (by decide +kernel) ?_
        refine T_let 3222 (by decide +kernel) ?_
        refine T_if1 (z_ixl (n := 200) (by decide +kernel) (by omega) (by omega)) ?_
        refine T_leq (fun x24 e25 => ?_)
        have u26 := CI_b c (k := 3222) (j := a2) (bdr_3222 a2)
        exact sj_X12_moves_309_J79 hfu r0 s c f a2 a1 x24 (by omega) (by omega) (by omega) i0 i1 (by first | exact i2 | exact y_DD.z (by omega) (by omega)) i3 (by first | exact i4 | exact y_K.b0 (by omega) | exact y_K.k0 (by omega) | exact y_K.bk (by omega)) (2147483647 - a2) (by omega) (fun s' v1 v2 c' f' w1 w2 z0 z1 z2 z3 z4 pg => ih s' v1 v2 c' f' w1 w2 z0 z1 z2 z3 z4 (by omega)) hk
      · exact sj_X12_moves_309_J79 hfu r0 s c f a2 a1 0 (by omega) (by omega) (by omega) i0 i1 (by first | exact i2 | exact y_DD.z (by omega) (by omega)) i3 (by first | exact i4 | exact y_K.b0 (by omega) | exact y_K.k0 (by omega) | exact y_K.bk (by omega)) (2147483647 - a2) (by omega) (fun s' v1 v2 c' f' w1 w2 z0 z1 z2 z3 z4 pg => ih s' v1 v2 c' f' w1 w2 z0 z1 z2 z3 z4 (by omega)) hk
set_option maxHeartbeats 4000000 in
theorem sf_X12_moves_309 {fu : Nat} (hfu : 8589934592 ≤ fu) (r0 : z_M) (c0 : z_CI r0) (p0 : y_TA r0) (p1 : y_DD r0) (p2 : y_B r0) (p3 : y_K r0) : z_T (fX12_moves fu r0 309) (P_X12_moves_309 r0) := by
  refine T_of (fX12_moves.eq_1 ..) ?_
  have u1 := CI_b c0 (k := 309) (j := 20) bd_309_20
  have u2 := CI_b c0 (k := 309) (j := 36) bd_309_36
  have u3 := CI_b c0 (k := 309) (j := 43) bd_309_43
  have u4 := CI_b c0 (k := 309) (j := 44) bd_309_44
  have u5 := CI_b c0 (k := 309) (j := 58) bd_309_58
  have u6 := CI_b c0 (k := 316) (j := 0) bd_316_0
  have u7 := CI_b c0 (k := 329) (j := 0) bd_329_0
  have u8 := CI_b c0 (k := 329) (j := 1) bd_329_1
  have r9 : y_SE r0 r0 := y_SE.z
  refine T_if1 (by decide +kernel) ?_
  refine T_upg c0 bd_309_0 (by omega) (fun s10 c11 g13 g14 e15 => ?_)
  have f12 := z_Fr.upf (R := R_X12_moves_309) z_Fr.rf g13 g14 (Or.inr (Or.inr (Or.inr (⟨rfl, by decide⟩))))
  have t16 : s10 309 20 = r0 309 20 := g14 20 (by decide)
  have t17 : s10 309 36 = r0 309 36 := g14 36 (by decide)
  have t18 : s10 309 43 = r0 309 43 := g14 43 (by decide)
  have t19 : s10 309 44 = r0 309 44 := g14 44 (by decide)
  have t20 : s10 309 58 = r0 309 58 := g14 58 (by decide)
  have t21 : s10 316 0 = r0 316 0 := g13 316 0 (by decide)
  have t22 : s10 329 0 = r0 329 0 := g13 329 0 (by decide)
  have t23 : s10 329 1 = r0 329 1 := g13 329 1 (by decide)
  have r24 := y_TA.fr p0 (fun a b h => g13 a b (by omega)) (fun a b h => g13 a b (by omega)) (fun a b h => g13 a b (by omega))
  have r25 := y_DD.fr p1 (g13 329 0 (by decide)) (g13 329 1 (by decide)) (fun b => g13 359 b (by decide)) (fun b => g13 374 b (by decide))
  have r26 := y_B.fr p2 (g14 20 (by decide)) (g13 316 0 (by decide)) (fun b => g13 3220 b (by decide)) (fun b => g13 3221 b (by decide)) (fun b => g13 3222 b (by decide)) (fun b => g13 361 b (by decide))
  have r27 := y_K.fr p3 (by omega) (by omega) (g14 44 (by decide)) (g14 20 (by decide)) (g14 58 (by decide)) (fun b => g13 3438 b (by decide)) (fun b => g13 3220 b (by decide)) (fun a b h => g13 a b (by omega))
  have r28 := y_SE.fr r9 (fun b => g13 312 b (by decide))
  refine T_if1 (by decide +kernel) ?_
  refine T_useN (sf_X12_laysAll_309 hfu s10 c11 r26 (by first | exact r27 | exact y_K.b0 (by omega) | exact y_K.k0 (by omega) | exact y_K.bk (by omega))) (fun v34 s29 hq => ?_)
  obtain ⟨c30, f31, o35, o36, o37, o38, o39, o40, rfl⟩ := hq
  refine T_vN ?_
  have f32 := z_Fr.tr (R := R_X12_moves_309) f12 f31 rs_X12_laysAll_309__X12_moves_309
  have t43 : s29 309 20 = r0 309 20 := (f31 309 20 (by decide)).trans t16
  have t44 : s29 316 0 = r0 316 0 := (f31 316 0 (by decide)).trans t21
  have t45 : s29 329 0 = r0 329 0 := (f31 329 0 (by decide)).trans t22
  have t46 : s29 329 1 = r0 329 1 := (f31 329 1 (by decide)).trans t23
  have u47 := CI_b c30 (k := 309) (j := 36) bd_309_36
  have u48 := CI_b c30 (k := 309) (j := 43) bd_309_43
  have u49 := CI_b c30 (k := 309) (j := 44) bd_309_44
  have u50 := CI_b c30 (k := 309) (j := 58) bd_309_58
  have r51 := y_TA.fr r24 (fun a b h => f31 a b (nq_X12_laysAll_309__316 a b h)) (fun a b h => f31 a b (nq_X12_laysAll_309__346 a b h)) (fun a b h => f31 a b (nq_X12_laysAll_309__361 a b h))
  have r52 := y_DD.fr r25 (f31 329 0 (by decide)) (f31 329 1 (by decide)) (fun b => f31 359 b (nr_X12_laysAll_309__359 b)) (fun b => f31 374 b (nr_X12_laysAll_309__374 b))
  have r53 := y_B.fr r26 (f31 309 20 (by decide)) (f31 316 0 (by decide)) (fun b => f31 3220 b (nr_X12_laysAll_309__3220 b)) (fun b => f31 3221 b (nr_X12_laysAll_309__3221 b)) (fun b => f31 3222 b (nr_X12_laysAll_309__3222 b)) (fun b => f31 361 b (nr_X12_laysAll_309__361 b))
  have r54 := y_SE.fr r28 (fun b => f31 312 b (nr_X12_laysAll_309__312 b))
  clear t16
  clear t21
  clear t22
  clear t23
  refine sl_X12_moves_309_L11 hfu r0 (fun s55 c56 f57 g58 g59 g60 g61 g62 => ?_) fu s29 0 c30 f32 (by omega) r54 r51 (by first | exact r52 | exact y_DD.z (by omega) (by omega)) r53 (by first | exact o35 | exact y_K.b0 (by omega) | exact y_K.k0 (by omega) | exact y_K.bk (by omega) | exact y_K.mk o36 (by omega) o37) (by omega)
  have u63 := CI_b c56 (k := 309) (j := 20) bd_309_20
  have u64 := CI_b c56 (k := 309) (j := 36) bd_309_36
  have u65 := CI_b c56 (k := 309) (j := 43) bd_309_43
  have u66 := CI_b c56 (k := 309) (j := 44) bd_309_44
  have u67 := CI_b c56 (k := 309) (j := 58) bd_309_58
  have u68 := CI_b c56 (k := 316) (j := 0) bd_316_0
  have u69 := CI_b c56 (k := 329) (j := 0) bd_329_0
  have u70 := CI_b c56 (k := 329) (j := 1) bd_329_1
  have t71 : s55 309 20 = r0 309 20 := f57 309 20 (by decide)
  have t72 : s55 316 0 = r0 316 0 := f57 316 0 (by decide)
  have t73 : s55 329 0 = r0 329 0 := f57 329 0 (by decide)
  have t74 : s55 329 1 = r0 329 1 := f57 329 1 (by decide)
  refine T_if1 (by decide +kernel) ?_
  refine T_useN (sf_X12_turnsOver_309 hfu s55 c56 g61 (by first | exact g62 | exact y_K.b0 (by omega) | exact y_K.k0 (by omega) | exact y_K.bk (by omega))) (fun v80 s75 hq => ?_)
  obtain ⟨c76, f77, o81, o82, rfl⟩ := hq
  refine T_vN ?_
  have f78 := z_Fr.tr (R := R_X12_moves_309) f57 f77 rs_X12_turnsOver_309__X12_moves_309
  have t85 : s75 309 20 = s55 309 20 := f77 309 20 (by decide)
  have t86 : s75 316 0 = s55 316 0 := f77 316 0 (by decide)
  have t87 : s75 329 0 = s55 329 0 := f77 329 0 (by decide)
  have t88 : s75 329 1 = s55 329 1 := f77 329 1 (by decide)
  have u89 := CI_b c76 (k := 309) (j := 36) bd_309_36
  have u90 := CI_b c76 (k := 309) (j := 43) bd_309_43
  have u91 := CI_b c76 (k := 309) (j := 44) bd_309_44
  have u92 := CI_b c76 (k := 309) (j := 58) bd_309_58
  have r93 := y_TA.fr g59 (fun a b h => f77 a b (nq_X12_turnsOver_309__316 a b h)) (fun a b h => f77 a b (nq_X12_turnsOver_309__346 a b h)) (fun a b h => f77 a b (nq_X12_turnsOver_309__361 a b h))
  have r94 := y_DD.fr g60 (f77 329 0 (by decide)) (f77 329 1 (by decide)) (fun b => f77 359 b (nr_X12_turnsOver_309__359 b)) (fun b => f77 374 b (nr_X12_turnsOver_309__374 b))
  have r95 := y_B.fr g61 (f77 309 20 (by decide)) (f77 316 0 (by decide)) (fun b => f77 3220 b (nr_X12_turnsOver_309__3220 b)) (fun b => f77 3221 b (nr_X12_turnsOver_309__3221 b)) (fun b => f77 3222 b (nr_X12_turnsOver_309__3222 b)) (fun b => f77 361 b (nr_X12_turnsOver_309__361 b))
  have r96 := y_S5.of o82 g58
  refine sl_X12_moves_309_L45 hfu r0 (fun s97 y100 c98 f99 b101 g102 g103 g104 g105 g106 => ?_) fu s75 0 0 c76 f78 (by omega) (by omega) (by first | exact r96 | exact o82) r93 (by first | exact r94 | exact y_DD.z (by omega) (by omega)) r95 (by first | exact o81 | exact y_K.b0 (by omega) | exact y_K.k0 (by omega) | exact y_K.bk (by omega)) (by omega)
  have u107 := CI_b c98 (k := 309) (j := 20) bd_309_20
  have u108 := CI_b c98 (k := 309) (j := 36) bd_309_36
  have u109 := CI_b c98 (k := 309) (j := 43) bd_309_43
  have u110 := CI_b c98 (k := 309) (j := 44) bd_309_44
  have u111 := CI_b c98 (k := 309) (j := 58) bd_309_58
  have u112 := CI_b c98 (k := 316) (j := 0) bd_316_0
  have u113 := CI_b c98 (k := 329) (j := 0) bd_329_0
  have u114 := CI_b c98 (k := 329) (j := 1) bd_329_1
  have t115 : s97 309 20 = r0 309 20 := f99 309 20 (by decide)
  have t116 : s97 316 0 = r0 316 0 := f99 316 0 (by decide)
  have t117 : s97 329 0 = r0 329 0 := f99 329 0 (by decide)
  have t118 : s97 329 1 = r0 329 1 := f99 329 1 (by decide)
  refine T_if1 (by decide +kernel) ?_
  refine T_useN (sf_X12_turnsOver_309 hfu s97 c98 g105 (by first | exact g106 | exact y_K.b0 (by omega) | exact y_K.k0 (by omega) | exact y_K.bk (by omega))) (fun v124 s119 hq => ?_)
  obtain ⟨c120, f121, o125, o126, rfl⟩ := hq
  refine T_vN ?_
  have f122 := z_Fr.tr (R := R_X12_moves_309) f99 f121 rs_X12_turnsOver_309__X12_moves_309
  have t129 : s119 309 20 = s97 309 20 := f121 309 20 (by decide)
  have t130 : s119 316 0 = s97 316 0 := f121 316 0 (by decide)
  have t131 : s119 329 0 = s97 329 0 := f121 329 0 (by decide)
  have t132 : s119 329 1 = s97 329 1 := f121 329 1 (by decide)
  have u133 := CI_b c120 (k := 309) (j := 36) bd_309_36
  have u134 := CI_b c120 (k := 309) (j := 43) bd_309_43
  have u135 := CI_b c120 (k := 309) (j := 44) bd_309_44
  have u136 := CI_b c120 (k := 309) (j := 58) bd_309_58
  have r137 := y_TA.fr g103 (fun a b h => f121 a b (nq_X12_turnsOver_309__316 a b h)) (fun a b h => f121 a b (nq_X12_turnsOver_309__346 a b h)) (fun a b h => f121 a b (nq_X12_turnsOver_309__361 a b h))
  have r138 := y_DD.fr g104 (f121 329 0 (by decide)) (f121 329 1 (by decide)) (fun b => f121 359 b (nr_X12_turnsOver_309__359 b)) (fun b => f121 374 b (nr_X12_turnsOver_309__374 b))
  have r139 := y_B.fr g105 (f121 309 20 (by decide)) (f121 316 0 (by decide)) (fun b => f121 3220 b (nr_X12_turnsOver_309__3220 b)) (fun b => f121 3221 b (nr_X12_turnsOver_309__3221 b)) (fun b => f121 3222 b (nr_X12_turnsOver_309__3222 b)) (fun b => f121 361 b (nr_X12_turnsOver_309__361 b))
  have r140 := y_SE.two g102 o126 (CI_b c0 (k := 312) (j := 5) (bdr_312 5))
  exact T_ret ⟨c120, f122, r140, r137, (by first | exact r138 | exact y_DD.z (by omega) (by omega)), r139, (by first | exact o125 | exact y_K.b0 (by omega) | exact y_K.k0 (by omega) | exact y_K.bk (by omega)), ⟨y100, rfl, by omega, by omega⟩⟩
abbrev R_X12_lend_309 (a b : Int) : Prop := (310 ≤ a ∧ a ≤ 312) ∨ (3224 ≤ a ∧ a ≤ 3233) ∨ (a = 309 ∧ (b = 0 ∨ b = 35 ∨ b = 43))
abbrev P_X12_lend_309 (r0 : z_M) : z_V → z_M → Prop := fun v s' => z_CI s' ∧ z_Fr R_X12_lend_309 r0 s' ∧ (y_SE r0 s') ∧ (y_TA s') ∧ (y_DD s') ∧ (y_B s') ∧ (y_K s') ∧ (∃ x, v = vI x ∧ -2147483648 ≤ x ∧ x ≤ 2147483647)
theorem rs_X12_bad_309__X12_lend_309 (a b : Int) (h : R_X12_bad_309 a b) : R_X12_lend_309 a b := (h.elim (fun h => (Or.inl (⟨by omega, by omega⟩))) (fun h => (Or.inr (Or.inr (⟨h.1, by omega⟩)))))
theorem nr_X12_bad_309__312 (b : Int) : ¬ R_X12_bad_309 312 b := by
  unfold R_X12_bad_309; omega
theorem rs_X12_lays_309__X12_lend_309 (a b : Int) (h : R_X12_lays_309 a b) : R_X12_lend_309 a b := (h.elim (fun h => (Or.inr (Or.inl (⟨by omega, by omega⟩)))) (fun h => (Or.inr (Or.inr (⟨h.1, by omega⟩)))))
theorem nq_X12_lays_309__316 (a b : Int) (h : 316 ≤ a ∧ a ≤ 328) : ¬ R_X12_lays_309 a b := by
  unfold R_X12_lays_309; omega
theorem nq_X12_lays_309__346 (a b : Int) (h : 346 ≤ a ∧ a ≤ 358) : ¬ R_X12_lays_309 a b := by
  unfold R_X12_lays_309; omega
theorem nq_X12_lays_309__361 (a b : Int) (h : 361 ≤ a ∧ a ≤ 373) : ¬ R_X12_lays_309 a b := by
  unfold R_X12_lays_309; omega
theorem nr_X12_lays_309__359 (b : Int) : ¬ R_X12_lays_309 359 b := by
  unfold R_X12_lays_309; omega
theorem nr_X12_lays_309__374 (b : Int) : ¬ R_X12_lays_309 374 b := by
  unfold R_X12_lays_309; omega
theorem nr_X12_lays_309__312 (b : Int) : ¬ R_X12_lays_309 312 b := by
  unfold R_X12_lays_309; omega
theorem sj_X12_lend_309_J107 {fu : Nat} (hfu : 8589934592 ≤ fu) (r0 s : z_M) (c : z_CI s) (f : z_Fr R_X12_lend_309 r0 s) (a1 : Int) (a2 : Int) (a3 : Int) (a4 : Int) (a5 : Int) (b1 : -2147483648 ≤ a1 ∧ a1 ≤ 2147483647) (b2 : -2147483648 ≤ a2 ∧ a2 ≤ 2147483647) (b3 : -2147483648 ≤ a3 ∧ a3 ≤ 2147483647) (b4 : -2147483648 ≤ a4 ∧ a4 ≤ 2147483647) (b5 : 0 ≤ a5 ∧ a5 ≤ 6) (p0 : y_S2 r0 s) (p1 : y_TA s) (p2 : y_DD s) (p3 : y_B s) (p4 : y_K s) (M : Int) (pm : 2147483647 - a5 ≤ M) {r : z_M → Int → Int → Int → z_O} {k : z_M → Int → Int → z_O} (hr : ∀ (s' : z_M) (v3 : Int) (v4 : Int) (v5 : Int), z_CI s' → z_Fr R_X12_lend_309 r0 s' → (-2147483648 ≤ v3 ∧ v3 ≤ 2147483647) → (-2147483648 ≤ v4 ∧ v4 ≤ 2147483647) → (0 ≤ v5 ∧ v5 ≤ 7) → (y_S2 r0 s') → (y_TA s') → (y_DD s') → (y_B s') → (y_K s') → (2147483647 - v5 < M) → z_T (r s' v3 v4 v5) (P_X12_lend_309 r0)) (hk : ∀ (s' : z_M) (v3 : Int) (v4 : Int), z_CI s' → z_Fr R_X12_lend_309 r0 s' → (-2147483648 ≤ v3 ∧ v3 ≤ 2147483647) → (-2147483648 ≤ v4 ∧ v4 ≤ 2147483647) → (y_S2 r0 s') → (y_TA s') → (y_DD s') → (y_B s') → (y_K s') → z_T (k s' v3 v4) (P_X12_lend_309 r0)) : z_T (fX12_lend_J107 fu s 309 a1 a2 a3 a4 a5 r k) (P_X12_lend_309 r0) := by
  refine T_of (fX12_lend_J107.eq_1 ..) ?_
  have u1 := CI_b c (k := 309) (j := 20) bd_309_20
  have u2 := CI_b c (k := 309) (j := 36) bd_309_36
  have u3 := CI_b c (k := 309) (j := 43) bd_309_43
  have u4 := CI_b c (k := 309) (j := 44) bd_309_44
  have u5 := CI_b c (k := 309) (j := 58) bd_309_58
  have u6 := CI_b c (k := 316) (j := 0) bd_316_0
  have u7 := CI_b c (k := 329) (j := 0) bd_329_0
  have u8 := CI_b c (k := 329) (j := 1) bd_329_1
  have t9 : s 309 20 = r0 309 20 := f 309 20 (by decide)
  have t10 : s 309 36 = r0 309 36 := f 309 36 (by decide)
  have t11 : s 309 44 = r0 309 44 := f 309 44 (by decide)
  have t12 : s 309 58 = r0 309 58 := f 309 58 (by decide)
  have t13 : s 316 0 = r0 316 0 := f 316 0 (by decide)
  have t14 : s 329 0 = r0 329 0 := f 329 0 (by decide)
  have t15 : s 329 1 = r0 329 1 := f 329 1 (by decide)
  refine T_leq (fun x16 e17 => ?_)
  first | (have w18 := z_wx e17 (by omega)) | (have w18 := z_wr e17)
  exact hr s a3 a4 x16 c f (by omega) (by omega) (by omega) p0 p1 (by first | exact p2 | exact y_DD.z (by omega) (by omega)) p3 (by first | exact p4 | exact y_K.b0 (by omega) | exact y_K.k0 (by omega) | exact y_K.bk (by omega)) (by omega)
theorem sj_X12_lend_309_J100 {fu : Nat} (hfu : 8589934592 ≤ fu) (r0 s : z_M) (c : z_CI s) (f : z_Fr R_X12_lend_309 r0 s) (a1 : Int) (a2 : Int) (a5 : Int) (a6 : Int) (b1 : -2147483648 ≤ a1 ∧ a1 ≤ 2147483647) (b2 : -2147483648 ≤ a2 ∧ a2 ≤ 2147483647) (b5 : 0 ≤ a5 ∧ a5 ≤ 6) (b6 : -2147483648 ≤ a6 ∧ a6 ≤ 2147483647) (p0 : y_S2 r0 s) (p1 : y_TA s) (p2 : y_DD s) (p3 : y_B s) (p4 : y_K s) (M : Int) (pm : 2147483647 - a5 ≤ M) {r : z_M → Int → Int → Int → z_O} {k : z_M → Int → Int → z_O} (hr : ∀ (s' : z_M) (v3 : Int) (v4 : Int) (v5 : Int), z_CI s' → z_Fr R_X12_lend_309 r0 s' → (-2147483648 ≤ v3 ∧ v3 ≤ 2147483647) → (-2147483648 ≤ v4 ∧ v4 ≤ 2147483647) → (0 ≤ v5 ∧ v5 ≤ 7) → (y_S2 r0 s') → (y_TA s') → (y_DD s') → (y_B s') → (y_K s') → (2147483647 - v5 < M) → z_T (r s' v3 v4 v5) (P_X12_lend_309 r0)) (hk : ∀ (s' : z_M) (v3 : Int) (v4 : Int), z_CI s' → z_Fr R_X12_lend_309 r0 s' → (-2147483648 ≤ v3 ∧ v3 ≤ 2147483647) → (-2147483648 ≤ v4 ∧ v4 ≤ 2147483647) → (y_S2 r0 s') → (y_TA s') → (y_DD s') → (y_B s') → (y_K s') → z_T (k s' v3 v4) (P_X12_lend_309 r0)) : z_T (fX12_lend_J100 fu s 309 a1 a2 a5 a6 r k) (P_X12_lend_309 r0) := by
  refine T_of (fX12_lend_J100.eq_1 ..) ?_
  have u1 := CI_b c (k := 309) (j := 20) bd_309_20
  have u2 := CI_b c (k := 309) (j := 36) bd_309_36
  have u3 := CI_b c (k := 309) (j := 43) bd_309_43
  have u4 := CI_b c (k := 309) (j := 44) bd_309_44
  have u5 := CI_b c (k := 309) (j := 58) bd_309_58
  have u6 := CI_b c (k := 316) (j := 0) bd_316_0
  have u7 := CI_b c (k := 329) (j := 0) bd_329_0
  have u8 := CI_b c (k := 329) (j := 1) bd_329_1
  have t9 : s 309 20 = r0 309 20 := f 309 20 (by decide)
  have t10 : s 309 36 = r0 309 36 := f 309 36 (by decide)
  have t11 : s 309 44 = r0 309 44 := f 309 44 (by decide)
  have t12 : s 309 58 = r0 309 58 := f 309 58 (by decide)
  have t13 : s 316 0 = r0 316 0 := f 316 0 (by decide)
  have t14 : s 329 0 = r0 329 0 := f 329 0 (by decide)
  have t15 : s 329 1 = r0 329 1 := f 329 1 (by decide)
  exact sj_X12_lend_309_J107 hfu r0 s c f a1 a2 a5 a6 a5 (by omega) (by omega) (by omega) (by omega) (by omega) p0 p1 (by first | exact p2 | exact y_DD.z (by omega) (by omega)) p3 (by first | exact p4 | exact y_K.b0 (by omega) | exact y_K.k0 (by omega) | exact y_K.bk (by omega)) M (by omega) (fun s' v3 v4 v5 c' f' w3 w4 w5 z0 z1 z2 z3 z4 pg => hr s' v3 v4 v5 c' f' w3 w4 w5 z0 z1 z2 z3 z4 (by omega)) hk
theorem sj_X12_lend_309_J82 {fu : Nat} (hfu : 8589934592 ≤ fu) (r0 s : z_M) (c : z_CI s) (f : z_Fr R_X12_lend_309 r0 s) (a1 : Int) (a2 : Int) (a3 : Int) (a4 : Int) (a5 : Int) (t0 : Int) (b1 : -2147483648 ≤ a1 ∧ a1 ≤ 2147483647) (b2 : -2147483648 ≤ a2 ∧ a2 ≤ 2147483647) (b3 : -2147483648 ≤ a3 ∧ a3 ≤ 2147483647) (b4 : -2147483648 ≤ a4 ∧ a4 ≤ 2147483647) (b5 : 0 ≤ a5 ∧ a5 ≤ 6) (d0 : -2147483648 ≤ t0 ∧ t0 ≤ 2147483647) (p0 : y_S2 r0 s) (p1 : y_TA s) (p2 : y_DD s) (p3 : y_B s) (p4 : y_K s) (M : Int) (pm : 2147483647 - a5 ≤ M) {r : z_M → Int → Int → Int → z_O} {k : z_M → Int → Int → z_O} (hr : ∀ (s' : z_M) (v3 : Int) (v4 : Int) (v5 : Int), z_CI s' → z_Fr R_X12_lend_309 r0 s' → (-2147483648 ≤ v3 ∧ v3 ≤ 2147483647) → (-2147483648 ≤ v4 ∧ v4 ≤ 2147483647) → (0 ≤ v5 ∧ v5 ≤ 7) → (y_S2 r0 s') → (y_TA s') → (y_DD s') → (y_B s') → (y_K s') → (2147483647 - v5 < M) → z_T (r s' v3 v4 v5) (P_X12_lend_309 r0)) (hk : ∀ (s' : z_M) (v3 : Int) (v4 : Int), z_CI s' → z_Fr R_X12_lend_309 r0 s' → (-2147483648 ≤ v3 ∧ v3 ≤ 2147483647) → (-2147483648 ≤ v4 ∧ v4 ≤ 2147483647) → (y_S2 r0 s') → (y_TA s') → (y_DD s') → (y_B s') → (y_K s') → z_T (k s' v3 v4) (P_X12_lend_309 r0)) : z_T (fX12_lend_J82 fu s 309 a1 a2 a3 a4 a5 t0 r k) (P_X12_lend_309 r0) := by
  refine T_of (fX12_lend_J82.eq_1 ..) ?_
  have u1 := CI_b c (k := 309) (j := 20) bd_309_20
  have u2 := CI_b c (k := 309) (j := 36) bd_309_36
  have u3 := CI_b c (k := 309) (j := 43) bd_309_43
  have u4 := CI_b c (k := 309) (j := 44) bd_309_44
  have u5 := CI_b c (k := 309) (j := 58) bd_309_58
  have u6 := CI_b c (k := 316) (j := 0) bd_316_0
  have u7 := CI_b c (k := 329) (j := 0) bd_329_0
  have u8 := CI_b c (k := 329) (j := 1) bd_329_1
  have t9 : s 309 20 = r0 309 20 := f 309 20 (by decide)
  have t10 : s 309 36 = r0 309 36 := f 309 36 (by decide)
  have t11 : s 309 44 = r0 309 44 := f 309 44 (by decide)
  have t12 : s 309 58 = r0 309 58 := f 309 58 (by decide)
  have t13 : s 316 0 = r0 316 0 := f 316 0 (by decide)
  have t14 : s 329 0 = r0 329 0 := f 329 0 (by decide)
  have t15 : s 329 1 = r0 329 1 := f 329 1 (by decide)
  refine T_ite (fun h16 => ?_) (fun h16 => ?_)
  · exact sj_X12_lend_309_J100 hfu r0 s c f a1 a2 a5 t0 (by omega) (by omega) (by omega) (by omega) p0 p1 (by first | exact p2 | exact y_DD.z (by omega) (by omega)) p3 (by first | exact p4 | exact y_K.b0 (by omega) | exact y_K.k0 (by omega) | exact y_K.bk (by omega)) M (by omega) (fun s' v3 v4 v5 c' f' w3 w4 w5 z0 z1 z2 z3 z4 pg => hr s' v3 v4 v5 c' f' w3 w4 w5 z0 z1 z2 z3 z4 (by omega)) hk
  · refine T_ite (fun h17 => ?_) (fun h17 => ?_)
    · exact sj_X12_lend_309_J100 hfu r0 s c f a1 a2 a5 t0 (by omega) (by omega) (by omega) (by omega) p0 p1 (by first | exact p2 | exact y_DD.z (by omega) (by omega)) p3 (by first | exact p4 | exact y_K.b0 (by omega) | exact y_K.k0 (by omega) | exact y_K.bk (by omega)) M (by omega) (fun s' v3 v4 v5 c' f' w3 w4 w5 z0 z1 z2 z3 z4 pg => hr s' v3 v4 v5 c' f' w3 w4 w5 z0 z1 z2 z3 z4 (by omega)) hk
    · exact sj_X12_lend_309_J107 hfu r0 s c f a1 a2 a3 a4 a5 (by omega) (by omega) (by omega) (by omega) (by omega) p0 p1 (by first | exact p2 | exact y_DD.z (by omega) (by omega)) p3 (by first | exact p4 | exact y_K.b0 (by omega) | exact y_K.k0 (by omega) | exact y_K.bk (by omega)) M (by omega) (fun s' v3 v4 v5 c' f' w3 w4 w5 z0 z1 z2 z3 z4 pg => hr s' v3 v4 v5 c' f' w3 w4 w5 z0 z1 z2 z3 z4 (by omega)) hk
theorem sl_X12_lend_309_L45 {fu : Nat} (hfu : 8589934592 ≤ fu) (r0 : z_M) (a1 : Int) (a2 : Int) (b1 : -2147483648 ≤ a1 ∧ a1 ≤ 2147483647) (b2 : -2147483648 ≤ a2 ∧ a2 ≤ 2147483647) {k : z_M → Int → Int → z_O} (hk : ∀ (s' : z_M) (v3 : Int) (v4 : Int), z_CI s' → z_Fr R_X12_lend_309 r0 s' → (-2147483648 ≤ v3 ∧ v3 ≤ 2147483647) → (-2147483648 ≤ v4 ∧ v4 ≤ 2147483647) → (y_S2 r0 s') → (y_TA s') → (y_DD s') → (y_B s') → (y_K s') → z_T (k s' v3 v4) (P_X12_lend_309 r0)) : ∀ (F : Nat) (s : z_M) (a3 : Int) (a4 : Int) (a5 : Int), z_CI s → z_Fr R_X12_lend_309 r0 s → (-2147483648 ≤ a3 ∧ a3 ≤ 2147483647) → (-2147483648 ≤ a4 ∧ a4 ≤ 2147483647) → (0 ≤ a5 ∧ a5 ≤ 7) → (y_S2 r0 s) → (y_TA s) → (y_DD s) → (y_B s) → (y_K s) → (2147483647 - a5 < (F : Int)) → z_T (fX12_lend_L45 fu 309 a1 a2 F s a3 a4 a5 k) (P_X12_lend_309 r0) := by
  intro F
  induction F with
  | zero =>
    intro s a3 a4 a5 c f b3 b4 b5 i0 i1 i2 i3 i4 hm
    have u68 := CI_b c (k := 309) (j := 20) bd_309_20
    have u69 := CI_b c (k := 309) (j := 36) bd_309_36
    have u70 := CI_b c (k := 309) (j := 43) bd_309_43
    have u71 := CI_b c (k := 309) (j := 44) bd_309_44
    have u72 := CI_b c (k := 309) (j := 58) bd_309_58
    have u73 := CI_b c (k := 316) (j := 0) bd_316_0
    have u74 := CI_b c (k := 329) (j := 0) bd_329_0
    have u75 := CI_b c (k := 329) (j := 1) bd_329_1
    exfalso; omega
  | succ F ih =>
    intro s a3 a4 a5 c f b3 b4 b5 i0 i1 i2 i3 i4 hm
    refine T_of (fX12_lend_L45.eq_2 ..) ?_
    have u1 := CI_b c (k := 309) (j := 20) bd_309_20
    have u2 := CI_b c (k := 309) (j := 36) bd_309_36
    have u3 := CI_b c (k := 309) (j := 43) bd_309_43
    have u4 := CI_b c (k := 309) (j := 44) bd_309_44
    have u5 := CI_b c (k := 309) (j := 58) bd_309_58
    have u6 := CI_b c (k := 316) (j := 0) bd_316_0
    have u7 := CI_b c (k := 329) (j := 0) bd_329_0
    have u8 := CI_b c (k := 329) (j := 1) bd_329_1
    have t9 : s 309 20 = r0 309 20 := f 309 20 (by decide)
    have t10 : s 309 36 = r0 309 36 := f 309 36 (by decide)
    have t11 : s 309 44 = r0 309 44 := f 309 44 (by decide)
    have t12 : s 309 58 = r0 309 58 := f 309 58 (by decide)
    have t13 : s 316 0 = r0 316 0 := f 316 0 (by decide)
    have t14 : s 329 0 = r0 329 0 := f 329 0 (by decide)
    have t15 : s 329 1 = r0 329 1 := f 329 1 (by decide)
    refine T_ite (fun h16 => ?_) (fun h16 => ?_)
    · exact hk s a3 a4 c f (by omega) (by omega) i0 i1 (by first | exact i2 | exact y_DD.z (by omega) (by omega)) i3 (by first | exact i4 | exact y_K.b0 (by omega) | exact y_K.k0 (by omega) | exact y_K.bk (by omega))
    · refine T_if1 (by decide +kernel) ?_
      refine T_let 312 (by decide +kernel) ?_
      refine T_if1 (z_ixl (n := 9) (by decide +kernel) (by omega) (by omega)) ?_
      refine T_upg c (bdr_312 2) (by omega) (fun s17 c18 g20 g21 e22 => ?_)
      have f19 := z_Fr.up (R := R_X12_lend_309) f g20 (fun _ => (Or.inl (⟨by decide, by decide⟩)))
      have t23 : s17 309 20 = s 309 20 := g20 309 20 (by decide)
      have t24 : s17 309 36 = s 309 36 := g20 309 36 (by decide)
      have t25 : s17 309 43 = s 309 43 := g20 309 43 (by decide)
      have t26 : s17 309 44 = s 309 44 := g20 309 44 (by decide)
      have t27 : s17 309 58 = s 309 58 := g20 309 58 (by decide)
      have t28 : s17 316 0 = s 316 0 := g20 316 0 (by decide)
      have t29 : s17 329 0 = s 329 0 := g20 329 0 (by decide)
      have t30 : s17 329 1 = s 329 1 := g20 329 1 (by decide)
      have r31 := y_TA.fr i1 (fun a b h => g20 a b (by omega)) (fun a b h => g20 a b (by omega)) (fun a b h => g20 a b (by omega))
      have r32 := y_DD.fr i2 (g20 329 0 (by decide)) (g20 329 1 (by decide)) (fun b => g20 359 b (by decide)) (fun b => g20 374 b (by decide))
      have r33 := y_B.fr i3 (g20 309 20 (by decide)) (g20 316 0 (by decide)) (fun b => g20 3220 b (by decide)) (fun b => g20 3221 b (by decide)) (fun b => g20 3222 b (by decide)) (fun b => g20 361 b (by decide))
      have r34 := y_K.fr i4 (by omega) (by omega) (g20 309 44 (by decide)) (g20 309 20 (by decide)) (g20 309 58 (by decide)) (fun b => g20 3438 b (by decide)) (fun b => g20 3220 b (by decide)) (fun a b h => g20 a b (by omega))
      have r35 := y_S2.st i0 g21
      refine T_if1 (by decide +kernel) ?_
      refine T_leq (fun x36 e37 => ?_)
      have u38 := CI_b c18 (k := 309) (j := 20) bd_309_20
      refine T_ite (fun h39 => ?_) (fun h39 => ?_)
      · refine T_if1 (by decide +kernel) ?_
        refine T_leq (fun x40 e41 => ?_)
        have q42 : x36 = x40 := e37.symm.trans e41
        subst q42
        refine T_leq (fun x43 e44 => ?_)
        first | (have w45 := z_wx e44 (by omega)) | (have w45 := z_wr e44)
        refine T_if1 (by decide +kernel) ?_
        refine T_useI (sf_X12_lays_309 hfu s17 c18 0 x43 (by omega) (by omega) r33 (by omega) (by omega)) (fun v51 s46 hq => ?_)
        obtain ⟨c47, f48, o52, ⟨x50, rfl, b53, b54⟩⟩ := hq
        refine T_vI ?_
        have f49 := z_Fr.tr (R := R_X12_lend_309) f19 f48 rs_X12_lays_309__X12_lend_309
        have t55 : s46 309 20 = x36 := (f48 309 20 (by decide)).trans e37
        have t56 : s46 309 36 = s 309 36 := (f48 309 36 (by decide)).trans t24
        have t57 : s46 309 43 = s 309 43 := (f48 309 43 (by decide)).trans t25
        have t58 : s46 309 44 = s 309 44 := (f48 309 44 (by decide)).trans t26
        have t59 : s46 309 58 = s 309 58 := (f48 309 58 (by decide)).trans t27
        have t60 : s46 316 0 = s 316 0 := (f48 316 0 (by decide)).trans t28
        have t61 : s46 329 0 = s 329 0 := (f48 329 0 (by decide)).trans t29
        have t62 : s46 329 1 = s 329 1 := (f48 329 1 (by decide)).trans t30
        have r63 := y_TA.fr r31 (fun a b h => f48 a b (nq_X12_lays_309__316 a b h)) (fun a b h => f48 a b (nq_X12_lays_309__346 a b h)) (fun a b h => f48 a b (nq_X12_lays_309__361 a b h))
        have r64 := y_DD.fr r32 (f48 329 0 (by decide)) (f48 329 1 (by decide)) (fun b => f48 359 b (nr_X12_lays_309__359 b)) (fun b => f48 374 b (nr_X12_lays_309__374 b))
        have r65 := y_B.fr r33 (f48 309 20 (by decide)) (f48 316 0 (by decide)) (fun b => f48 3220 b (nr_X12_lays_309__3220 b)) (fun b => f48 3221 b (nr_X12_lays_309__3221 b)) (fun b => f48 3222 b (nr_X12_lays_309__3222 b)) (fun b => f48 361 b (nr_X12_lays_309__361 b))
        have r66 := y_K.fr r34 (by omega) (by omega) (f48 309 44 (by decide)) (f48 309 20 (by decide)) (f48 309 58 (by decide)) (fun b => f48 3438 b (nr_X12_lays_309__3438 b)) (fun b => f48 3220 b (nr_X12_lays_309__3220 b)) (fun a b h => f48 a b (nq_X12_lays_309__3452 a b h))
        have r67 := y_S2.fr r35 (fun b => f48 312 b (nr_X12_lays_309__312 b))
        clear t24
        clear t25
        clear t26
        clear t27
        clear t28
        clear t29
        clear t30
        exact sj_X12_lend_309_J82 hfu r0 s46 c47 f49 a1 a2 a3 a4 a5 x50 (by omega) (by omega) (by omega) (by omega) (by omega) (by omega) r67 r63 (by first | exact r64 | exact y_DD.z (by omega) (by omega)) r65 (by first | exact r66 | exact y_K.b0 (by omega) | exact y_K.k0 (by omega) | exact y_K.bk (by omega)) (2147483647 - a5) (by omega) (fun s' v3 v4 v5 c' f' w3 w4 w5 z0 z1 z2 z3 z4 pg => ih s' v3 v4 v5 c' f' w3 w4 w5 z0 z1 z2 z3 z4 (by omega)) hk
      · exact sj_X12_lend_309_J82 hfu r0 s17 c18 f19 a1 a2 a3 a4 a5 0 (by omega) (by omega) (by omega) (by omega) (by omega) (by omega) r35 r31 (by first | exact r32 | exact y_DD.z (by omega) (by omega)) r33 (by first | exact r34 | exact y_K.b0 (by omega) | exact y_K.k0 (by omega) | exact y_K.bk (by omega)) (2147483647 - a5) (by omega) (fun s' v3 v4 v5 c' f' w3 w4 w5 z0 z1 z2 z3 z4 pg => ih s' v3 v4 v5 c' f' w3 w4 w5 z0 z1 z2 z3 z4 (by omega)) hk
theorem sj_X12_lend_309_J135 {fu : Nat} (hfu : 8589934592 ≤ fu) (r0 s : z_M) (c : z_CI s) (f : z_Fr R_X12_lend_309 r0 s) (t0 : Int) (d0 : -2147483648 ≤ t0 ∧ t0 ≤ 2147483647) (p0 : y_SE r0 s) (p1 : y_TA s) (p2 : y_DD s) (p3 : y_B s) (p4 : y_K s) : z_T (fX12_lend_J135 fu s t0) (P_X12_lend_309 r0) := by
  refine T_of (fX12_lend_J135.eq_1 ..) ?_
  have u1 := CI_b c (k := 309) (j := 20) bd_309_20
  have u2 := CI_b c (k := 309) (j := 36) bd_309_36
  have u3 := CI_b c (k := 309) (j := 43) bd_309_43
  have u4 := CI_b c (k := 309) (j := 44) bd_309_44
  have u5 := CI_b c (k := 309) (j := 58) bd_309_58
  have u6 := CI_b c (k := 316) (j := 0) bd_316_0
  have u7 := CI_b c (k := 329) (j := 0) bd_329_0
  have u8 := CI_b c (k := 329) (j := 1) bd_329_1
  have t9 : s 309 20 = r0 309 20 := f 309 20 (by decide)
  have t10 : s 309 36 = r0 309 36 := f 309 36 (by decide)
  have t11 : s 309 44 = r0 309 44 := f 309 44 (by decide)
  have t12 : s 309 58 = r0 309 58 := f 309 58 (by decide)
  have t13 : s 316 0 = r0 316 0 := f 316 0 (by decide)
  have t14 : s 329 0 = r0 329 0 := f 329 0 (by decide)
  have t15 : s 329 1 = r0 329 1 := f 329 1 (by decide)
  exact T_ret ⟨c, f, p0, p1, (by first | exact p2 | exact y_DD.z (by omega) (by omega)), p3, (by first | exact p4 | exact y_K.b0 (by omega) | exact y_K.k0 (by omega) | exact y_K.bk (by omega)), ⟨t0, rfl, by omega, by omega⟩⟩
set_option maxHeartbeats 4000000 in
theorem sj_X12_lend_309_J20 {fu : Nat} (hfu : 8589934592 ≤ fu) (r0 s : z_M) (c : z_CI s) (f : z_Fr R_X12_lend_309 r0 s) (a1 : Int) (t1 : Int) (b1 : -2147483648 ≤ a1 ∧ a1 ≤ 2147483647) (d1 : 0 ≤ t1 ∧ t1 ≤ 1) (p0 : y_SE r0 s) (p1 : y_TA s) (p2 : y_DD s) (p3 : y_B s) (p4 : y_K s) : z_T (fX12_lend_J20 fu s 309 a1 309 t1) (P_X12_lend_309 r0) := by
  refine T_of (fX12_lend_J20.eq_1 ..) ?_
  have u1 := CI_b c (k := 309) (j := 20) bd_309_20
  have u2 := CI_b c (k := 309) (j := 36) bd_309_36
  have u3 := CI_b c (k := 309) (j := 43) bd_309_43
  have u4 := CI_b c (k := 309) (j := 44) bd_309_44
  have u5 := CI_b c (k := 309) (j := 58) bd_309_58
  have u6 := CI_b c (k := 316) (j := 0) bd_316_0
  have u7 := CI_b c (k := 329) (j := 0) bd_329_0
  have u8 := CI_b c (k := 329) (j := 1) bd_329_1
  have t9 : s 309 20 = r0 309 20 := f 309 20 (by decide)
  have t10 : s 309 36 = r0 309 36 := f 309 36 (by decide)
  have t11 : s 309 44 = r0 309 44 := f 309 44 (by decide)
  have t12 : s 309 58 = r0 309 58 := f 309 58 (by decide)
  have t13 : s 316 0 = r0 316 0 := f 316 0 (by decide)
  have t14 : s 329 0 = r0 329 0 := f 329 0 (by decide)
  have t15 : s 329 1 = r0 329 1 := f 329 1 (by decide)
  refine T_if1 (by decide +kernel) ?_
  refine T_useI (sf_X12_bad_309 hfu s c t1 1 1 (by omega) (by omega) (by omega) (by omega)) (fun v21 s16 hq => ?_)
  obtain ⟨c17, f18, o22, ⟨x20, rfl, b23, b24, o25, o26⟩⟩ := hq
  refine T_vI ?_
  have f19 := z_Fr.tr (R := R_X12_lend_309) f f18 rs_X12_bad_309__X12_lend_309
  have t27 : s16 309 20 = s 309 20 := f18 309 20 (by decide)
  have t28 : s16 309 36 = s 309 36 := f18 309 36 (by decide)
  have t29 : s16 309 43 = s 309 43 := f18 309 43 (by decide)
  have t30 : s16 309 44 = s 309 44 := f18 309 44 (by decide)
  have t31 : s16 309 58 = s 309 58 := f18 309 58 (by decide)
  have t32 : s16 316 0 = s 316 0 := f18 316 0 (by decide)
  have t33 : s16 329 0 = s 329 0 := f18 329 0 (by decide)
  have t34 : s16 329 1 = s 329 1 := f18 329 1 (by decide)
  have r35 := y_SE.fr p0 (fun b => f18 312 b (nr_X12_bad_309__312 b))
  have r36 := y_TA.fr p1 (fun a b h => f18 a b (nq_X12_bad_309__316 a b h)) (fun a b h => f18 a b (nq_X12_bad_309__346 a b h)) (fun a b h => f18 a b (nq_X12_bad_309__361 a b h))
  have r37 := y_DD.fr p2 (f18 329 0 (by decide)) (f18 329 1 (by decide)) (fun b => f18 359 b (nr_X12_bad_309__359 b)) (fun b => f18 374 b (nr_X12_bad_309__374 b))
  have r38 := y_B.fr p3 (f18 309 20 (by decide)) (f18 316 0 (by decide)) (fun b => f18 3220 b (nr_X12_bad_309__3220 b)) (fun b => f18 3221 b (nr_X12_bad_309__3221 b)) (fun b => f18 3222 b (nr_X12_bad_309__3222 b)) (fun b => f18 361 b (nr_X12_bad_309__361 b))
  have r39 := y_K.fr p4 (by omega) (by omega) (f18 309 44 (by decide)) (f18 309 20 (by decide)) (f18 309 58 (by decide)) (fun b => f18 3438 b (nr_X12_bad_309__3438 b)) (fun b => f18 3220 b (nr_X12_bad_309__3220 b)) (fun a b h => f18 a b (nq_X12_bad_309__3452 a b h))
  refine T_ite (fun h40 => ?_) (fun h40 => ?_)
  · refine T_if1 (by decide +kernel) ?_
    refine T_let 312 (by decide +kernel) ?_
    refine T_if1 (z_ixl (n := 9) (by decide +kernel) (by omega) (by omega)) ?_
    refine T_leq (fun x41 e42 => ?_)
    have u43 := CI_b c17 (k := 312) (j := 2) (bdr_312 2)
    have n44 := y_SE.at r35 2
    refine sl_X12_lend_309_L45 hfu r0 a1 x41 (by omega) (by omega) (fun s45 y48 y49 c46 f47 b50 b51 g52 g53 g54 g55 g56 => ?_) fu s16 0 (-1) 0 c17 f19 (by omega) (by omega) (by omega) (by first | exact y_S2.of r35) r36 (by first | exact r37 | exact y_DD.z (by omega) (by omega)) r38 (by first | exact r39 | exact y_K.b0 (by omega) | exact y_K.k0 (by omega) | exact y_K.bk (by omega)) (by omega)
    have u57 := CI_b c46 (k := 309) (j := 20) bd_309_20
    have u58 := CI_b c46 (k := 309) (j := 36) bd_309_36
    have u59 := CI_b c46 (k := 309) (j := 43) bd_309_43
    have u60 := CI_b c46 (k := 309) (j := 44) bd_309_44
    have u61 := CI_b c46 (k := 309) (j := 58) bd_309_58
    have u62 := CI_b c46 (k := 316) (j := 0) bd_316_0
    have u63 := CI_b c46 (k := 329) (j := 0) bd_329_0
    have u64 := CI_b c46 (k := 329) (j := 1) bd_329_1
    have t65 : s45 309 20 = r0 309 20 := f47 309 20 (by decide)
    have t66 : s45 309 36 = r0 309 36 := f47 309 36 (by decide)
    have t67 : s45 309 44 = r0 309 44 := f47 309 44 (by decide)
    have t68 : s45 309 58 = r0 309 58 := f47 309 58 (by decide)
    have t69 : s45 316 0 = r0 316 0 := f47 316 0 (by decide)
    have t70 : s45 329 0 = r0 329 0 := f47 329 0 (by decide)
    have t71 : s45 329 1 = r0 329 1 := f47 329 1 (by decide)
    refine T_if1 (by decide +kernel) ?_
    refine T_let 312 (by decide +kernel) ?_
    refine T_if1 (z_ixl (n := 9) (by decide +kernel) (by omega) (by omega)) ?_
    refine T_upg c46 (bdr_312 2) (by omega) (fun s72 c73 g75 g76 e77 => ?_)
    have f74 := z_Fr.up (R := R_X12_lend_309) f47 g75 (fun _ => (Or.inl (⟨by decide, by decide⟩)))
    have t78 : s72 309 20 = s45 309 20 := g75 309 20 (by decide)
    have t79 : s72 309 36 = s45 309 36 := g75 309 36 (by decide)
    have t80 : s72 309 43 = s45 309 43 := g75 309 43 (by decide)
    have t81 : s72 309 44 = s45 309 44 := g75 309 44 (by decide)
    have t82 : s72 309 58 = s45 309 58 := g75 309 58 (by decide)
    have t83 : s72 316 0 = s45 316 0 := g75 316 0 (by decide)
    have t84 : s72 329 0 = s45 329 0 := g75 329 0 (by decide)
    have t85 : s72 329 1 = s45 329 1 := g75 329 1 (by decide)
    have r86 := y_TA.fr g53 (fun a b h => g75 a b (by omega)) (fun a b h => g75 a b (by omega)) (fun a b h => g75 a b (by omega))
    have r87 := y_DD.fr g54 (g75 329 0 (by decide)) (g75 329 1 (by decide)) (fun b => g75 359 b (by decide)) (fun b => g75 374 b (by decide))
    have r88 := y_B.fr g55 (g75 309 20 (by decide)) (g75 316 0 (by decide)) (fun b => g75 3220 b (by decide)) (fun b => g75 3221 b (by decide)) (fun b => g75 3222 b (by decide)) (fun b => g75 361 b (by decide))
    have r89 := y_K.fr g56 (by omega) (by omega) (g75 309 44 (by decide)) (g75 309 20 (by decide)) (g75 309 58 (by decide)) (fun b => g75 3438 b (by decide)) (fun b => g75 3220 b (by decide)) (fun a b h => g75 a b (by omega))
    have r90 := y_SE.re g52 g76 e77 (by omega)
    refine T_if1 ⟨(by decide +kernel), by unfold z_bl; omega⟩ ?_
    refine T_upg c73 bd_309_43 (by omega) (fun s91 c92 g94 g95 e96 => ?_)
    have f93 := z_Fr.upf (R := R_X12_lend_309) f74 g94 g95 (Or.inr (Or.inr (⟨rfl, by decide⟩)))
    have t97 : s91 309 20 = s45 309 20 := (g95 20 (by decide)).trans t78
    have t98 : s91 309 36 = s45 309 36 := (g95 36 (by decide)).trans t79
    have t99 : s91 309 44 = s45 309 44 := (g95 44 (by decide)).trans t81
    have t100 : s91 309 58 = s45 309 58 := (g95 58 (by decide)).trans t82
    have t101 : s91 316 0 = s45 316 0 := (g94 316 0 (by decide)).trans t83
    have t102 : s91 329 0 = s45 329 0 := (g94 329 0 (by decide)).trans t84
    have t103 : s91 329 1 = s45 329 1 := (g94 329 1 (by decide)).trans t85
    have u104 := CI_b c92 (k := 309) (j := 43) bd_309_43
    have r105 := y_TA.fr r86 (fun a b h => g94 a b (by omega)) (fun a b h => g94 a b (by omega)) (fun a b h => g94 a b (by omega))
    have r106 := y_DD.fr r87 (g94 329 0 (by decide)) (g94 329 1 (by decide)) (fun b => g94 359 b (by decide)) (fun b => g94 374 b (by decide))
    have r107 := y_B.fr r88 (g95 20 (by decide)) (g94 316 0 (by decide)) (fun b => g94 3220 b (by decide)) (fun b => g94 3221 b (by decide)) (fun b => g94 3222 b (by decide)) (fun b => g94 361 b (by decide))
    have r108 := y_K.fr r89 (by omega) (by omega) (g95 44 (by decide)) (g95 20 (by decide)) (g95 58 (by decide)) (fun b => g94 3438 b (by decide)) (fun b => g94 3220 b (by decide)) (fun a b h => g94 a b (by omega))
    have r109 := y_SE.fr r90 (fun b => g94 312 b (by decide))
    clear t78
    clear t79
    clear t81
    clear t82
    clear t83
    clear t84
    clear t85
    refine T_ite (fun h110 => ?_) (fun h110 => ?_)
    · exact sj_X12_lend_309_J135 hfu r0 s91 c92 f93 y49 (by omega) r109 r105 (by first | exact r106 | exact y_DD.z (by omega) (by omega)) r107 (by first | exact r108 | exact y_K.b0 (by omega) | exact y_K.k0 (by omega) | exact y_K.bk (by omega))
    · exact sj_X12_lend_309_J135 hfu r0 s91 c92 f93 y48 (by omega) r109 r105 (by first | exact r106 | exact y_DD.z (by omega) (by omega)) r107 (by first | exact r108 | exact y_K.b0 (by omega) | exact y_K.k0 (by omega) | exact y_K.bk (by omega))
  · exact T_ret ⟨c17, f19, r35, r36, (by first | exact r37 | exact y_DD.z (by omega) (by omega)), r38, (by first | exact r39 | exact y_K.b0 (by omega) | exact y_K.k0 (by omega) | exact y_K.bk (by omega)), ⟨0, rfl, by omega, by omega⟩⟩
theorem sf_X12_lend_309 {fu : Nat} (hfu : 8589934592 ≤ fu) (r0 : z_M) (c0 : z_CI r0) (a1 : Int) (b1 : -2147483648 ≤ a1 ∧ a1 ≤ 2147483647) (p0 : y_TA r0) (p1 : y_DD r0) (p2 : y_B r0) (p3 : y_K r0) : z_T (fX12_lend fu r0 309 a1) (P_X12_lend_309 r0) := by
  refine T_of (fX12_lend.eq_1 ..) ?_
  have u1 := CI_b c0 (k := 309) (j := 20) bd_309_20
  have u2 := CI_b c0 (k := 309) (j := 36) bd_309_36
  have u3 := CI_b c0 (k := 309) (j := 43) bd_309_43
  have u4 := CI_b c0 (k := 309) (j := 44) bd_309_44
  have u5 := CI_b c0 (k := 309) (j := 58) bd_309_58
  have u6 := CI_b c0 (k := 316) (j := 0) bd_316_0
  have u7 := CI_b c0 (k := 329) (j := 0) bd_329_0
  have u8 := CI_b c0 (k := 329) (j := 1) bd_329_1
  have r9 : y_SE r0 r0 := y_SE.z
  refine T_if1 (by decide +kernel) ?_
  refine T_upg c0 bd_309_0 (by omega) (fun s10 c11 g13 g14 e15 => ?_)
  have f12 := z_Fr.upf (R := R_X12_lend_309) z_Fr.rf g13 g14 (Or.inr (Or.inr (⟨rfl, by decide⟩)))
  have t16 : s10 309 20 = r0 309 20 := g14 20 (by decide)
  have t17 : s10 309 36 = r0 309 36 := g14 36 (by decide)
  have t18 : s10 309 43 = r0 309 43 := g14 43 (by decide)
  have t19 : s10 309 44 = r0 309 44 := g14 44 (by decide)
  have t20 : s10 309 58 = r0 309 58 := g14 58 (by decide)
  have t21 : s10 316 0 = r0 316 0 := g13 316 0 (by decide)
  have t22 : s10 329 0 = r0 329 0 := g13 329 0 (by decide)
  have t23 : s10 329 1 = r0 329 1 := g13 329 1 (by decide)
  have r24 := y_TA.fr p0 (fun a b h => g13 a b (by omega)) (fun a b h => g13 a b (by omega)) (fun a b h => g13 a b (by omega))
  have r25 := y_DD.fr p1 (g13 329 0 (by decide)) (g13 329 1 (by decide)) (fun b => g13 359 b (by decide)) (fun b => g13 374 b (by decide))
  have r26 := y_B.fr p2 (g14 20 (by decide)) (g13 316 0 (by decide)) (fun b => g13 3220 b (by decide)) (fun b => g13 3221 b (by decide)) (fun b => g13 3222 b (by decide)) (fun b => g13 361 b (by decide))
  have r27 := y_K.fr p3 (by omega) (by omega) (g14 44 (by decide)) (g14 20 (by decide)) (g14 58 (by decide)) (fun b => g13 3438 b (by decide)) (fun b => g13 3220 b (by decide)) (fun a b h => g13 a b (by omega))
  have r28 := y_SE.fr r9 (fun b => g13 312 b (by decide))
  refine T_useI (sf_X12_in hfu s10 c11 a1 0 1 (by omega) (by omega) (by omega)) (fun v34 s29 hq => ?_)
  obtain ⟨c30, f31, ⟨x33, rfl, b35, b36, o37⟩⟩ := hq
  refine T_vI ?_
  have q38 := z_Fr.eq (fun a b h => h) f31
  subst q38
  refine T_ite (fun h39 => ?_) (fun h39 => ?_)
  · exact sj_X12_lend_309_J20 hfu r0 s10 c11 f12 a1 0 (by omega) (by omega) r28 r24 (by first | exact r25 | exact y_DD.z (by omega) (by omega)) r26 (by first | exact r27 | exact y_K.b0 (by omega) | exact y_K.k0 (by omega) | exact y_K.bk (by omega))
  · exact sj_X12_lend_309_J20 hfu r0 s10 c11 f12 a1 1 (by omega) (by omega) r28 r24 (by first | exact r25 | exact y_DD.z (by omega) (by omega)) r26 (by first | exact r27 | exact y_K.b0 (by omega) | exact y_K.k0 (by omega) | exact y_K.bk (by omega))
abbrev R_X12_lineOfBlock_309 (a b : Int) : Prop := False
abbrev P_X12_lineOfBlock_309 (r0 : z_M) : z_V → z_M → Prop := fun v s' => z_CI s' ∧ z_Fr R_X12_lineOfBlock_309 r0 s' ∧ (∃ x, v = vI x ∧ -2147483648 ≤ x ∧ x ≤ 2147483647)
theorem sf_X12_lineOfBlock_309 {fu : Nat} (hfu : 8589934592 ≤ fu) (r0 : z_M) (c0 : z_CI r0) (a1 : Int) (b1 : 0 ≤ a1 ∧ a1 ≤ 199) : z_T (fX12_lineOfBlock fu r0 309 a1) (P_X12_lineOfBlock_309 r0) := by
  refine T_of (fX12_lineOfBlock.eq_1 ..) ?_
  refine T_if1 (by decide +kernel) ?_
  refine T_let 3441 (by decide +kernel) ?_
  refine T_if1 (by decide +kernel) ?_
  refine T_let 3451 (by decide +kernel) ?_
  refine T_if1 (z_ixl (n := 200) (by decide +kernel) (by omega) (by omega)) ?_
  refine T_let (3452 + a1) (gr_3451 a1) ?_
  refine T_if1 (z_ixs (sh_r3451 (by omega)) (by omega) (by omega) (by omega)) ?_
  refine T_leq (fun x1 e2 => ?_)
  have u3 := CI_b c0 (k := (3452 + a1)) (j := 0) (bds_r3451_0 (by omega))
  refine T_if1 (z_ixl (n := 200) (by decide +kernel) (by omega) (by omega)) ?_
  refine T_leq (fun x4 e5 => ?_)
  have u6 := CI_b c0 (k := 3441) (j := x1) (bdr_3441 x1)
  exact T_ret ⟨c0, z_Fr.rf, ⟨x4, rfl, by omega, by omega⟩⟩
abbrev R_X12_nextBlock_309 (a b : Int) : Prop := False
abbrev P_X12_nextBlock_309 (r0 : z_M) (a1 : Int) (a2 : Int) : z_V → z_M → Prop := fun v s' => z_CI s' ∧ z_Fr R_X12_nextBlock_309 r0 s' ∧ (∃ x, v = vI x ∧ (-1) ≤ x ∧ x ≤ 199 ∧ (x = -1 ∨ (0 ≤ x ∧ x < r0 309 58 ∧ 1 ≤ y_ls r0 x a2)))
theorem sl_X12_nextBlock_309_L4 {fu : Nat} (hfu : 8589934592 ≤ fu) (r0 : z_M) (a1 : Int) (a2 : Int) (b1 : 0 ≤ a1 ∧ a1 ≤ 199) (b2 : 0 ≤ a2 ∧ a2 ≤ 1) {k : z_M → z_O} (hk : ∀ (s' : z_M), z_CI s' → z_Fr R_X12_nextBlock_309 r0 s' → z_T (k s') (P_X12_nextBlock_309 r0 a1 a2)) : ∀ (F : Nat) (s : z_M) (a3 : Int), z_CI s → z_Fr R_X12_nextBlock_309 r0 s → (0 ≤ a3 ∧ a3 ≤ 200) → (y_B s) → (y_BK s) → (a1 < s 309 58) → (2147483647 - a3 < (F : Int)) → z_T (fX12_nextBlock_L4 fu 309 a1 a2 F s a3 k) (P_X12_nextBlock_309 r0 a1 a2) := by
  intro F
  induction F with
  | zero =>
    intro s a3 c f b3 i0 i1 i2 hm
    have u45 := CI_b c (k := 309) (j := 20) bd_309_20
    have u46 := CI_b c (k := 309) (j := 58) bd_309_58
    have u47 := CI_b c (k := 316) (j := 0) bd_316_0
    exfalso; omega
  | succ F ih =>
    intro s a3 c f b3 i0 i1 i2 hm
    have qf := z_Fr.eq (fun a b h => h) f
    subst qf
    refine T_of (fX12_nextBlock_L4.eq_2 ..) ?_
    have u1 := CI_b c (k := 309) (j := 20) bd_309_20
    have u2 := CI_b c (k := 309) (j := 58) bd_309_58
    have u3 := CI_b c (k := 316) (j := 0) bd_316_0
    have t4 : r0 309 20 = r0 309 20 := f 309 20 (by exact not_false)
    have t5 : r0 309 58 = r0 309 58 := f 309 58 (by exact not_false)
    have t6 : r0 316 0 = r0 316 0 := f 316 0 (by exact not_false)
    refine T_if1 (by decide +kernel) ?_
    refine T_leq (fun x7 e8 => ?_)
    have u9 := CI_b c (k := 309) (j := 58) bd_309_58
    refine T_ite (fun h10 => ?_) (fun h10 => ?_)
    · exact hk r0 c f
    · refine T_if1 (by decide +kernel) ?_
      refine T_useI (sf_X12_lineOfBlock_309 hfu r0 c a3 (by omega)) (fun v16 s11 hq => ?_)
      obtain ⟨c12, f13, ⟨x15, rfl, b17, b18⟩⟩ := hq
      refine T_vI ?_
      have q19 := z_Fr.eq (fun a b h => h) f13
      subst q19
      refine T_if1 (by decide +kernel) ?_
      refine T_useI (sf_X12_lineOfBlock_309 hfu r0 c a1 (by omega)) (fun v25 s20 hq => ?_)
      obtain ⟨c21, f22, ⟨x24, rfl, b26, b27⟩⟩ := hq
      refine T_vI ?_
      have q28 := z_Fr.eq (fun a b h => h) f22
      subst q28
      refine T_ite (fun h29 => ?_) (fun h29 => ?_)
      · exact hk r0 c f
      · refine T_if1 (by decide +kernel) ?_
        refine T_useI (sf_X12_lettersIn_309 hfu r0 c a3 a2 (by omega) (by omega) i0 i1 (by omega)) (fun v35 s30 hq => ?_)
        obtain ⟨c31, f32, ⟨x34, rfl, b36, b37, o38, o39⟩⟩ := hq
        refine T_vI ?_
        have q40 := z_Fr.eq (fun a b h => h) f32
        subst q40
        refine T_ite (fun h41 => ?_) (fun h41 => ?_)
        · refine T_leq (fun x42 e43 => ?_)
          first | (have w44 := z_wx e43 (by omega)) | (have w44 := z_wr e43)
          exact ih r0 x42 c f (by omega) i0 i1 (by omega) (by omega)
        · exact T_ret ⟨c, f, ⟨a3, rfl, by omega, by omega, (by omega)⟩⟩
theorem sj_X12_nextBlock_309_J42 {fu : Nat} (hfu : 8589934592 ≤ fu) (r0 s : z_M) (c : z_CI s) (f : z_Fr R_X12_nextBlock_309 r0 s) (a1 : Int) (a2 : Int) : z_T (fX12_nextBlock_J42 fu s) (P_X12_nextBlock_309 r0 a1 a2) := by
  have qf := z_Fr.eq (fun a b h => h) f
  subst qf
  refine T_of (fX12_nextBlock_J42.eq_1 ..) ?_
  have u1 := CI_b c (k := 309) (j := 20) bd_309_20
  have u2 := CI_b c (k := 309) (j := 58) bd_309_58
  have u3 := CI_b c (k := 316) (j := 0) bd_316_0
  have t4 : r0 309 20 = r0 309 20 := f 309 20 (by exact not_false)
  have t5 : r0 309 58 = r0 309 58 := f 309 58 (by exact not_false)
  have t6 : r0 316 0 = r0 316 0 := f 316 0 (by exact not_false)
  exact T_ret ⟨c, f, ⟨(-1), rfl, by omega, by omega, (by omega)⟩⟩
theorem sf_X12_nextBlock_309 {fu : Nat} (hfu : 8589934592 ≤ fu) (r0 : z_M) (c0 : z_CI r0) (a1 : Int) (a2 : Int) (b1 : 0 ≤ a1 ∧ a1 ≤ 199) (b2 : 0 ≤ a2 ∧ a2 ≤ 1) (p0 : y_B r0) (p1 : y_BK r0) (p2 : a1 < r0 309 58) : z_T (fX12_nextBlock fu r0 309 a1 a2) (P_X12_nextBlock_309 r0 a1 a2) := by
  refine T_of (fX12_nextBlock.eq_1 ..) ?_
  have u1 := CI_b c0 (k := 309) (j := 20) bd_309_20
  have u2 := CI_b c0 (k := 309) (j := 58) bd_309_58
  have u3 := CI_b c0 (k := 316) (j := 0) bd_316_0
  refine T_leq (fun x4 e5 => ?_)
  first | (have w6 := z_wx e5 (by omega)) | (have w6 := z_wr e5)
  refine sl_X12_nextBlock_309_L4 hfu r0 a1 a2 (by omega) (by omega) (fun s7 c8 f9 => ?_) fu r0 x4 c0 z_Fr.rf (by omega) p0 p1 (by omega) (by omega)
  have q10 := z_Fr.eq (fun a b h => h) f9
  subst q10
  have u11 := CI_b c8 (k := 309) (j := 20) bd_309_20
  have u12 := CI_b c8 (k := 309) (j := 58) bd_309_58
  have u13 := CI_b c8 (k := 316) (j := 0) bd_316_0
  have t14 : r0 309 20 = r0 309 20 := f9 309 20 (by exact not_false)
  have t15 : r0 309 58 = r0 309 58 := f9 309 58 (by exact not_false)
  have t16 : r0 316 0 = r0 316 0 := f9 316 0 (by exact not_false)
  exact sj_X12_nextBlock_309_J42 hfu r0 r0 c8 f9 a1 a2
abbrev R_X12_nearest_309 (a b : Int) : Prop := (310 ≤ a ∧ a ≤ 310) ∨ (3224 ≤ a ∧ a ≤ 3651) ∨ (a = 309 ∧ (b = 0 ∨ b = 35 ∨ b = 36 ∨ b = 38 ∨ b = 39 ∨ b = 43 ∨ b = 44 ∨ b = 58))
abbrev P_X12_nearest_309 (r0 : z_M) : z_V → z_M → Prop := fun v s' => z_CI s' ∧ z_Fr R_X12_nearest_309 r0 s' ∧ (y_TA s') ∧ (y_DD s') ∧ (y_B s') ∧ (y_K s') ∧ (∃ x, v = vI x ∧ -2147483648 ≤ x ∧ x ≤ 2147483647)
theorem rs_X12_bad_309__X12_nearest_309 (a b : Int) (h : R_X12_bad_309 a b) : R_X12_nearest_309 a b := (h.elim (fun h => (Or.inl (⟨by omega, by omega⟩))) (fun h => (Or.inr (Or.inr (⟨h.1, by omega⟩)))))
theorem rs_X12_laysAll_309__X12_nearest_309 (a b : Int) (h : R_X12_laysAll_309 a b) : R_X12_nearest_309 a b := (h.elim (fun h => (Or.inr (Or.inl (⟨by omega, by omega⟩)))) (fun h => (Or.inr (Or.inr (⟨h.1, by omega⟩)))))
theorem sj_X12_nearest_309_J150 {fu : Nat} (hfu : 8589934592 ≤ fu) (r0 s : z_M) (c : z_CI s) (f : z_Fr R_X12_nearest_309 r0 s) (a1 : Int) (a2 : Int) (a3 : Int) (a4 : Int) (a5 : Int) (b1 : -2147483648 ≤ a1 ∧ a1 ≤ 2147483647) (b2 : -2147483648 ≤ a2 ∧ a2 ≤ 2147483647) (b3 : -2147483648 ≤ a3 ∧ a3 ≤ 2147483647) (b4 : 0 ≤ a4 ∧ a4 ≤ 199) (b5 : 0 ≤ a5 ∧ a5 ≤ 1) (p0 : y_BK s) (p1 : a4 < s 309 58) (p2 : y_TA s) (p3 : y_DD s) (p4 : y_B s) (p5 : y_K s) (M : Int) (pm : 2147483647 - a5 ≤ M) {r : z_M → Int → Int → Int → z_O} {k : z_M → Int → Int → z_O} (hr : ∀ (s' : z_M) (v2 : Int) (v3 : Int) (v5 : Int), z_CI s' → z_Fr R_X12_nearest_309 r0 s' → (-2147483648 ≤ v2 ∧ v2 ≤ 2147483647) → (-2147483648 ≤ v3 ∧ v3 ≤ 2147483647) → (0 ≤ v5 ∧ v5 ≤ 2) → (y_BK s') → (a4 < s' 309 58) → (y_TA s') → (y_DD s') → (y_B s') → (y_K s') → (2147483647 - v5 < M) → z_T (r s' v2 v3 v5) (P_X12_nearest_309 r0)) (hk : ∀ (s' : z_M) (v2 : Int) (v3 : Int), z_CI s' → z_Fr R_X12_nearest_309 r0 s' → (-2147483648 ≤ v2 ∧ v2 ≤ 2147483647) → (-2147483648 ≤ v3 ∧ v3 ≤ 2147483647) → (y_BK s') → (y_TA s') → (y_DD s') → (y_B s') → (y_K s') → z_T (k s' v2 v3) (P_X12_nearest_309 r0)) : z_T (fX12_nearest_J150 fu s 309 a1 a2 a3 a4 a5 r k) (P_X12_nearest_309 r0) := by
  refine T_of (fX12_nearest_J150.eq_1 ..) ?_
  have u1 := CI_b c (k := 309) (j := 20) bd_309_20
  have u2 := CI_b c (k := 309) (j := 36) bd_309_36
  have u3 := CI_b c (k := 309) (j := 43) bd_309_43
  have u4 := CI_b c (k := 309) (j := 44) bd_309_44
  have u5 := CI_b c (k := 309) (j := 58) bd_309_58
  have u6 := CI_b c (k := 316) (j := 0) bd_316_0
  have u7 := CI_b c (k := 329) (j := 0) bd_329_0
  have u8 := CI_b c (k := 329) (j := 1) bd_329_1
  have t9 : s 309 20 = r0 309 20 := f 309 20 (by decide)
  have t10 : s 316 0 = r0 316 0 := f 316 0 (by decide)
  have t11 : s 329 0 = r0 329 0 := f 329 0 (by decide)
  have t12 : s 329 1 = r0 329 1 := f 329 1 (by decide)
  refine T_leq (fun x13 e14 => ?_)
  first | (have w15 := z_wx e14 (by omega)) | (have w15 := z_wr e14)
  exact hr s a2 a3 x13 c f (by omega) (by omega) (by omega) (by first | exact p0 | exact y_K.B p5 (by omega) (by omega)) (by omega) p2 (by first | exact p3 | exact y_DD.z (by omega) (by omega)) p4 (by first | exact p5 | exact y_K.b0 (by omega) | exact y_K.k0 (by omega) | exact y_K.bk (by omega)) (by omega)
theorem sj_X12_nearest_309_J140 {fu : Nat} (hfu : 8589934592 ≤ fu) (r0 s : z_M) (c : z_CI s) (f : z_Fr R_X12_nearest_309 r0 s) (a1 : Int) (a4 : Int) (a5 : Int) (a8 : Int) (b1 : -2147483648 ≤ a1 ∧ a1 ≤ 2147483647) (b4 : 0 ≤ a4 ∧ a4 ≤ 199) (b5 : 0 ≤ a5 ∧ a5 ≤ 1) (b8 : -2147483648 ≤ a8 ∧ a8 ≤ 2147483647) (p0 : y_BK s) (p1 : a4 < s 309 58) (p2 : y_TA s) (p3 : y_DD s) (p4 : y_B s) (p5 : y_K s) (M : Int) (pm : 2147483647 - a5 ≤ M) {r : z_M → Int → Int → Int → z_O} {k : z_M → Int → Int → z_O} (hr : ∀ (s' : z_M) (v2 : Int) (v3 : Int) (v5 : Int), z_CI s' → z_Fr R_X12_nearest_309 r0 s' → (-2147483648 ≤ v2 ∧ v2 ≤ 2147483647) → (-2147483648 ≤ v3 ∧ v3 ≤ 2147483647) → (0 ≤ v5 ∧ v5 ≤ 2) → (y_BK s') → (a4 < s' 309 58) → (y_TA s') → (y_DD s') → (y_B s') → (y_K s') → (2147483647 - v5 < M) → z_T (r s' v2 v3 v5) (P_X12_nearest_309 r0)) (hk : ∀ (s' : z_M) (v2 : Int) (v3 : Int), z_CI s' → z_Fr R_X12_nearest_309 r0 s' → (-2147483648 ≤ v2 ∧ v2 ≤ 2147483647) → (-2147483648 ≤ v3 ∧ v3 ≤ 2147483647) → (y_BK s') → (y_TA s') → (y_DD s') → (y_B s') → (y_K s') → z_T (k s' v2 v3) (P_X12_nearest_309 r0)) : z_T (fX12_nearest_J140 fu s 309 a1 a4 a5 a8 r k) (P_X12_nearest_309 r0) := by
  refine T_of (fX12_nearest_J140.eq_1 ..) ?_
  have u1 := CI_b c (k := 309) (j := 20) bd_309_20
  have u2 := CI_b c (k := 309) (j := 36) bd_309_36
  have u3 := CI_b c (k := 309) (j := 43) bd_309_43
  have u4 := CI_b c (k := 309) (j := 44) bd_309_44
  have u5 := CI_b c (k := 309) (j := 58) bd_309_58
  have u6 := CI_b c (k := 316) (j := 0) bd_316_0
  have u7 := CI_b c (k := 329) (j := 0) bd_329_0
  have u8 := CI_b c (k := 329) (j := 1) bd_329_1
  have t9 : s 309 20 = r0 309 20 := f 309 20 (by decide)
  have t10 : s 316 0 = r0 316 0 := f 316 0 (by decide)
  have t11 : s 329 0 = r0 329 0 := f 329 0 (by decide)
  have t12 : s 329 1 = r0 329 1 := f 329 1 (by decide)
  refine T_if1 (by decide +kernel) ?_
  refine T_useI (sf_X12_lineOfBlock_309 hfu s c a4 (by omega)) (fun v18 s13 hq => ?_)
  obtain ⟨c14, f15, ⟨x17, rfl, b19, b20⟩⟩ := hq
  refine T_vI ?_
  have q21 := z_Fr.eq (fun a b h => h) f15
  subst q21
  exact sj_X12_nearest_309_J150 hfu r0 s c f a1 x17 a8 a4 a5 (by omega) (by omega) (by omega) (by omega) (by omega) (by first | exact p0 | exact y_K.B p5 (by omega) (by omega)) (by omega) p2 (by first | exact p3 | exact y_DD.z (by omega) (by omega)) p4 (by first | exact p5 | exact y_K.b0 (by omega) | exact y_K.k0 (by omega) | exact y_K.bk (by omega)) M (by omega) (fun s' v2 v3 v5 c' f' w2 w3 w5 z0 z1 z2 z3 z4 z5 pg => hr s' v2 v3 v5 c' f' w2 w3 w5 z0 z1 z2 z3 z4 z5 (by omega)) hk
theorem sj_X12_nearest_309_J88 {fu : Nat} (hfu : 8589934592 ≤ fu) (r0 s : z_M) (c : z_CI s) (f : z_Fr R_X12_nearest_309 r0 s) (a1 : Int) (a2 : Int) (a3 : Int) (a4 : Int) (a5 : Int) (a6 : Int) (t0 : Int) (b1 : -2147483648 ≤ a1 ∧ a1 ≤ 2147483647) (b2 : -2147483648 ≤ a2 ∧ a2 ≤ 2147483647) (b3 : -2147483648 ≤ a3 ∧ a3 ≤ 2147483647) (b4 : 0 ≤ a4 ∧ a4 ≤ 199) (b5 : 0 ≤ a5 ∧ a5 ≤ 1) (b6 : 0 ≤ a6 ∧ a6 ≤ 1800) (d0 : (-1) ≤ t0 ∧ t0 ≤ 199) (p0 : y_BK s) (p1 : a4 < s 309 58) (p2 : t0 = -1 ∨ (0 ≤ t0 ∧ t0 < s 309 58 ∧ 1 ≤ y_ls s t0 a5 ∧ 1 ≤ y_ls s a4 a5)) (p3 : y_TA s) (p4 : y_DD s) (p5 : y_B s) (p6 : y_K s) (M : Int) (pm : 2147483647 - a5 ≤ M) {r : z_M → Int → Int → Int → z_O} {k : z_M → Int → Int → z_O} (hr : ∀ (s' : z_M) (v2 : Int) (v3 : Int) (v5 : Int), z_CI s' → z_Fr R_X12_nearest_309 r0 s' → (-2147483648 ≤ v2 ∧ v2 ≤ 2147483647) → (-2147483648 ≤ v3 ∧ v3 ≤ 2147483647) → (0 ≤ v5 ∧ v5 ≤ 2) → (y_BK s') → (a4 < s' 309 58) → (y_TA s') → (y_DD s') → (y_B s') → (y_K s') → (2147483647 - v5 < M) → z_T (r s' v2 v3 v5) (P_X12_nearest_309 r0)) (hk : ∀ (s' : z_M) (v2 : Int) (v3 : Int), z_CI s' → z_Fr R_X12_nearest_309 r0 s' → (-2147483648 ≤ v2 ∧ v2 ≤ 2147483647) → (-2147483648 ≤ v3 ∧ v3 ≤ 2147483647) → (y_BK s') → (y_TA s') → (y_DD s') → (y_B s') → (y_K s') → z_T (k s' v2 v3) (P_X12_nearest_309 r0)) : z_T (fX12_nearest_J88 fu s 309 a1 a2 a3 a4 a5 a6 t0 r k) (P_X12_nearest_309 r0) := by
  refine T_of (fX12_nearest_J88.eq_1 ..) ?_
  have u1 := CI_b c (k := 309) (j := 20) bd_309_20
  have u2 := CI_b c (k := 309) (j := 36) bd_309_36
  have u3 := CI_b c (k := 309) (j := 43) bd_309_43
  have u4 := CI_b c (k := 309) (j := 44) bd_309_44
  have u5 := CI_b c (k := 309) (j := 58) bd_309_58
  have u6 := CI_b c (k := 316) (j := 0) bd_316_0
  have u7 := CI_b c (k := 329) (j := 0) bd_329_0
  have u8 := CI_b c (k := 329) (j := 1) bd_329_1
  have t9 : s 309 20 = r0 309 20 := f 309 20 (by decide)
  have t10 : s 316 0 = r0 316 0 := f 316 0 (by decide)
  have t11 : s 329 0 = r0 329 0 := f 329 0 (by decide)
  have t12 : s 329 1 = r0 329 1 := f 329 1 (by decide)
  refine T_ite (fun h13 => ?_) (fun h13 => ?_)
  · refine T_if1 (by decide +kernel) ?_
    refine T_useI (sf_X12_letterPlace_309 hfu s c t0 a5 0 (by omega) (by omega) (by omega) p5 (by first | exact p0 | exact y_K.B p6 (by omega) (by omega)) (by omega) (by omega)) (fun v19 s14 hq => ?_)
    obtain ⟨c15, f16, ⟨x18, rfl, b20, b21⟩⟩ := hq
    refine T_vI ?_
    have q22 := z_Fr.eq (fun a b h => h) f16
    subst q22
    refine T_leq (fun x23 e24 => ?_)
    first | (have w25 := z_wx e24 (by omega)) | (have w25 := z_wr e24)
    refine T_if1 (by decide +kernel) ?_
    refine T_useI (sf_X12_letterPlace_309 hfu s c a4 a5 x23 (by omega) (by omega) (by omega) p5 (by first | exact p0 | exact y_K.B p6 (by omega) (by omega)) (by omega) (by omega)) (fun v31 s26 hq => ?_)
    obtain ⟨c27, f28, ⟨x30, rfl, b32, b33⟩⟩ := hq
    refine T_vI ?_
    have q34 := z_Fr.eq (fun a b h => h) f28
    subst q34
    refine T_leq (fun x35 e36 => ?_)
    first | (have w37 := z_wx e36 (by omega)) | (have w37 := z_wr e36)
    refine T_leq (fun x38 e39 => ?_)
    first | (have w40 := z_wx e39 (by omega)) | (have w40 := z_wr e39)
    refine T_ite (fun h41 => ?_) (fun h41 => ?_)
    · exact sj_X12_nearest_309_J140 hfu r0 s c f a1 a4 a5 x38 (by omega) (by omega) (by omega) (by omega) (by first | exact p0 | exact y_K.B p6 (by omega) (by omega)) (by omega) p3 (by first | exact p4 | exact y_DD.z (by omega) (by omega)) p5 (by first | exact p6 | exact y_K.b0 (by omega) | exact y_K.k0 (by omega) | exact y_K.bk (by omega)) M (by omega) (fun s' v2 v3 v5 c' f' w2 w3 w5 z0 z1 z2 z3 z4 z5 pg => hr s' v2 v3 v5 c' f' w2 w3 w5 z0 z1 z2 z3 z4 z5 (by omega)) hk
    · refine T_ite (fun h42 => ?_) (fun h42 => ?_)
      · exact sj_X12_nearest_309_J140 hfu r0 s c f a1 a4 a5 x38 (by omega) (by omega) (by omega) (by omega) (by first | exact p0 | exact y_K.B p6 (by omega) (by omega)) (by omega) p3 (by first | exact p4 | exact y_DD.z (by omega) (by omega)) p5 (by first | exact p6 | exact y_K.b0 (by omega) | exact y_K.k0 (by omega) | exact y_K.bk (by omega)) M (by omega) (fun s' v2 v3 v5 c' f' w2 w3 w5 z0 z1 z2 z3 z4 z5 pg => hr s' v2 v3 v5 c' f' w2 w3 w5 z0 z1 z2 z3 z4 z5 (by omega)) hk
      · exact sj_X12_nearest_309_J150 hfu r0 s c f a1 a2 a3 a4 a5 (by omega) (by omega) (by omega) (by omega) (by omega) (by first | exact p0 | exact y_K.B p6 (by omega) (by omega)) (by omega) p3 (by first | exact p4 | exact y_DD.z (by omega) (by omega)) p5 (by first | exact p6 | exact y_K.b0 (by omega) | exact y_K.k0 (by omega) | exact y_K.bk (by omega)) M (by omega) (fun s' v2 v3 v5 c' f' w2 w3 w5 z0 z1 z2 z3 z4 z5 pg => hr s' v2 v3 v5 c' f' w2 w3 w5 z0 z1 z2 z3 z4 z5 (by omega)) hk
  · exact sj_X12_nearest_309_J150 hfu r0 s c f a1 a2 a3 a4 a5 (by omega) (by omega) (by omega) (by omega) (by omega) (by first | exact p0 | exact y_K.B p6 (by omega) (by omega)) (by omega) p3 (by first | exact p4 | exact y_DD.z (by omega) (by omega)) p5 (by first | exact p6 | exact y_K.b0 (by omega) | exact y_K.k0 (by omega) | exact y_K.bk (by omega)) M (by omega) (fun s' v2 v3 v5 c' f' w2 w3 w5 z0 z1 z2 z3 z4 z5 pg => hr s' v2 v3 v5 c' f' w2 w3 w5 z0 z1 z2 z3 z4 z5 (by omega)) hk
theorem sl_X12_nearest_309_L55 {fu : Nat} (hfu : 8589934592 ≤ fu) (r0 : z_M) (a1 : Int) (a4 : Int) (b1 : -2147483648 ≤ a1 ∧ a1 ≤ 2147483647) (b4 : 0 ≤ a4 ∧ a4 ≤ 199) {k : z_M → Int → Int → z_O} (hk : ∀ (s' : z_M) (v2 : Int) (v3 : Int), z_CI s' → z_Fr R_X12_nearest_309 r0 s' → (-2147483648 ≤ v2 ∧ v2 ≤ 2147483647) → (-2147483648 ≤ v3 ∧ v3 ≤ 2147483647) → (y_BK s') → (y_TA s') → (y_DD s') → (y_B s') → (y_K s') → z_T (k s' v2 v3) (P_X12_nearest_309 r0)) : ∀ (F : Nat) (s : z_M) (a2 : Int) (a3 : Int) (a5 : Int), z_CI s → z_Fr R_X12_nearest_309 r0 s → (-2147483648 ≤ a2 ∧ a2 ≤ 2147483647) → (-2147483648 ≤ a3 ∧ a3 ≤ 2147483647) → (0 ≤ a5 ∧ a5 ≤ 2) → (y_BK s) → (a4 < s 309 58) → (y_TA s) → (y_DD s) → (y_B s) → (y_K s) → (2147483647 - a5 < (F : Int)) → z_T (fX12_nearest_L55 fu 309 a1 a4 F s a2 a3 a5 k) (P_X12_nearest_309 r0) := by
  intro F
  induction F with
  | zero =>
    intro s a2 a3 a5 c f b2 b3 b5 i0 i1 i2 i3 i4 i5 hm
    have u36 := CI_b c (k := 309) (j := 20) bd_309_20
    have u37 := CI_b c (k := 309) (j := 36) bd_309_36
    have u38 := CI_b c (k := 309) (j := 43) bd_309_43
    have u39 := CI_b c (k := 309) (j := 44) bd_309_44
    have u40 := CI_b c (k := 309) (j := 58) bd_309_58
    have u41 := CI_b c (k := 316) (j := 0) bd_316_0
    have u42 := CI_b c (k := 329) (j := 0) bd_329_0
    have u43 := CI_b c (k := 329) (j := 1) bd_329_1
    exfalso; omega
  | succ F ih =>
    intro s a2 a3 a5 c f b2 b3 b5 i0 i1 i2 i3 i4 i5 hm
    refine T_of (fX12_nearest_L55.eq_2 ..) ?_
    have u1 := CI_b c (k := 309) (j := 20) bd_309_20
    have u2 := CI_b c (k := 309) (j := 36) bd_309_36
    have u3 := CI_b c (k := 309) (j := 43) bd_309_43
    have u4 := CI_b c (k := 309) (j := 44) bd_309_44
    have u5 := CI_b c (k := 309) (j := 58) bd_309_58
    have u6 := CI_b c (k := 316) (j := 0) bd_316_0
    have u7 := CI_b c (k := 329) (j := 0) bd_329_0
    have u8 := CI_b c (k := 329) (j := 1) bd_329_1
    have t9 : s 309 20 = r0 309 20 := f 309 20 (by decide)
    have t10 : s 316 0 = r0 316 0 := f 316 0 (by decide)
    have t11 : s 329 0 = r0 329 0 := f 329 0 (by decide)
    have t12 : s 329 1 = r0 329 1 := f 329 1 (by decide)
    refine T_ite (fun h13 => ?_) (fun h13 => ?_)
    · exact hk s a2 a3 c f (by omega) (by omega) (by first | exact i0 | exact y_K.B i5 (by omega) (by omega)) i2 (by first | exact i3 | exact y_DD.z (by omega) (by omega)) i4 (by first | exact i5 | exact y_K.b0 (by omega) | exact y_K.k0 (by omega) | exact y_K.bk (by omega))
    · refine T_if1 (by decide +kernel) ?_
      refine T_useI (sf_X12_lettersIn_309 hfu s c a4 a5 (by omega) (by omega) i4 (by first | exact i0 | exact y_K.B i5 (by omega) (by omega)) (by omega)) (fun v19 s14 hq => ?_)
      obtain ⟨c15, f16, ⟨x18, rfl, b20, b21, o22, o23⟩⟩ := hq
      refine T_vI ?_
      have q24 := z_Fr.eq (fun a b h => h) f16
      subst q24
      refine T_ite (fun h25 => ?_) (fun h25 => ?_)
      · refine T_if1 (by decide +kernel) ?_
        refine T_useI (sf_X12_nextBlock_309 hfu s c a4 a5 (by omega) (by omega) i4 (by first | exact i0 | exact y_K.B i5 (by omega) (by omega)) (by omega)) (fun v31 s26 hq => ?_)
        obtain ⟨c27, f28, ⟨x30, rfl, b32, b33, o34⟩⟩ := hq
        refine T_vI ?_
        have q35 := z_Fr.eq (fun a b h => h) f28
        subst q35
        exact sj_X12_nearest_309_J88 hfu r0 s c f a1 a2 a3 a4 a5 x18 x30 (by omega) (by omega) (by omega) (by omega) (by omega) (by omega) (by omega) (by first | exact i0 | exact y_K.B i5 (by omega) (by omega)) (by omega) (by omega) i2 (by first | exact i3 | exact y_DD.z (by omega) (by omega)) i4 (by first | exact i5 | exact y_K.b0 (by omega) | exact y_K.k0 (by omega) | exact y_K.bk (by omega)) (2147483647 - a5) (by omega) (fun s' v2 v3 v5 c' f' w2 w3 w5 z0 z1 z2 z3 z4 z5 pg => ih s' v2 v3 v5 c' f' w2 w3 w5 z0 z1 z2 z3 z4 z5 (by omega)) hk
      · exact sj_X12_nearest_309_J88 hfu r0 s c f a1 a2 a3 a4 a5 x18 (-1) (by omega) (by omega) (by omega) (by omega) (by omega) (by omega) (by omega) (by first | exact i0 | exact y_K.B i5 (by omega) (by omega)) (by omega) (by omega) i2 (by first | exact i3 | exact y_DD.z (by omega) (by omega)) i4 (by first | exact i5 | exact y_K.b0 (by omega) | exact y_K.k0 (by omega) | exact y_K.bk (by omega)) (2147483647 - a5) (by omega) (fun s' v2 v3 v5 c' f' w2 w3 w5 z0 z1 z2 z3 z4 z5 pg => ih s' v2 v3 v5 c' f' w2 w3 w5 z0 z1 z2 z3 z4 z5 (by omega)) hk
theorem sl_X12_nearest_309_L43 {fu : Nat} (hfu : 8589934592 ≤ fu) (r0 : z_M) (a1 : Int) (b1 : -2147483648 ≤ a1 ∧ a1 ≤ 2147483647) {k : z_M → Int → Int → z_O} (hk : ∀ (s' : z_M) (v2 : Int) (v3 : Int), z_CI s' → z_Fr R_X12_nearest_309 r0 s' → (-2147483648 ≤ v2 ∧ v2 ≤ 2147483647) → (-2147483648 ≤ v3 ∧ v3 ≤ 2147483647) → (y_TA s') → (y_DD s') → (y_B s') → (y_K s') → z_T (k s' v2 v3) (P_X12_nearest_309 r0)) : ∀ (F : Nat) (s : z_M) (a2 : Int) (a3 : Int) (a4 : Int), z_CI s → z_Fr R_X12_nearest_309 r0 s → (-2147483648 ≤ a2 ∧ a2 ≤ 2147483647) → (-2147483648 ≤ a3 ∧ a3 ≤ 2147483647) → (0 ≤ a4 ∧ a4 ≤ 200) → (y_BK s) → (y_TA s) → (y_DD s) → (y_B s) → (y_K s) → (2147483647 - a4 < (F : Int)) → z_T (fX12_nearest_L43 fu 309 a1 F s a2 a3 a4 k) (P_X12_nearest_309 r0) := by
  intro F
  induction F with
  | zero =>
    intro s a2 a3 a4 c f b2 b3 b4 i0 i1 i2 i3 i4 hm
    have u44 := CI_b c (k := 309) (j := 20) bd_309_20
    have u45 := CI_b c (k := 309) (j := 36) bd_309_36
    have u46 := CI_b c (k := 309) (j := 43) bd_309_43
    have u47 := CI_b c (k := 309) (j := 44) bd_309_44
    have u48 := CI_b c (k := 309) (j := 58) bd_309_58
    have u49 := CI_b c (k := 316) (j := 0) bd_316_0
    have u50 := CI_b c (k := 329) (j := 0) bd_329_0
    have u51 := CI_b c (k := 329) (j := 1) bd_329_1
    exfalso; omega
  | succ F ih =>
    intro s a2 a3 a4 c f b2 b3 b4 i0 i1 i2 i3 i4 hm
    refine T_of (fX12_nearest_L43.eq_2 ..) ?_
    have u1 := CI_b c (k := 309) (j := 20) bd_309_20
    have u2 := CI_b c (k := 309) (j := 36) bd_309_36
    have u3 := CI_b c (k := 309) (j := 43) bd_309_43
    have u4 := CI_b c (k := 309) (j := 44) bd_309_44
    have u5 := CI_b c (k := 309) (j := 58) bd_309_58
    have u6 := CI_b c (k := 316) (j := 0) bd_316_0
    have u7 := CI_b c (k := 329) (j := 0) bd_329_0
    have u8 := CI_b c (k := 329) (j := 1) bd_329_1
    have t9 : s 309 20 = r0 309 20 := f 309 20 (by decide)
    have t10 : s 316 0 = r0 316 0 := f 316 0 (by decide)
    have t11 : s 329 0 = r0 329 0 := f 329 0 (by decide)
    have t12 : s 329 1 = r0 329 1 := f 329 1 (by decide)
    refine T_if1 (by decide +kernel) ?_
    refine T_leq (fun x13 e14 => ?_)
    have u15 := CI_b c (k := 309) (j := 58) bd_309_58
    refine T_ite (fun h16 => ?_) (fun h16 => ?_)
    · exact hk s a2 a3 c f (by omega) (by omega) i1 (by first | exact i2 | exact y_DD.z (by omega) (by omega)) i3 (by first | exact i4 | exact y_K.b0 (by omega) | exact y_K.k0 (by omega) | exact y_K.bk (by omega))
    · refine sl_X12_nearest_309_L55 hfu r0 a1 a4 (by omega) (by omega) (fun s17 y20 y21 c18 f19 b22 b23 g24 g25 g26 g27 g28 => ?_) fu s a2 a3 0 c f (by omega) (by omega) (by omega) (by first | exact i0 | exact y_K.B i4 (by omega) (by omega)) (by omega) i1 (by first | exact i2 | exact y_DD.z (by omega) (by omega)) i3 (by first | exact i4 | exact y_K.b0 (by omega) | exact y_K.k0 (by omega) | exact y_K.bk (by omega)) (by omega)
      have u29 := CI_b c18 (k := 309) (j := 20) bd_309_20
      have u30 := CI_b c18 (k := 309) (j := 36) bd_309_36
      have u31 := CI_b c18 (k := 309) (j := 43) bd_309_43
      have u32 := CI_b c18 (k := 309) (j := 44) bd_309_44
      have u33 := CI_b c18 (k := 309) (j := 58) bd_309_58
      have u34 := CI_b c18 (k := 316) (j := 0) bd_316_0
      have u35 := CI_b c18 (k := 329) (j := 0) bd_329_0
      have u36 := CI_b c18 (k := 329) (j := 1) bd_329_1
      have t37 : s17 309 20 = r0 309 20 := f19 309 20 (by decide)
      have t38 : s17 316 0 = r0 316 0 := f19 316 0 (by decide)
      have t39 : s17 329 0 = r0 329 0 := f19 329 0 (by decide)
      have t40 : s17 329 1 = r0 329 1 := f19 329 1 (by decide)
      refine T_leq (fun x41 e42 => ?_)
      first | (have w43 := z_wx e42 (by omega)) | (have w43 := z_wr e42)
      exact ih s17 y20 y21 x41 c18 f19 (by omega) (by omega) (by omega) (by first | exact g24 | exact y_K.B g28 (by omega) (by omega)) g25 (by first | exact g26 | exact y_DD.z (by omega) (by omega)) g27 (by first | exact g28 | exact y_K.b0 (by omega) | exact y_K.k0 (by omega) | exact y_K.bk (by omega)) (by omega)
theorem sj_X12_nearest_309_J171 {fu : Nat} (hfu : 8589934592 ≤ fu) (r0 s : z_M) (c : z_CI s) (f : z_Fr R_X12_nearest_309 r0 s) (t0 : Int) (d0 : -2147483648 ≤ t0 ∧ t0 ≤ 2147483647) (p0 : y_TA s) (p1 : y_DD s) (p2 : y_B s) (p3 : y_K s) : z_T (fX12_nearest_J171 fu s t0) (P_X12_nearest_309 r0) := by
  refine T_of (fX12_nearest_J171.eq_1 ..) ?_
  have u1 := CI_b c (k := 309) (j := 20) bd_309_20
  have u2 := CI_b c (k := 309) (j := 36) bd_309_36
  have u3 := CI_b c (k := 309) (j := 43) bd_309_43
  have u4 := CI_b c (k := 309) (j := 44) bd_309_44
  have u5 := CI_b c (k := 309) (j := 58) bd_309_58
  have u6 := CI_b c (k := 316) (j := 0) bd_316_0
  have u7 := CI_b c (k := 329) (j := 0) bd_329_0
  have u8 := CI_b c (k := 329) (j := 1) bd_329_1
  have t9 : s 309 20 = r0 309 20 := f 309 20 (by decide)
  have t10 : s 316 0 = r0 316 0 := f 316 0 (by decide)
  have t11 : s 329 0 = r0 329 0 := f 329 0 (by decide)
  have t12 : s 329 1 = r0 329 1 := f 329 1 (by decide)
  exact T_ret ⟨c, f, p0, (by first | exact p1 | exact y_DD.z (by omega) (by omega)), p2, (by first | exact p3 | exact y_K.b0 (by omega) | exact y_K.k0 (by omega) | exact y_K.bk (by omega)), ⟨t0, rfl, by omega, by omega⟩⟩
theorem sj_X12_nearest_309_J20 {fu : Nat} (hfu : 8589934592 ≤ fu) (r0 s : z_M) (c : z_CI s) (f : z_Fr R_X12_nearest_309 r0 s) (a1 : Int) (t1 : Int) (b1 : -2147483648 ≤ a1 ∧ a1 ≤ 2147483647) (d1 : 0 ≤ t1 ∧ t1 ≤ 1) (p0 : y_TA s) (p1 : y_DD s) (p2 : y_B s) (p3 : y_K s) : z_T (fX12_nearest_J20 fu s 309 a1 309 t1) (P_X12_nearest_309 r0) := by
  refine T_of (fX12_nearest_J20.eq_1 ..) ?_
  have u1 := CI_b c (k := 309) (j := 20) bd_309_20
  have u2 := CI_b c (k := 309) (j := 36) bd_309_36
  have u3 := CI_b c (k := 309) (j := 43) bd_309_43
  have u4 := CI_b c (k := 309) (j := 44) bd_309_44
  have u5 := CI_b c (k := 309) (j := 58) bd_309_58
  have u6 := CI_b c (k := 316) (j := 0) bd_316_0
  have u7 := CI_b c (k := 329) (j := 0) bd_329_0
  have u8 := CI_b c (k := 329) (j := 1) bd_329_1
  have t9 : s 309 20 = r0 309 20 := f 309 20 (by decide)
  have t10 : s 316 0 = r0 316 0 := f 316 0 (by decide)
  have t11 : s 329 0 = r0 329 0 := f 329 0 (by decide)
  have t12 : s 329 1 = r0 329 1 := f 329 1 (by decide)
  refine T_if1 (by decide +kernel) ?_
  refine T_useI (sf_X12_bad_309 hfu s c t1 1 1 (by omega) (by omega) (by omega) (by omega)) (fun v18 s13 hq => ?_)
  obtain ⟨c14, f15, o19, ⟨x17, rfl, b20, b21, o22, o23⟩⟩ := hq
  refine T_vI ?_
  have f16 := z_Fr.tr (R := R_X12_nearest_309) f f15 rs_X12_bad_309__X12_nearest_309
  have t24 : s13 309 20 = s 309 20 := f15 309 20 (by decide)
  have t25 : s13 309 36 = s 309 36 := f15 309 36 (by decide)
  have t26 : s13 309 43 = s 309 43 := f15 309 43 (by decide)
  have t27 : s13 309 44 = s 309 44 := f15 309 44 (by decide)
  have t28 : s13 309 58 = s 309 58 := f15 309 58 (by decide)
  have t29 : s13 316 0 = s 316 0 := f15 316 0 (by decide)
  have t30 : s13 329 0 = s 329 0 := f15 329 0 (by decide)
  have t31 : s13 329 1 = s 329 1 := f15 329 1 (by decide)
  have r32 := y_TA.fr p0 (fun a b h => f15 a b (nq_X12_bad_309__316 a b h)) (fun a b h => f15 a b (nq_X12_bad_309__346 a b h)) (fun a b h => f15 a b (nq_X12_bad_309__361 a b h))
  have r33 := y_DD.fr p1 (f15 329 0 (by decide)) (f15 329 1 (by decide)) (fun b => f15 359 b (nr_X12_bad_309__359 b)) (fun b => f15 374 b (nr_X12_bad_309__374 b))
  have r34 := y_B.fr p2 (f15 309 20 (by decide)) (f15 316 0 (by decide)) (fun b => f15 3220 b (nr_X12_bad_309__3220 b)) (fun b => f15 3221 b (nr_X12_bad_309__3221 b)) (fun b => f15 3222 b (nr_X12_bad_309__3222 b)) (fun b => f15 361 b (nr_X12_bad_309__361 b))
  have r35 := y_K.fr p3 (by omega) (by omega) (f15 309 44 (by decide)) (f15 309 20 (by decide)) (f15 309 58 (by decide)) (fun b => f15 3438 b (nr_X12_bad_309__3438 b)) (fun b => f15 3220 b (nr_X12_bad_309__3220 b)) (fun a b h => f15 a b (nq_X12_bad_309__3452 a b h))
  refine T_ite (fun h36 => ?_) (fun h36 => ?_)
  · refine T_if1 (by decide +kernel) ?_
    refine T_useN (sf_X12_laysAll_309 hfu s13 c14 r34 (by first | exact r35 | exact y_K.b0 (by omega) | exact y_K.k0 (by omega) | exact y_K.bk (by omega))) (fun v42 s37 hq => ?_)
    obtain ⟨c38, f39, o43, o44, o45, o46, o47, o48, rfl⟩ := hq
    refine T_vN ?_
    have f40 := z_Fr.tr (R := R_X12_nearest_309) f16 f39 rs_X12_laysAll_309__X12_nearest_309
    have t51 : s37 309 20 = s 309 20 := (f39 309 20 (by decide)).trans t24
    have t52 : s37 316 0 = s 316 0 := (f39 316 0 (by decide)).trans t29
    have t53 : s37 329 0 = s 329 0 := (f39 329 0 (by decide)).trans t30
    have t54 : s37 329 1 = s 329 1 := (f39 329 1 (by decide)).trans t31
    have u55 := CI_b c38 (k := 309) (j := 36) bd_309_36
    have u56 := CI_b c38 (k := 309) (j := 43) bd_309_43
    have u57 := CI_b c38 (k := 309) (j := 44) bd_309_44
    have u58 := CI_b c38 (k := 309) (j := 58) bd_309_58
    have r59 := y_TA.fr r32 (fun a b h => f39 a b (nq_X12_laysAll_309__316 a b h)) (fun a b h => f39 a b (nq_X12_laysAll_309__346 a b h)) (fun a b h => f39 a b (nq_X12_laysAll_309__361 a b h))
    have r60 := y_DD.fr r33 (f39 329 0 (by decide)) (f39 329 1 (by decide)) (fun b => f39 359 b (nr_X12_laysAll_309__359 b)) (fun b => f39 374 b (nr_X12_laysAll_309__374 b))
    have r61 := y_B.fr r34 (f39 309 20 (by decide)) (f39 316 0 (by decide)) (fun b => f39 3220 b (nr_X12_laysAll_309__3220 b)) (fun b => f39 3221 b (nr_X12_laysAll_309__3221 b)) (fun b => f39 3222 b (nr_X12_laysAll_309__3222 b)) (fun b => f39 361 b (nr_X12_laysAll_309__361 b))
    clear t24
    clear t29
    clear t30
    clear t31
    refine sl_X12_nearest_309_L43 hfu r0 a1 (by omega) (fun s62 y65 y66 c63 f64 b67 b68 g69 g70 g71 g72 => ?_) fu s37 (-1) 999 0 c38 f40 (by omega) (by omega) (by omega) (by first | exact o45 | exact y_K.B o43 (by omega) (by omega)) r59 (by first | exact r60 | exact y_DD.z (by omega) (by omega)) r61 (by first | exact o43 | exact y_K.b0 (by omega) | exact y_K.k0 (by omega) | exact y_K.bk (by omega) | exact y_K.mk o44 (by omega) o45) (by omega)
    have u73 := CI_b c63 (k := 309) (j := 20) bd_309_20
    have u74 := CI_b c63 (k := 309) (j := 36) bd_309_36
    have u75 := CI_b c63 (k := 309) (j := 43) bd_309_43
    have u76 := CI_b c63 (k := 309) (j := 44) bd_309_44
    have u77 := CI_b c63 (k := 309) (j := 58) bd_309_58
    have u78 := CI_b c63 (k := 316) (j := 0) bd_316_0
    have u79 := CI_b c63 (k := 329) (j := 0) bd_329_0
    have u80 := CI_b c63 (k := 329) (j := 1) bd_329_1
    have t81 : s62 309 20 = r0 309 20 := f64 309 20 (by decide)
    have t82 : s62 316 0 = r0 316 0 := f64 316 0 (by decide)
    have t83 : s62 329 0 = r0 329 0 := f64 329 0 (by decide)
    have t84 : s62 329 1 = r0 329 1 := f64 329 1 (by decide)
    refine T_ite (fun h85 => ?_) (fun h85 => ?_)
    · exact sj_X12_nearest_309_J171 hfu r0 s62 c63 f64 y65 (by omega) g69 (by first | exact g70 | exact y_DD.z (by omega) (by omega)) g71 (by first | exact g72 | exact y_K.b0 (by omega) | exact y_K.k0 (by omega) | exact y_K.bk (by omega))
    · exact sj_X12_nearest_309_J171 hfu r0 s62 c63 f64 y66 (by omega) g69 (by first | exact g70 | exact y_DD.z (by omega) (by omega)) g71 (by first | exact g72 | exact y_K.b0 (by omega) | exact y_K.k0 (by omega) | exact y_K.bk (by omega))
  · exact T_ret ⟨c14, f16, r32, (by first | exact r33 | exact y_DD.z (by omega) (by omega)), r34, (by first | exact r35 | exact y_K.b0 (by omega) | exact y_K.k0 (by omega) | exact y_K.bk (by omega)), ⟨0, rfl, by omega, by omega⟩⟩
theorem sf_X12_nearest_309 {fu : Nat} (hfu : 8589934592 ≤ fu) (r0 : z_M) (c0 : z_CI r0) (a1 : Int) (b1 : -2147483648 ≤ a1 ∧ a1 ≤ 2147483647) (p0 : y_TA r0) (p1 : y_DD r0) (p2 : y_B r0) (p3 : y_K r0) : z_T (fX12_nearest fu r0 309 a1) (P_X12_nearest_309 r0) := by
  refine T_of (fX12_nearest.eq_1 ..) ?_
  have u1 := CI_b c0 (k := 309) (j := 20) bd_309_20
  have u2 := CI_b c0 (k := 309) (j := 36) bd_309_36
  have u3 := CI_b c0 (k := 309) (j := 43) bd_309_43
  have u4 := CI_b c0 (k := 309) (j := 44) bd_309_44
  have u5 := CI_b c0 (k := 309) (j := 58) bd_309_58
  have u6 := CI_b c0 (k := 316) (j := 0) bd_316_0
  have u7 := CI_b c0 (k := 329) (j := 0) bd_329_0
  have u8 := CI_b c0 (k := 329) (j := 1) bd_329_1
  refine T_if1 (by decide +kernel) ?_
  refine T_upg c0 bd_309_0 (by omega) (fun s9 c10 g12 g13 e14 => ?_)
  have f11 := z_Fr.upf (R := R_X12_nearest_309) z_Fr.rf g12 g13 (Or.inr (Or.inr (⟨rfl, by decide⟩)))
  have t15 : s9 309 20 = r0 309 20 := g13 20 (by decide)
  have t16 : s9 309 36 = r0 309 36 := g13 36 (by decide)
  have t17 : s9 309 43 = r0 309 43 := g13 43 (by decide)
  have t18 : s9 309 44 = r0 309 44 := g13 44 (by decide)
  have t19 : s9 309 58 = r0 309 58 := g13 58 (by decide)
  have t20 : s9 316 0 = r0 316 0 := g12 316 0 (by decide)
  have t21 : s9 329 0 = r0 329 0 := g12 329 0 (by decide)
  have t22 : s9 329 1 = r0 329 1 := g12 329 1 (by decide)
  have r23 := y_TA.fr p0 (fun a b h => g12 a b (by omega)) (fun a b h => g12 a b (by omega)) (fun a b h => g12 a b (by omega))
  have r24 := y_DD.fr p1 (g12 329 0 (by decide)) (g12 329 1 (by decide)) (fun b => g12 359 b (by decide)) (fun b => g12 374 b (by decide))
  have r25 := y_B.fr p2 (g13 20 (by decide)) (g12 316 0 (by decide)) (fun b => g12 3220 b (by decide)) (fun b => g12 3221 b (by decide)) (fun b => g12 3222 b (by decide)) (fun b => g12 361 b (by decide))
  have r26 := y_K.fr p3 (by omega) (by omega) (g13 44 (by decide)) (g13 20 (by decide)) (g13 58 (by decide)) (fun b => g12 3438 b (by decide)) (fun b => g12 3220 b (by decide)) (fun a b h => g12 a b (by omega))
  refine T_useI (sf_X12_in hfu s9 c10 a1 0 1 (by omega) (by omega) (by omega)) (fun v32 s27 hq => ?_)
  obtain ⟨c28, f29, ⟨x31, rfl, b33, b34, o35⟩⟩ := hq
  refine T_vI ?_
  have q36 := z_Fr.eq (fun a b h => h) f29
  subst q36
  refine T_ite (fun h37 => ?_) (fun h37 => ?_)
  · exact sj_X12_nearest_309_J20 hfu r0 s9 c10 f11 a1 0 (by omega) (by omega) r23 (by first | exact r24 | exact y_DD.z (by omega) (by omega)) r25 (by first | exact r26 | exact y_K.b0 (by omega) | exact y_K.k0 (by omega) | exact y_K.bk (by omega))
  · exact sj_X12_nearest_309_J20 hfu r0 s9 c10 f11 a1 1 (by omega) (by omega) r23 (by first | exact r24 | exact y_DD.z (by omega) (by omega)) r25 (by first | exact r26 | exact y_K.b0 (by omega) | exact y_K.k0 (by omega) | exact y_K.bk (by omega))
