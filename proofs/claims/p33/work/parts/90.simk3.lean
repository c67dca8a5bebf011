/-! what the reference has kept stays right: its functions once more (by program, wip/tool/mksim.py, simspeck) -/
theorem sf_X12_side_309K {fu : Nat} (hfu : 8589934592 ≤ fu) (r0 : z_M) (c0 : z_CI r0) (a1 : Int) (a2 : Int) (a3 : Int) (b1 : -2147483648 ≤ a1 ∧ a1 ≤ 2147483647) (b2 : -2147483648 ≤ a2 ∧ a2 ≤ 2147483647) (b3 : -2147483648 ≤ a3 ∧ a3 ≤ 2147483647) (p0 : y_TA r0) (p1 : y_DD r0) (p2 : y_B r0) (p3 : y_K r0) (p4 : y_KM r0) : z_T (fX12_side fu r0 309 a1 a2 a3) (P_X12_side_309K r0) := by
  refine T_of (fX12_side.eq_1 ..) ?_
  have u1 := CI_b c0 (k := 309) (j := 20) bd_309_20
  have u2 := CI_b c0 (k := 309) (j := 36) bd_309_36
  have u3 := CI_b c0 (k := 309) (j := 43) bd_309_43
  have u4 := CI_b c0 (k := 309) (j := 44) bd_309_44
  have u5 := CI_b c0 (k := 309) (j := 58) bd_309_58
  have u6 := CI_b c0 (k := 316) (j := 0) bd_316_0
  have u7 := CI_b c0 (k := 329) (j := 0) bd_329_0
  have u8 := CI_b c0 (k := 329) (j := 1) bd_329_1
  refine T_if1 (by decide +kernel) ?_
  refine T_upg c0 bd_309_0 (by omega) (fun s9 c10 g12 g13 e14 => ?_)
  have f11 := z_Fr.upf (R := R_X12_side_309) z_Fr.rf g12 g13 (Or.inr (Or.inr (⟨rfl, by decide⟩)))
  have t15 : s9 309 20 = r0 309 20 := g13 20 (by decide)
  have t16 : s9 309 36 = r0 309 36 := g13 36 (by decide)
  have t17 : s9 309 43 = r0 309 43 := g13 43 (by decide)
  have t18 : s9 309 44 = r0 309 44 := g13 44 (by decide)
  have t19 : s9 309 58 = r0 309 58 := g13 58 (by decide)
  have t20 : s9 316 0 = r0 316 0 := g12 316 0 (by decide)
  have t21 : s9 329 0 = r0 329 0 := g12 329 0 (by decide)
  have t22 : s9 329 1 = r0 329 1 := g12 329 1 (by decide)
  have r23 := y_TA.fr p0 (fun a b h => g12 a b (by omega)) (fun a b h => g12 a b (by omega)) (fun a b h => g12 a b (by omega))
  have r24 := y_DD.fr p1 (g12 329 0 (by decide)) (g12 329 1 (by decide)) (fun b => g12 359 b (by decide)) (fun b => g12 374 b (by decide))
  have r25 := y_B.fr p2 (g13 20 (by decide)) (g12 316 0 (by decide)) (fun b => g12 3220 b (by decide)) (fun b => g12 3221 b (by decide)) (fun b => g12 3222 b (by decide)) (fun b => g12 361 b (by decide))
  have r26 := y_K.fr p3 (by omega) (by omega) (g13 44 (by decide)) (g13 20 (by decide)) (g13 58 (by decide)) (fun b => g12 3438 b (by decide)) (fun b => g12 3220 b (by decide)) (fun a b h => g12 a b (by omega))
  have r27 := y_KM.fr p4 (g13 20 (by decide)) (g13 36 (by decide)) (g13 38 (by decide)) (g13 39 (by decide)) (fun b => g12 312 b (by decide)) (fun b => g12 331 b (by decide)) (fun b => g12 346 b (by decide)) (fun b => g12 361 b (by decide)) (fun b => g12 391 b (by decide)) (fun a b h => g12 a b (by omega)) (fun a b h => g12 a b (by omega)) (fun a b h => g12 a b (by omega))
  refine T_if1 (by decide +kernel) ?_
  refine T_useI (sf_X12_isLine_309K hfu s9 c10 a1 (by omega) r25 (by first | exact r26 | exact y_K.b0 (by omega) | exact y_K.k0 (by omega) | exact y_K.bk (by omega)) (by first | exact r27 | exact y_KM.z (by omega))) (fun v33 s28 hq => ?_)
  obtain ⟨c29, f30, o34, o35, o36, o37, o38, o39, o40, ⟨x32, rfl, b41, b42, o43⟩⟩ := hq
  refine T_vI ?_
  have f31 := z_Fr.tr (R := R_X12_side_309) f11 f30 rs_X12_isLine_309__X12_side_309
  have t44 : s28 309 20 = r0 309 20 := (f30 309 20 (by decide)).trans t15
  have t45 : s28 316 0 = r0 316 0 := (f30 316 0 (by decide)).trans t20
  have t46 : s28 329 0 = r0 329 0 := (f30 329 0 (by decide)).trans t21
  have t47 : s28 329 1 = r0 329 1 := (f30 329 1 (by decide)).trans t22
  have u48 := CI_b c29 (k := 309) (j := 36) bd_309_36
  have u49 := CI_b c29 (k := 309) (j := 43) bd_309_43
  have u50 := CI_b c29 (k := 309) (j := 44) bd_309_44
  have u51 := CI_b c29 (k := 309) (j := 58) bd_309_58
  have r52 := y_TA.fr r23 (fun a b h => f30 a b (nz_X12_isLine_309__316_328 a b h)) (fun a b h => f30 a b (nz_X12_isLine_309__346_358 a b h)) (fun a b h => f30 a b (nz_X12_isLine_309__361_373 a b h))
  have r53 := y_DD.fr r24 (f30 329 0 (by decide)) (f30 329 1 (by decide)) (fun b => f30 359 b (nr_X12_isLine_309__359 b)) (fun b => f30 374 b (nr_X12_isLine_309__374 b))
  have r54 := y_B.fr r25 (f30 309 20 (by decide)) (f30 316 0 (by decide)) (fun b => f30 3220 b (nr_X12_isLine_309__3220 b)) (fun b => f30 3221 b (nr_X12_isLine_309__3221 b)) (fun b => f30 3222 b (nr_X12_isLine_309__3222 b)) (fun b => f30 361 b (nr_X12_isLine_309__361 b))
  clear t15
  clear t20
  clear t21
  clear t22
  refine T_ite (fun h55 => ?_) (fun h55 => ?_)
  · exact sj_X12_side_309K_J19 hfu r0 s28 c29 f31 a1 a2 a3 0 (by omega) (by omega) (by omega) (by omega) (by omega) (by first | exact y_L.cg o35 (by omega) | exact y_K.L o34 (by omega) (by omega)) (by first | exact o36 | exact y_K.B o34 (by omega) (by omega)) r52 (by first | exact r53 | exact y_DD.z (by omega) (by omega)) r54 (by first | exact o34 | exact y_K.b0 (by omega) | exact y_K.k0 (by omega) | exact y_K.bk (by omega) | exact y_K.mk o35 (by omega) o36) (by first | exact o40 | exact y_KM.z (by omega))
  · exact sj_X12_side_309K_J19 hfu r0 s28 c29 f31 a1 a2 a3 1 (by omega) (by omega) (by omega) (by omega) (by omega) (by first | exact y_L.cg o35 (by omega) | exact y_K.L o34 (by omega) (by omega)) (by first | exact o36 | exact y_K.B o34 (by omega) (by omega)) r52 (by first | exact r53 | exact y_DD.z (by omega) (by omega)) r54 (by first | exact o34 | exact y_K.b0 (by omega) | exact y_K.k0 (by omega) | exact y_K.bk (by omega) | exact y_K.mk o35 (by omega) o36) (by first | exact o40 | exact y_KM.z (by omega))
abbrev P_X12_gutter_309K (r0 : z_M) : z_V → z_M → Prop := fun v s' => z_CI s' ∧ z_Fr R_X12_gutter_309 r0 s' ∧ (y_TA s') ∧ (y_DD s') ∧ (y_B s') ∧ (y_K s') ∧ (y_KM s') ∧ (∃ x, v = vI x ∧ -2147483648 ≤ x ∧ x ≤ 2147483647)
theorem nz_X12_gutterOf_309__3452_3651 (a b : Int) (h : 3452 ≤ a ∧ a ≤ 3651) : ¬ R_X12_gutterOf_309 a b := by
  unfold R_X12_gutterOf_309; omega
theorem nz_X12_gutterOf_309__316_328 (a b : Int) (h : 316 ≤ a ∧ a ≤ 328) : ¬ R_X12_gutterOf_309 a b := by
  unfold R_X12_gutterOf_309; omega
theorem nz_X12_gutterOf_309__346_358 (a b : Int) (h : 346 ≤ a ∧ a ≤ 358) : ¬ R_X12_gutterOf_309 a b := by
  unfold R_X12_gutterOf_309; omega
theorem nz_X12_gutterOf_309__361_373 (a b : Int) (h : 361 ≤ a ∧ a ≤ 373) : ¬ R_X12_gutterOf_309 a b := by
  unfold R_X12_gutterOf_309; omega
theorem nr_X12_gutterOf_309__312 (b : Int) : ¬ R_X12_gutterOf_309 312 b := by
  unfold R_X12_gutterOf_309; omega
theorem nr_X12_gutterOf_309__331 (b : Int) : ¬ R_X12_gutterOf_309 331 b := by
  unfold R_X12_gutterOf_309; omega
theorem nr_X12_gutterOf_309__346 (b : Int) : ¬ R_X12_gutterOf_309 346 b := by
  unfold R_X12_gutterOf_309; omega
theorem nr_X12_gutterOf_309__391 (b : Int) : ¬ R_X12_gutterOf_309 391 b := by
  unfold R_X12_gutterOf_309; omega
theorem nz_X12_gutterOf_309__407_606 (a b : Int) (h : 407 ≤ a ∧ a ≤ 606) : ¬ R_X12_gutterOf_309 a b := by
  unfold R_X12_gutterOf_309; omega
theorem nz_X12_gutterOf_309__3220_3223 (a b : Int) (h : 3220 ≤ a ∧ a ≤ 3223) : ¬ R_X12_gutterOf_309 a b := by
  unfold R_X12_gutterOf_309; omega
theorem nz_X12_gutterOf_309__3235_3437 (a b : Int) (h : 3235 ≤ a ∧ a ≤ 3437) : ¬ R_X12_gutterOf_309 a b := by
  unfold R_X12_gutterOf_309; omega
theorem sj_X12_gutter_309K_J48 {fu : Nat} (hfu : 8589934592 ≤ fu) (r0 s : z_M) (c : z_CI s) (f : z_Fr R_X12_gutter_309 r0 s) (t0 : Int) (d0 : -2147483648 ≤ t0 ∧ t0 ≤ 2147483647) (p0 : y_TA s) (p1 : y_DD s) (p2 : y_B s) (p3 : y_K s) (p4 : y_KM s) : z_T (fX12_gutter_J48 fu s t0) (P_X12_gutter_309K r0) := by
  refine T_of (fX12_gutter_J48.eq_1 ..) ?_
  have u1 := CI_b c (k := 309) (j := 20) bd_309_20
  have u2 := CI_b c (k := 309) (j := 36) bd_309_36
  have u3 := CI_b c (k := 309) (j := 43) bd_309_43
  have u4 := CI_b c (k := 309) (j := 44) bd_309_44
  have u5 := CI_b c (k := 309) (j := 58) bd_309_58
  have u6 := CI_b c (k := 316) (j := 0) bd_316_0
  have u7 := CI_b c (k := 329) (j := 0) bd_329_0
  have u8 := CI_b c (k := 329) (j := 1) bd_329_1
  have t9 : s 309 20 = r0 309 20 := f 309 20 (by decide)
  have t10 : s 316 0 = r0 316 0 := f 316 0 (by decide)
  have t11 : s 329 0 = r0 329 0 := f 329 0 (by decide)
  have t12 : s 329 1 = r0 329 1 := f 329 1 (by decide)
  exact T_ret ⟨c, f, p0, (by first | exact p1 | exact y_DD.z (by omega) (by omega)), p2, (by first | exact p3 | exact y_K.b0 (by omega) | exact y_K.k0 (by omega) | exact y_K.bk (by omega)), (by first | exact p4 | exact y_KM.z (by omega)), ⟨t0, rfl, by omega, by omega⟩⟩
theorem sj_X12_gutter_309K_J19 {fu : Nat} (hfu : 8589934592 ≤ fu) (r0 s : z_M) (c : z_CI s) (f : z_Fr R_X12_gutter_309 r0 s) (a1 : Int) (t1 : Int) (b1 : -2147483648 ≤ a1 ∧ a1 ≤ 2147483647) (d1 : 0 ≤ t1 ∧ t1 ≤ 1) (p0 : t1 = 1 ∨ (0 ≤ a1 ∧ a1 < s 309 44)) (p1 : y_L s (s 309 44)) (p2 : y_BK s) (p3 : y_TA s) (p4 : y_DD s) (p5 : y_B s) (p6 : y_K s) (p7 : y_KM s) : z_T (fX12_gutter_J19 fu s 309 a1 309 t1) (P_X12_gutter_309K r0) := by
  refine T_of (fX12_gutter_J19.eq_1 ..) ?_
  have u1 := CI_b c (k := 309) (j := 20) bd_309_20
  have u2 := CI_b c (k := 309) (j := 36) bd_309_36
  have u3 := CI_b c (k := 309) (j := 43) bd_309_43
  have u4 := CI_b c (k := 309) (j := 44) bd_309_44
  have u5 := CI_b c (k := 309) (j := 58) bd_309_58
  have u6 := CI_b c (k := 316) (j := 0) bd_316_0
  have u7 := CI_b c (k := 329) (j := 0) bd_329_0
  have u8 := CI_b c (k := 329) (j := 1) bd_329_1
  have t9 : s 309 20 = r0 309 20 := f 309 20 (by decide)
  have t10 : s 316 0 = r0 316 0 := f 316 0 (by decide)
  have t11 : s 329 0 = r0 329 0 := f 329 0 (by decide)
  have t12 : s 329 1 = r0 329 1 := f 329 1 (by decide)
  refine T_if1 (by decide +kernel) ?_
  refine T_useI (sf_X12_bad_309 hfu s c t1 1 0 (by omega) (by omega) (by omega) (by omega)) (fun v18 s13 hq => ?_)
  obtain ⟨c14, f15, o19, ⟨x17, rfl, b20, b21, o22, o23⟩⟩ := hq
  refine T_vI ?_
  have f16 := z_Fr.tr (R := R_X12_gutter_309) f f15 rs_X12_bad_309__X12_gutter_309
  have t24 : s13 309 20 = s 309 20 := f15 309 20 (by decide)
  have t25 : s13 309 36 = s 309 36 := f15 309 36 (by decide)
  have t26 : s13 309 43 = s 309 43 := f15 309 43 (by decide)
  have t27 : s13 309 44 = s 309 44 := f15 309 44 (by decide)
  have t28 : s13 309 58 = s 309 58 := f15 309 58 (by decide)
  have t29 : s13 316 0 = s 316 0 := f15 316 0 (by decide)
  have t30 : s13 329 0 = s 329 0 := f15 329 0 (by decide)
  have t31 : s13 329 1 = s 329 1 := f15 329 1 (by decide)
  have r32 := y_L.fr p1 (f15 309 20 (by decide)) (fun b => f15 3438 b (nr_X12_bad_309__3438 b))
  have r33 := y_BK.fr p2 (by omega) (f15 309 20 (by decide)) (f15 309 58 (by decide)) (fun b => f15 3220 b (nr_X12_bad_309__3220 b)) (fun a b h => f15 a b (nz_X12_bad_309__3452_3651 a b h))
  have r34 := y_TA.fr p3 (fun a b h => f15 a b (nz_X12_bad_309__316_328 a b h)) (fun a b h => f15 a b (nz_X12_bad_309__346_358 a b h)) (fun a b h => f15 a b (nz_X12_bad_309__361_373 a b h))
  have r35 := y_DD.fr p4 (f15 329 0 (by decide)) (f15 329 1 (by decide)) (fun b => f15 359 b (nr_X12_bad_309__359 b)) (fun b => f15 374 b (nr_X12_bad_309__374 b))
  have r36 := y_B.fr p5 (f15 309 20 (by decide)) (f15 316 0 (by decide)) (fun b => f15 3220 b (nr_X12_bad_309__3220 b)) (fun b => f15 3221 b (nr_X12_bad_309__3221 b)) (fun b => f15 3222 b (nr_X12_bad_309__3222 b)) (fun b => f15 361 b (nr_X12_bad_309__361 b))
  have r37 := y_K.fr p6 (by omega) (by omega) (f15 309 44 (by decide)) (f15 309 20 (by decide)) (f15 309 58 (by decide)) (fun b => f15 3438 b (nr_X12_bad_309__3438 b)) (fun b => f15 3220 b (nr_X12_bad_309__3220 b)) (fun a b h => f15 a b (nz_X12_bad_309__3452_3651 a b h))
  have r38 := y_KM.fr p7 (f15 309 20 (by decide)) (f15 309 36 (by decide)) (f15 309 38 (by decide)) (f15 309 39 (by decide)) (fun b => f15 312 b (nr_X12_bad_309__312 b)) (fun b => f15 331 b (nr_X12_bad_309__331 b)) (fun b => f15 346 b (nr_X12_bad_309__346 b)) (fun b => f15 361 b (nr_X12_bad_309__361 b)) (fun b => f15 391 b (nr_X12_bad_309__391 b)) (fun a b h => f15 a b (nz_X12_bad_309__407_606 a b h)) (fun a b h => f15 a b (nz_X12_bad_309__3220_3223 a b h)) (fun a b h => f15 a b (nz_X12_bad_309__3235_3437 a b h))
  refine T_ite (fun h39 => ?_) (fun h39 => ?_)
  · refine T_leq (fun x40 e41 => ?_)
    first | (have w42 := z_wx e41 (by omega)) | (have w42 := z_wr e41)
    refine T_if1 (by decide +kernel) ?_
    refine T_leq (fun x43 e44 => ?_)
    have u45 := CI_b c14 (k := 309) (j := 44) bd_309_44
    refine T_ite (fun h46 => ?_) (fun h46 => ?_)
    · refine T_if1 (by decide +kernel) ?_
      refine T_useI (sf_X12_gutterOf_309 hfu s13 c14 a1 (by omega) r36 (by first | exact r33 | exact y_K.B r37 (by omega) (by omega)) (by first | exact y_L.cg r32 (by omega) | exact y_K.L r37 (by omega) (by omega)) r34 (by omega)) (fun v52 s47 hq => ?_)
      obtain ⟨c48, f49, ⟨x51, rfl, b53, b54⟩⟩ := hq
      refine T_vI ?_
      have f50 := z_Fr.tr (R := R_X12_gutter_309) f16 f49 rs_X12_gutterOf_309__X12_gutter_309
      have t55 : s47 309 20 = s 309 20 := (f49 309 20 (by decide)).trans t24
      have t56 : s47 309 36 = s 309 36 := (f49 309 36 (by decide)).trans t25
      have t57 : s47 309 43 = s 309 43 := (f49 309 43 (by decide)).trans t26
      have t58 : s47 309 44 = x43 := (f49 309 44 (by decide)).trans e44
      have t59 : s47 309 58 = s 309 58 := (f49 309 58 (by decide)).trans t28
      have t60 : s47 316 0 = s 316 0 := (f49 316 0 (by decide)).trans t29
      have t61 : s47 329 0 = s 329 0 := (f49 329 0 (by decide)).trans t30
      have t62 : s47 329 1 = s 329 1 := (f49 329 1 (by decide)).trans t31
      have r63 := y_L.fr r32 (f49 309 20 (by decide)) (fun b => f49 3438 b (nr_X12_gutterOf_309__3438 b))
      have r64 := y_BK.fr r33 (by omega) (f49 309 20 (by decide)) (f49 309 58 (by decide)) (fun b => f49 3220 b (nr_X12_gutterOf_309__3220 b)) (fun a b h => f49 a b (nz_X12_gutterOf_309__3452_3651 a b h))
      have r65 := y_TA.fr r34 (fun a b h => f49 a b (nz_X12_gutterOf_309__316_328 a b h)) (fun a b h => f49 a b (nz_X12_gutterOf_309__346_358 a b h)) (fun a b h => f49 a b (nz_X12_gutterOf_309__361_373 a b h))
      have r66 := y_DD.fr r35 (f49 329 0 (by decide)) (f49 329 1 (by decide)) (fun b => f49 359 b (nr_X12_gutterOf_309__359 b)) (fun b => f49 374 b (nr_X12_gutterOf_309__374 b))
      have r67 := y_B.fr r36 (f49 309 20 (by decide)) (f49 316 0 (by decide)) (fun b => f49 3220 b (nr_X12_gutterOf_309__3220 b)) (fun b => f49 3221 b (nr_X12_gutterOf_309__3221 b)) (fun b => f49 3222 b (nr_X12_gutterOf_309__3222 b)) (fun b => f49 361 b (nr_X12_gutterOf_309__361 b))
      have r68 := y_K.fr r37 (by omega) (by omega) (f49 309 44 (by decide)) (f49 309 20 (by decide)) (f49 309 58 (by decide)) (fun b => f49 3438 b (nr_X12_gutterOf_309__3438 b)) (fun b => f49 3220 b (nr_X12_gutterOf_309__3220 b)) (fun a b h => f49 a b (nz_X12_gutterOf_309__3452_3651 a b h))
      have r69 := y_KM.fr r38 (f49 309 20 (by decide)) (f49 309 36 (by decide)) (f49 309 38 (by decide)) (f49 309 39 (by decide)) (fun b => f49 312 b (nr_X12_gutterOf_309__312 b)) (fun b => f49 331 b (nr_X12_gutterOf_309__331 b)) (fun b => f49 346 b (nr_X12_gutterOf_309__346 b)) (fun b => f49 361 b (nr_X12_gutterOf_309__361 b)) (fun b => f49 391 b (nr_X12_gutterOf_309__391 b)) (fun a b h => f49 a b (nz_X12_gutterOf_309__407_606 a b h)) (fun a b h => f49 a b (nz_X12_gutterOf_309__3220_3223 a b h)) (fun a b h => f49 a b (nz_X12_gutterOf_309__3235_3437 a b h))
      clear t24
      clear t25
      clear t26
      clear t28
      clear t29
      clear t30
      clear t31
      exact sj_X12_gutter_309K_J48 hfu r0 s47 c48 f50 x51 (by omega) r65 (by first | exact r66 | exact y_DD.z (by omega) (by omega)) r67 (by first | exact r68 | exact y_K.b0 (by omega) | exact y_K.k0 (by omega) | exact y_K.bk (by omega) | exact y_K.mk r63 (by omega) r64) (by first | exact r69 | exact y_KM.z (by omega))
    · exact sj_X12_gutter_309K_J48 hfu r0 s13 c14 f16 (-1) (by omega) r34 (by first | exact r35 | exact y_DD.z (by omega) (by omega)) r36 (by first | exact r37 | exact y_K.b0 (by omega) | exact y_K.k0 (by omega) | exact y_K.bk (by omega) | exact y_K.mk r32 (by omega) r33) (by first | exact r38 | exact y_KM.z (by omega))
  · exact T_ret ⟨c14, f16, r34, (by first | exact r35 | exact y_DD.z (by omega) (by omega)), r36, (by first | exact r37 | exact y_K.b0 (by omega) | exact y_K.k0 (by omega) | exact y_K.bk (by omega) | exact y_K.mk r32 (by omega) r33), (by first | exact r38 | exact y_KM.z (by omega)), ⟨0, rfl, by omega, by omega⟩⟩
theorem sf_X12_gutter_309K {fu : Nat} (hfu : 8589934592 ≤ fu) (r0 : z_M) (c0 : z_CI r0) (a1 : Int) (b1 : -2147483648 ≤ a1 ∧ a1 ≤ 2147483647) (p0 : y_TA r0) (p1 : y_DD r0) (p2 : y_B r0) (p3 : y_K r0) (p4 : y_KM r0) : z_T (fX12_gutter fu r0 309 a1) (P_X12_gutter_309K r0) := by
  refine T_of (fX12_gutter.eq_1 ..) ?_
  have u1 := CI_b c0 (k := 309) (j := 20) bd_309_20
  have u2 := CI_b c0 (k := 309) (j := 36) bd_309_36
  have u3 := CI_b c0 (k := 309) (j := 43) bd_309_43
  have u4 := CI_b c0 (k := 309) (j := 44) bd_309_44
  have u5 := CI_b c0 (k := 309) (j := 58) bd_309_58
  have u6 := CI_b c0 (k := 316) (j := 0) bd_316_0
  have u7 := CI_b c0 (k := 329) (j := 0) bd_329_0
  have u8 := CI_b c0 (k := 329) (j := 1) bd_329_1
  refine T_if1 (by decide +kernel) ?_
  refine T_upg c0 bd_309_0 (by omega) (fun s9 c10 g12 g13 e14 => ?_)
  have f11 := z_Fr.upf (R := R_X12_gutter_309) z_Fr.rf g12 g13 (Or.inr (Or.inr (⟨rfl, by decide⟩)))
  have t15 : s9 309 20 = r0 309 20 := g13 20 (by decide)
  have t16 : s9 309 36 = r0 309 36 := g13 36 (by decide)
  have t17 : s9 309 43 = r0 309 43 := g13 43 (by decide)
  have t18 : s9 309 44 = r0 309 44 := g13 44 (by decide)
  have t19 : s9 309 58 = r0 309 58 := g13 58 (by decide)
  have t20 : s9 316 0 = r0 316 0 := g12 316 0 (by decide)
  have t21 : s9 329 0 = r0 329 0 := g12 329 0 (by decide)
  have t22 : s9 329 1 = r0 329 1 := g12 329 1 (by decide)
  have r23 := y_TA.fr p0 (fun a b h => g12 a b (by omega)) (fun a b h => g12 a b (by omega)) (fun a b h => g12 a b (by omega))
  have r24 := y_DD.fr p1 (g12 329 0 (by decide)) (g12 329 1 (by decide)) (fun b => g12 359 b (by decide)) (fun b => g12 374 b (by decide))
  have r25 := y_B.fr p2 (g13 20 (by decide)) (g12 316 0 (by decide)) (fun b => g12 3220 b (by decide)) (fun b => g12 3221 b (by decide)) (fun b => g12 3222 b (by decide)) (fun b => g12 361 b (by decide))
  have r26 := y_K.fr p3 (by omega) (by omega) (g13 44 (by decide)) (g13 20 (by decide)) (g13 58 (by decide)) (fun b => g12 3438 b (by decide)) (fun b => g12 3220 b (by decide)) (fun a b h => g12 a b (by omega))
  have r27 := y_KM.fr p4 (g13 20 (by decide)) (g13 36 (by decide)) (g13 38 (by decide)) (g13 39 (by decide)) (fun b => g12 312 b (by decide)) (fun b => g12 331 b (by decide)) (fun b => g12 346 b (by decide)) (fun b => g12 361 b (by decide)) (fun b => g12 391 b (by decide)) (fun a b h => g12 a b (by omega)) (fun a b h => g12 a b (by omega)) (fun a b h => g12 a b (by omega))
  refine T_if1 (by decide +kernel) ?_
  refine T_useI (sf_X12_isLine_309K hfu s9 c10 a1 (by omega) r25 (by first | exact r26 | exact y_K.b0 (by omega) | exact y_K.k0 (by omega) | exact y_K.bk (by omega)) (by first | exact r27 | exact y_KM.z (by omega))) (fun v33 s28 hq => ?_)
  obtain ⟨c29, f30, o34, o35, o36, o37, o38, o39, o40, ⟨x32, rfl, b41, b42, o43⟩⟩ := hq
  refine T_vI ?_
  have f31 := z_Fr.tr (R := R_X12_gutter_309) f11 f30 rs_X12_isLine_309__X12_gutter_309
  have t44 : s28 309 20 = r0 309 20 := (f30 309 20 (by decide)).trans t15
  have t45 : s28 316 0 = r0 316 0 := (f30 316 0 (by decide)).trans t20
  have t46 : s28 329 0 = r0 329 0 := (f30 329 0 (by decide)).trans t21
  have t47 : s28 329 1 = r0 329 1 := (f30 329 1 (by decide)).trans t22
  have u48 := CI_b c29 (k := 309) (j := 36) bd_309_36
  have u49 := CI_b c29 (k := 309) (j := 43) bd_309_43
  have u50 := CI_b c29 (k := 309) (j := 44) bd_309_44
  have u51 := CI_b c29 (k := 309) (j := 58) bd_309_58
  have r52 := y_TA.fr r23 (fun a b h => f30 a b (nz_X12_isLine_309__316_328 a b h)) (fun a b h => f30 a b (nz_X12_isLine_309__346_358 a b h)) (fun a b h => f30 a b (nz_X12_isLine_309__361_373 a b h))
  have r53 := y_DD.fr r24 (f30 329 0 (by decide)) (f30 329 1 (by decide)) (fun b => f30 359 b (nr_X12_isLine_309__359 b)) (fun b => f30 374 b (nr_X12_isLine_309__374 b))
  have r54 := y_B.fr r25 (f30 309 20 (by decide)) (f30 316 0 (by decide)) (fun b => f30 3220 b (nr_X12_isLine_309__3220 b)) (fun b => f30 3221 b (nr_X12_isLine_309__3221 b)) (fun b => f30 3222 b (nr_X12_isLine_309__3222 b)) (fun b => f30 361 b (nr_X12_isLine_309__361 b))
  clear t15
  clear t20
  clear t21
  clear t22
  refine T_ite (fun h55 => ?_) (fun h55 => ?_)
  · exact sj_X12_gutter_309K_J19 hfu r0 s28 c29 f31 a1 0 (by omega) (by omega) (by omega) (by first | exact y_L.cg o35 (by omega) | exact y_K.L o34 (by omega) (by omega)) (by first | exact o36 | exact y_K.B o34 (by omega) (by omega)) r52 (by first | exact r53 | exact y_DD.z (by omega) (by omega)) r54 (by first | exact o34 | exact y_K.b0 (by omega) | exact y_K.k0 (by omega) | exact y_K.bk (by omega) | exact y_K.mk o35 (by omega) o36) (by first | exact o40 | exact y_KM.z (by omega))
  · exact sj_X12_gutter_309K_J19 hfu r0 s28 c29 f31 a1 1 (by omega) (by omega) (by omega) (by first | exact y_L.cg o35 (by omega) | exact y_K.L o34 (by omega) (by omega)) (by first | exact o36 | exact y_K.B o34 (by omega) (by omega)) r52 (by first | exact r53 | exact y_DD.z (by omega) (by omega)) r54 (by first | exact o34 | exact y_K.b0 (by omega) | exact y_K.k0 (by omega) | exact y_K.bk (by omega) | exact y_K.mk o35 (by omega) o36) (by first | exact o40 | exact y_KM.z (by omega))
abbrev P_X12_clash_309K (r0 : z_M) : z_V → z_M → Prop := fun v s' => z_CI s' ∧ z_Fr R_X12_clash_309 r0 s' ∧ (y_TA s') ∧ (y_DD s') ∧ (y_B s') ∧ (y_K s') ∧ (y_KM s') ∧ (∃ x, v = vI x ∧ -2147483648 ≤ x ∧ x ≤ 2147483647)
theorem nr_X12_clashOf_309__312 (b : Int) : ¬ R_X12_clashOf_309 312 b := by
  unfold R_X12_clashOf_309; omega
theorem nr_X12_clashOf_309__331 (b : Int) : ¬ R_X12_clashOf_309 331 b := by
  unfold R_X12_clashOf_309; omega
theorem nr_X12_clashOf_309__346 (b : Int) : ¬ R_X12_clashOf_309 346 b := by
  unfold R_X12_clashOf_309; omega
theorem nr_X12_clashOf_309__391 (b : Int) : ¬ R_X12_clashOf_309 391 b := by
  unfold R_X12_clashOf_309; omega
theorem nz_X12_clashOf_309__407_606 (a b : Int) (h : 407 ≤ a ∧ a ≤ 606) : ¬ R_X12_clashOf_309 a b := by
  unfold R_X12_clashOf_309; omega
theorem nz_X12_clashOf_309__3220_3223 (a b : Int) (h : 3220 ≤ a ∧ a ≤ 3223) : ¬ R_X12_clashOf_309 a b := by
  unfold R_X12_clashOf_309; omega
theorem nz_X12_clashOf_309__3235_3437 (a b : Int) (h : 3235 ≤ a ∧ a ≤ 3437) : ¬ R_X12_clashOf_309 a b := by
  unfold R_X12_clashOf_309; omega
theorem sj_X12_clash_309K_J19 {fu : Nat} (hfu : 8589934592 ≤ fu) (r0 s : z_M) (c : z_CI s) (f : z_Fr R_X12_clash_309 r0 s) (a1 : Int) (t1 : Int) (b1 : -2147483648 ≤ a1 ∧ a1 ≤ 2147483647) (d1 : 0 ≤ t1 ∧ t1 ≤ 1) (p0 : t1 = 1 ∨ (0 ≤ a1 ∧ a1 < s 309 44)) (p1 : y_L s (s 309 44)) (p2 : y_BK s) (p3 : y_TA s) (p4 : y_DD s) (p5 : y_B s) (p6 : y_K s) (p7 : y_KM s) : z_T (fX12_clash_J19 fu s 309 a1 309 t1) (P_X12_clash_309K r0) := by
  refine T_of (fX12_clash_J19.eq_1 ..) ?_
  have u1 := CI_b c (k := 309) (j := 20) bd_309_20
  have u2 := CI_b c (k := 309) (j := 36) bd_309_36
  have u3 := CI_b c (k := 309) (j := 43) bd_309_43
  have u4 := CI_b c (k := 309) (j := 44) bd_309_44
  have u5 := CI_b c (k := 309) (j := 58) bd_309_58
  have u6 := CI_b c (k := 316) (j := 0) bd_316_0
  have u7 := CI_b c (k := 329) (j := 0) bd_329_0
  have u8 := CI_b c (k := 329) (j := 1) bd_329_1
  have t9 : s 309 20 = r0 309 20 := f 309 20 (by decide)
  have t10 : s 316 0 = r0 316 0 := f 316 0 (by decide)
  have t11 : s 329 0 = r0 329 0 := f 329 0 (by decide)
  have t12 : s 329 1 = r0 329 1 := f 329 1 (by decide)
  refine T_if1 (by decide +kernel) ?_
  refine T_useI (sf_X12_bad_309 hfu s c t1 1 0 (by omega) (by omega) (by omega) (by omega)) (fun v18 s13 hq => ?_)
  obtain ⟨c14, f15, o19, ⟨x17, rfl, b20, b21, o22, o23⟩⟩ := hq
  refine T_vI ?_
  have f16 := z_Fr.tr (R := R_X12_clash_309) f f15 rs_X12_bad_309__X12_clash_309
  have t24 : s13 309 20 = s 309 20 := f15 309 20 (by decide)
  have t25 : s13 309 36 = s 309 36 := f15 309 36 (by decide)
  have t26 : s13 309 43 = s 309 43 := f15 309 43 (by decide)
  have t27 : s13 309 44 = s 309 44 := f15 309 44 (by decide)
  have t28 : s13 309 58 = s 309 58 := f15 309 58 (by decide)
  have t29 : s13 316 0 = s 316 0 := f15 316 0 (by decide)
  have t30 : s13 329 0 = s 329 0 := f15 329 0 (by decide)
  have t31 : s13 329 1 = s 329 1 := f15 329 1 (by decide)
  have r32 := y_L.fr p1 (f15 309 20 (by decide)) (fun b => f15 3438 b (nr_X12_bad_309__3438 b))
  have r33 := y_BK.fr p2 (by omega) (f15 309 20 (by decide)) (f15 309 58 (by decide)) (fun b => f15 3220 b (nr_X12_bad_309__3220 b)) (fun a b h => f15 a b (nz_X12_bad_309__3452_3651 a b h))
  have r34 := y_TA.fr p3 (fun a b h => f15 a b (nz_X12_bad_309__316_328 a b h)) (fun a b h => f15 a b (nz_X12_bad_309__346_358 a b h)) (fun a b h => f15 a b (nz_X12_bad_309__361_373 a b h))
  have r35 := y_DD.fr p4 (f15 329 0 (by decide)) (f15 329 1 (by decide)) (fun b => f15 359 b (nr_X12_bad_309__359 b)) (fun b => f15 374 b (nr_X12_bad_309__374 b))
  have r36 := y_B.fr p5 (f15 309 20 (by decide)) (f15 316 0 (by decide)) (fun b => f15 3220 b (nr_X12_bad_309__3220 b)) (fun b => f15 3221 b (nr_X12_bad_309__3221 b)) (fun b => f15 3222 b (nr_X12_bad_309__3222 b)) (fun b => f15 361 b (nr_X12_bad_309__361 b))
  have r37 := y_K.fr p6 (by omega) (by omega) (f15 309 44 (by decide)) (f15 309 20 (by decide)) (f15 309 58 (by decide)) (fun b => f15 3438 b (nr_X12_bad_309__3438 b)) (fun b => f15 3220 b (nr_X12_bad_309__3220 b)) (fun a b h => f15 a b (nz_X12_bad_309__3452_3651 a b h))
  have r38 := y_KM.fr p7 (f15 309 20 (by decide)) (f15 309 36 (by decide)) (f15 309 38 (by decide)) (f15 309 39 (by decide)) (fun b => f15 312 b (nr_X12_bad_309__312 b)) (fun b => f15 331 b (nr_X12_bad_309__331 b)) (fun b => f15 346 b (nr_X12_bad_309__346 b)) (fun b => f15 361 b (nr_X12_bad_309__361 b)) (fun b => f15 391 b (nr_X12_bad_309__391 b)) (fun a b h => f15 a b (nz_X12_bad_309__407_606 a b h)) (fun a b h => f15 a b (nz_X12_bad_309__3220_3223 a b h)) (fun a b h => f15 a b (nz_X12_bad_309__3235_3437 a b h))
  refine T_ite (fun h39 => ?_) (fun h39 => ?_)
  · refine T_if1 (by decide +kernel) ?_
    refine T_useI (sf_X12_clashOf_309 hfu s13 c14 a1 (by omega) r36 (by first | exact r33 | exact y_K.B r37 (by omega) (by omega)) (by first | exact y_L.cg r32 (by omega) | exact y_K.L r37 (by omega) (by omega)) r34 (by omega)) (fun v45 s40 hq => ?_)
    obtain ⟨c41, f42, ⟨x44, rfl, b46, b47⟩⟩ := hq
    refine T_vI ?_
    have f43 := z_Fr.tr (R := R_X12_clash_309) f16 f42 rs_X12_clashOf_309__X12_clash_309
    have t48 : s40 309 20 = s 309 20 := (f42 309 20 (by decide)).trans t24
    have t49 : s40 309 36 = s 309 36 := (f42 309 36 (by decide)).trans t25
    have t50 : s40 309 43 = s 309 43 := (f42 309 43 (by decide)).trans t26
    have t51 : s40 309 44 = s 309 44 := (f42 309 44 (by decide)).trans t27
    have t52 : s40 309 58 = s 309 58 := (f42 309 58 (by decide)).trans t28
    have t53 : s40 316 0 = s 316 0 := (f42 316 0 (by decide)).trans t29
    have t54 : s40 329 0 = s 329 0 := (f42 329 0 (by decide)).trans t30
    have t55 : s40 329 1 = s 329 1 := (f42 329 1 (by decide)).trans t31
    have r56 := y_L.fr r32 (f42 309 20 (by decide)) (fun b => f42 3438 b (nr_X12_clashOf_309__3438 b))
    have r57 := y_BK.fr r33 (by omega) (f42 309 20 (by decide)) (f42 309 58 (by decide)) (fun b => f42 3220 b (nr_X12_clashOf_309__3220 b)) (fun a b h => f42 a b (nz_X12_clashOf_309__3452_3651 a b h))
    have r58 := y_TA.fr r34 (fun a b h => f42 a b (nz_X12_clashOf_309__316_328 a b h)) (fun a b h => f42 a b (nz_X12_clashOf_309__346_358 a b h)) (fun a b h => f42 a b (nz_X12_clashOf_309__361_373 a b h))
    have r59 := y_DD.fr r35 (f42 329 0 (by decide)) (f42 329 1 (by decide)) (fun b => f42 359 b (nr_X12_clashOf_309__359 b)) (fun b => f42 374 b (nr_X12_clashOf_309__374 b))
    have r60 := y_B.fr r36 (f42 309 20 (by decide)) (f42 316 0 (by decide)) (fun b => f42 3220 b (nr_X12_clashOf_309__3220 b)) (fun b => f42 3221 b (nr_X12_clashOf_309__3221 b)) (fun b => f42 3222 b (nr_X12_clashOf_309__3222 b)) (fun b => f42 361 b (nr_X12_clashOf_309__361 b))
    have r61 := y_K.fr r37 (by omega) (by omega) (f42 309 44 (by decide)) (f42 309 20 (by decide)) (f42 309 58 (by decide)) (fun b => f42 3438 b (nr_X12_clashOf_309__3438 b)) (fun b => f42 3220 b (nr_X12_clashOf_309__3220 b)) (fun a b h => f42 a b (nz_X12_clashOf_309__3452_3651 a b h))
    have r62 := y_KM.fr r38 (f42 309 20 (by decide)) (f42 309 36 (by decide)) (f42 309 38 (by decide)) (f42 309 39 (by decide)) (fun b => f42 312 b (nr_X12_clashOf_309__312 b)) (fun b => f42 331 b (nr_X12_clashOf_309__331 b)) (fun b => f42 346 b (nr_X12_clashOf_309__346 b)) (fun b => f42 361 b (nr_X12_clashOf_309__361 b)) (fun b => f42 391 b (nr_X12_clashOf_309__391 b)) (fun a b h => f42 a b (nz_X12_clashOf_309__407_606 a b h)) (fun a b h => f42 a b (nz_X12_clashOf_309__3220_3223 a b h)) (fun a b h => f42 a b (nz_X12_clashOf_309__3235_3437 a b h))
    clear t24
    clear t25
    clear t26
    clear t27
    clear t28
    clear t29
    clear t30
    clear t31
    exact T_ret ⟨c41, f43, r58, (by first | exact r59 | exact y_DD.z (by omega) (by omega)), r60, (by first | exact r61 | exact y_K.b0 (by omega) | exact y_K.k0 (by omega) | exact y_K.bk (by omega) | exact y_K.mk r56 (by omega) r57), (by first | exact r62 | exact y_KM.z (by omega)), ⟨x44, rfl, by omega, by omega⟩⟩
  · exact T_ret ⟨c14, f16, r34, (by first | exact r35 | exact y_DD.z (by omega) (by omega)), r36, (by first | exact r37 | exact y_K.b0 (by omega) | exact y_K.k0 (by omega) | exact y_K.bk (by omega) | exact y_K.mk r32 (by omega) r33), (by first | exact r38 | exact y_KM.z (by omega)), ⟨0, rfl, by omega, by omega⟩⟩
theorem sf_X12_clash_309K {fu : Nat} (hfu : 8589934592 ≤ fu) (r0 : z_M) (c0 : z_CI r0) (a1 : Int) (b1 : -2147483648 ≤ a1 ∧ a1 ≤ 2147483647) (p0 : y_TA r0) (p1 : y_DD r0) (p2 : y_B r0) (p3 : y_K r0) (p4 : y_KM r0) : z_T (fX12_clash fu r0 309 a1) (P_X12_clash_309K r0) := by
  refine T_of (fX12_clash.eq_1 ..) ?_
  have u1 := CI_b c0 (k := 309) (j := 20) bd_309_20
  have u2 := CI_b c0 (k := 309) (j := 36) bd_309_36
  have u3 := CI_b c0 (k := 309) (j := 43) bd_309_43
  have u4 := CI_b c0 (k := 309) (j := 44) bd_309_44
  have u5 := CI_b c0 (k := 309) (j := 58) bd_309_58
  have u6 := CI_b c0 (k := 316) (j := 0) bd_316_0
  have u7 := CI_b c0 (k := 329) (j := 0) bd_329_0
  have u8 := CI_b c0 (k := 329) (j := 1) bd_329_1
  refine T_if1 (by decide +kernel) ?_
  refine T_upg c0 bd_309_0 (by omega) (fun s9 c10 g12 g13 e14 => ?_)
  have f11 := z_Fr.upf (R := R_X12_clash_309) z_Fr.rf g12 g13 (Or.inr (Or.inr (⟨rfl, by decide⟩)))
  have t15 : s9 309 20 = r0 309 20 := g13 20 (by decide)
  have t16 : s9 309 36 = r0 309 36 := g13 36 (by decide)
  have t17 : s9 309 43 = r0 309 43 := g13 43 (by decide)
  have t18 : s9 309 44 = r0 309 44 := g13 44 (by decide)
  have t19 : s9 309 58 = r0 309 58 := g13 58 (by decide)
  have t20 : s9 316 0 = r0 316 0 := g12 316 0 (by decide)
  have t21 : s9 329 0 = r0 329 0 := g12 329 0 (by decide)
  have t22 : s9 329 1 = r0 329 1 := g12 329 1 (by decide)
  have r23 := y_TA.fr p0 (fun a b h => g12 a b (by omega)) (fun a b h => g12 a b (by omega)) (fun a b h => g12 a b (by omega))
  have r24 := y_DD.fr p1 (g12 329 0 (by decide)) (g12 329 1 (by decide)) (fun b => g12 359 b (by decide)) (fun b => g12 374 b (by decide))
  have r25 := y_B.fr p2 (g13 20 (by decide)) (g12 316 0 (by decide)) (fun b => g12 3220 b (by decide)) (fun b => g12 3221 b (by decide)) (fun b => g12 3222 b (by decide)) (fun b => g12 361 b (by decide))
  have r26 := y_K.fr p3 (by omega) (by omega) (g13 44 (by decide)) (g13 20 (by decide)) (g13 58 (by decide)) (fun b => g12 3438 b (by decide)) (fun b => g12 3220 b (by decide)) (fun a b h => g12 a b (by omega))
  have r27 := y_KM.fr p4 (g13 20 (by decide)) (g13 36 (by decide)) (g13 38 (by decide)) (g13 39 (by decide)) (fun b => g12 312 b (by decide)) (fun b => g12 331 b (by decide)) (fun b => g12 346 b (by decide)) (fun b => g12 361 b (by decide)) (fun b => g12 391 b (by decide)) (fun a b h => g12 a b (by omega)) (fun a b h => g12 a b (by omega)) (fun a b h => g12 a b (by omega))
  refine T_if1 (by decide +kernel) ?_
  refine T_useI (sf_X12_isLine_309K hfu s9 c10 a1 (by omega) r25 (by first | exact r26 | exact y_K.b0 (by omega) | exact y_K.k0 (by omega) | exact y_K.bk (by omega)) (by first | exact r27 | exact y_KM.z (by omega))) (fun v33 s28 hq => ?_)
  obtain ⟨c29, f30, o34, o35, o36, o37, o38, o39, o40, ⟨x32, rfl, b41, b42, o43⟩⟩ := hq
  refine T_vI ?_
  have f31 := z_Fr.tr (R := R_X12_clash_309) f11 f30 rs_X12_isLine_309__X12_clash_309
  have t44 : s28 309 20 = r0 309 20 := (f30 309 20 (by decide)).trans t15
  have t45 : s28 316 0 = r0 316 0 := (f30 316 0 (by decide)).trans t20
  have t46 : s28 329 0 = r0 329 0 := (f30 329 0 (by decide)).trans t21
  have t47 : s28 329 1 = r0 329 1 := (f30 329 1 (by decide)).trans t22
  have u48 := CI_b c29 (k := 309) (j := 36) bd_309_36
  have u49 := CI_b c29 (k := 309) (j := 43) bd_309_43
  have u50 := CI_b c29 (k := 309) (j := 44) bd_309_44
  have u51 := CI_b c29 (k := 309) (j := 58) bd_309_58
  have r52 := y_TA.fr r23 (fun a b h => f30 a b (nz_X12_isLine_309__316_328 a b h)) (fun a b h => f30 a b (nz_X12_isLine_309__346_358 a b h)) (fun a b h => f30 a b (nz_X12_isLine_309__361_373 a b h))
  have r53 := y_DD.fr r24 (f30 329 0 (by decide)) (f30 329 1 (by decide)) (fun b => f30 359 b (nr_X12_isLine_309__359 b)) (fun b => f30 374 b (nr_X12_isLine_309__374 b))
  have r54 := y_B.fr r25 (f30 309 20 (by decide)) (f30 316 0 (by decide)) (fun b => f30 3220 b (nr_X12_isLine_309__3220 b)) (fun b => f30 3221 b (nr_X12_isLine_309__3221 b)) (fun b => f30 3222 b (nr_X12_isLine_309__3222 b)) (fun b => f30 361 b (nr_X12_isLine_309__361 b))
  clear t15
  clear t20
  clear t21
  clear t22
  refine T_ite (fun h55 => ?_) (fun h55 => ?_)
  · exact sj_X12_clash_309K_J19 hfu r0 s28 c29 f31 a1 0 (by omega) (by omega) (by omega) (by first | exact y_L.cg o35 (by omega) | exact y_K.L o34 (by omega) (by omega)) (by first | exact o36 | exact y_K.B o34 (by omega) (by omega)) r52 (by first | exact r53 | exact y_DD.z (by omega) (by omega)) r54 (by first | exact o34 | exact y_K.b0 (by omega) | exact y_K.k0 (by omega) | exact y_K.bk (by omega) | exact y_K.mk o35 (by omega) o36) (by first | exact o40 | exact y_KM.z (by omega))
  · exact sj_X12_clash_309K_J19 hfu r0 s28 c29 f31 a1 1 (by omega) (by omega) (by omega) (by first | exact y_L.cg o35 (by omega) | exact y_K.L o34 (by omega) (by omega)) (by first | exact o36 | exact y_K.B o34 (by omega) (by omega)) r52 (by first | exact r53 | exact y_DD.z (by omega) (by omega)) r54 (by first | exact o34 | exact y_K.b0 (by omega) | exact y_K.k0 (by omega) | exact y_K.bk (by omega) | exact y_K.mk o35 (by omega) o36) (by first | exact o40 | exact y_KM.z (by omega))
abbrev P_X12_thick_309K (r0 : z_M) : z_V → z_M → Prop := fun v s' => z_CI s' ∧ z_Fr R_X12_thick_309 r0 s' ∧ (y_TA s') ∧ (y_DD s') ∧ (y_B s') ∧ (y_K s') ∧ (y_KM s') ∧ (∃ x, v = vI x ∧ -2147483648 ≤ x ∧ x ≤ 2147483647)
theorem sj_X12_thick_309K_J54 {fu : Nat} (hfu : 8589934592 ≤ fu) (r0 s : z_M) (c : z_CI s) (f : z_Fr R_X12_thick_309 r0 s) (p0 : y_TA s) (p1 : y_DD s) (p2 : y_B s) (p3 : y_K s) (p4 : y_KM s) : z_T (fX12_thick_J54 fu s) (P_X12_thick_309K r0) := by
  refine T_of (fX12_thick_J54.eq_1 ..) ?_
  have u1 := CI_b c (k := 309) (j := 20) bd_309_20
  have u2 := CI_b c (k := 309) (j := 36) bd_309_36
  have u3 := CI_b c (k := 309) (j := 43) bd_309_43
  have u4 := CI_b c (k := 309) (j := 44) bd_309_44
  have u5 := CI_b c (k := 309) (j := 58) bd_309_58
  have u6 := CI_b c (k := 316) (j := 0) bd_316_0
  have u7 := CI_b c (k := 329) (j := 0) bd_329_0
  have u8 := CI_b c (k := 329) (j := 1) bd_329_1
  have t9 : s 309 20 = r0 309 20 := f 309 20 (by decide)
  have t10 : s 316 0 = r0 316 0 := f 316 0 (by decide)
  have t11 : s 329 0 = r0 329 0 := f 329 0 (by decide)
  have t12 : s 329 1 = r0 329 1 := f 329 1 (by decide)
  exact T_ret ⟨c, f, p0, (by first | exact p1 | exact y_DD.z (by omega) (by omega)), p2, (by first | exact p3 | exact y_K.b0 (by omega) | exact y_K.k0 (by omega) | exact y_K.bk (by omega)), (by first | exact p4 | exact y_KM.z (by omega)), ⟨0, rfl, by omega, by omega⟩⟩
theorem nz_X12_thickOf_309__3452_3651 (a b : Int) (h : 3452 ≤ a ∧ a ≤ 3651) : ¬ R_X12_thickOf_309 a b := by
  unfold R_X12_thickOf_309; omega
theorem nz_X12_thickOf_309__316_328 (a b : Int) (h : 316 ≤ a ∧ a ≤ 328) : ¬ R_X12_thickOf_309 a b := by
  unfold R_X12_thickOf_309; omega
theorem nz_X12_thickOf_309__346_358 (a b : Int) (h : 346 ≤ a ∧ a ≤ 358) : ¬ R_X12_thickOf_309 a b := by
  unfold R_X12_thickOf_309; omega
theorem nz_X12_thickOf_309__361_373 (a b : Int) (h : 361 ≤ a ∧ a ≤ 373) : ¬ R_X12_thickOf_309 a b := by
  unfold R_X12_thickOf_309; omega
theorem nr_X12_thickOf_309__312 (b : Int) : ¬ R_X12_thickOf_309 312 b := by
  unfold R_X12_thickOf_309; omega
theorem nr_X12_thickOf_309__331 (b : Int) : ¬ R_X12_thickOf_309 331 b := by
  unfold R_X12_thickOf_309; omega
theorem nr_X12_thickOf_309__346 (b : Int) : ¬ R_X12_thickOf_309 346 b := by
  unfold R_X12_thickOf_309; omega
theorem nr_X12_thickOf_309__391 (b : Int) : ¬ R_X12_thickOf_309 391 b := by
  unfold R_X12_thickOf_309; omega
theorem nz_X12_thickOf_309__407_606 (a b : Int) (h : 407 ≤ a ∧ a ≤ 606) : ¬ R_X12_thickOf_309 a b := by
  unfold R_X12_thickOf_309; omega
theorem nz_X12_thickOf_309__3220_3223 (a b : Int) (h : 3220 ≤ a ∧ a ≤ 3223) : ¬ R_X12_thickOf_309 a b := by
  unfold R_X12_thickOf_309; omega
theorem nz_X12_thickOf_309__3235_3437 (a b : Int) (h : 3235 ≤ a ∧ a ≤ 3437) : ¬ R_X12_thickOf_309 a b := by
  unfold R_X12_thickOf_309; omega
theorem sj_X12_thick_309K_J46 {fu : Nat} (hfu : 8589934592 ≤ fu) (r0 s : z_M) (c : z_CI s) (f : z_Fr R_X12_thick_309 r0 s) (a1 : Int) (a2 : Int) (t1 : Int) (b1 : -2147483648 ≤ a1 ∧ a1 ≤ 2147483647) (b2 : -2147483648 ≤ a2 ∧ a2 ≤ 2147483647) (d1 : 0 ≤ t1 ∧ t1 ≤ 1) (p0 : 0 ≤ a1 ∧ a1 < s 309 44 ∧ 0 ≤ a2 ∧ a2 < s 309 44) (p1 : t1 = 1 ∨ a1 ≤ a2) (p2 : y_L s (s 309 44)) (p3 : y_BK s) (p4 : y_TA s) (p5 : y_DD s) (p6 : y_B s) (p7 : y_K s) (p8 : y_KM s) : z_T (fX12_thick_J46 fu s 309 a1 a2 309 t1) (P_X12_thick_309K r0) := by
  refine T_of (fX12_thick_J46.eq_1 ..) ?_
  have u1 := CI_b c (k := 309) (j := 20) bd_309_20
  have u2 := CI_b c (k := 309) (j := 36) bd_309_36
  have u3 := CI_b c (k := 309) (j := 43) bd_309_43
  have u4 := CI_b c (k := 309) (j := 44) bd_309_44
  have u5 := CI_b c (k := 309) (j := 58) bd_309_58
  have u6 := CI_b c (k := 316) (j := 0) bd_316_0
  have u7 := CI_b c (k := 329) (j := 0) bd_329_0
  have u8 := CI_b c (k := 329) (j := 1) bd_329_1
  have t9 : s 309 20 = r0 309 20 := f 309 20 (by decide)
  have t10 : s 316 0 = r0 316 0 := f 316 0 (by decide)
  have t11 : s 329 0 = r0 329 0 := f 329 0 (by decide)
  have t12 : s 329 1 = r0 329 1 := f 329 1 (by decide)
  refine T_if1 (by decide +kernel) ?_
  refine T_useI (sf_X12_bad_309 hfu s c t1 2 1 (by omega) (by omega) (by omega) (by omega)) (fun v18 s13 hq => ?_)
  obtain ⟨c14, f15, o19, ⟨x17, rfl, b20, b21, o22, o23⟩⟩ := hq
  refine T_vI ?_
  have f16 := z_Fr.tr (R := R_X12_thick_309) f f15 rs_X12_bad_309__X12_thick_309
  have t24 : s13 309 20 = s 309 20 := f15 309 20 (by decide)
  have t25 : s13 309 36 = s 309 36 := f15 309 36 (by decide)
  have t26 : s13 309 43 = s 309 43 := f15 309 43 (by decide)
  have t27 : s13 309 44 = s 309 44 := f15 309 44 (by decide)
  have t28 : s13 309 58 = s 309 58 := f15 309 58 (by decide)
  have t29 : s13 316 0 = s 316 0 := f15 316 0 (by decide)
  have t30 : s13 329 0 = s 329 0 := f15 329 0 (by decide)
  have t31 : s13 329 1 = s 329 1 := f15 329 1 (by decide)
  have r32 := y_L.fr p2 (f15 309 20 (by decide)) (fun b => f15 3438 b (nr_X12_bad_309__3438 b))
  have r33 := y_BK.fr p3 (by omega) (f15 309 20 (by decide)) (f15 309 58 (by decide)) (fun b => f15 3220 b (nr_X12_bad_309__3220 b)) (fun a b h => f15 a b (nz_X12_bad_309__3452_3651 a b h))
  have r34 := y_TA.fr p4 (fun a b h => f15 a b (nz_X12_bad_309__316_328 a b h)) (fun a b h => f15 a b (nz_X12_bad_309__346_358 a b h)) (fun a b h => f15 a b (nz_X12_bad_309__361_373 a b h))
  have r35 := y_DD.fr p5 (f15 329 0 (by decide)) (f15 329 1 (by decide)) (fun b => f15 359 b (nr_X12_bad_309__359 b)) (fun b => f15 374 b (nr_X12_bad_309__374 b))
  have r36 := y_B.fr p6 (f15 309 20 (by decide)) (f15 316 0 (by decide)) (fun b => f15 3220 b (nr_X12_bad_309__3220 b)) (fun b => f15 3221 b (nr_X12_bad_309__3221 b)) (fun b => f15 3222 b (nr_X12_bad_309__3222 b)) (fun b => f15 361 b (nr_X12_bad_309__361 b))
  have r37 := y_K.fr p7 (by omega) (by omega) (f15 309 44 (by decide)) (f15 309 20 (by decide)) (f15 309 58 (by decide)) (fun b => f15 3438 b (nr_X12_bad_309__3438 b)) (fun b => f15 3220 b (nr_X12_bad_309__3220 b)) (fun a b h => f15 a b (nz_X12_bad_309__3452_3651 a b h))
  have r38 := y_KM.fr p8 (f15 309 20 (by decide)) (f15 309 36 (by decide)) (f15 309 38 (by decide)) (f15 309 39 (by decide)) (fun b => f15 312 b (nr_X12_bad_309__312 b)) (fun b => f15 331 b (nr_X12_bad_309__331 b)) (fun b => f15 346 b (nr_X12_bad_309__346 b)) (fun b => f15 361 b (nr_X12_bad_309__361 b)) (fun b => f15 391 b (nr_X12_bad_309__391 b)) (fun a b h => f15 a b (nz_X12_bad_309__407_606 a b h)) (fun a b h => f15 a b (nz_X12_bad_309__3220_3223 a b h)) (fun a b h => f15 a b (nz_X12_bad_309__3235_3437 a b h))
  refine T_ite (fun h39 => ?_) (fun h39 => ?_)
  · refine T_if1 (by decide +kernel) ?_
    refine T_useI (sf_X12_thickOf_309 hfu s13 c14 a1 a2 (by omega) (by omega) r36 (by first | exact r33 | exact y_K.B r37 (by omega) (by omega)) (by first | exact y_L.cg r32 (by omega) | exact y_K.L r37 (by omega) (by omega)) r34 (by omega) (by omega)) (fun v45 s40 hq => ?_)
    obtain ⟨c41, f42, ⟨x44, rfl, b46, b47⟩⟩ := hq
    refine T_vI ?_
    have f43 := z_Fr.tr (R := R_X12_thick_309) f16 f42 rs_X12_thickOf_309__X12_thick_309
    have t48 : s40 309 20 = s 309 20 := (f42 309 20 (by decide)).trans t24
    have t49 : s40 309 36 = s 309 36 := (f42 309 36 (by decide)).trans t25
    have t50 : s40 309 43 = s 309 43 := (f42 309 43 (by decide)).trans t26
    have t51 : s40 309 44 = s 309 44 := (f42 309 44 (by decide)).trans t27
    have t52 : s40 309 58 = s 309 58 := (f42 309 58 (by decide)).trans t28
    have t53 : s40 316 0 = s 316 0 := (f42 316 0 (by decide)).trans t29
    have t54 : s40 329 0 = s 329 0 := (f42 329 0 (by decide)).trans t30
    have t55 : s40 329 1 = s 329 1 := (f42 329 1 (by decide)).trans t31
    have r56 := y_L.fr r32 (f42 309 20 (by decide)) (fun b => f42 3438 b (nr_X12_thickOf_309__3438 b))
    have r57 := y_BK.fr r33 (by omega) (f42 309 20 (by decide)) (f42 309 58 (by decide)) (fun b => f42 3220 b (nr_X12_thickOf_309__3220 b)) (fun a b h => f42 a b (nz_X12_thickOf_309__3452_3651 a b h))
    have r58 := y_TA.fr r34 (fun a b h => f42 a b (nz_X12_thickOf_309__316_328 a b h)) (fun a b h => f42 a b (nz_X12_thickOf_309__346_358 a b h)) (fun a b h => f42 a b (nz_X12_thickOf_309__361_373 a b h))
    have r59 := y_DD.fr r35 (f42 329 0 (by decide)) (f42 329 1 (by decide)) (fun b => f42 359 b (nr_X12_thickOf_309__359 b)) (fun b => f42 374 b (nr_X12_thickOf_309__374 b))
    have r60 := y_B.fr r36 (f42 309 20 (by decide)) (f42 316 0 (by decide)) (fun b => f42 3220 b (nr_X12_thickOf_309__3220 b)) (fun b => f42 3221 b (nr_X12_thickOf_309__3221 b)) (fun b => f42 3222 b (nr_X12_thickOf_309__3222 b)) (fun b => f42 361 b (nr_X12_thickOf_309__361 b))
    have r61 := y_K.fr r37 (by omega) (by omega) (f42 309 44 (by decide)) (f42 309 20 (by decide)) (f42 309 58 (by decide)) (fun b => f42 3438 b (nr_X12_thickOf_309__3438 b)) (fun b => f42 3220 b (nr_X12_thickOf_309__3220 b)) (fun a b h => f42 a b (nz_X12_thickOf_309__3452_3651 a b h))
    have r62 := y_KM.fr r38 (f42 309 20 (by decide)) (f42 309 36 (by decide)) (f42 309 38 (by decide)) (f42 309 39 (by decide)) (fun b => f42 312 b (nr_X12_thickOf_309__312 b)) (fun b => f42 331 b (nr_X12_thickOf_309__331 b)) (fun b => f42 346 b (nr_X12_thickOf_309__346 b)) (fun b => f42 361 b (nr_X12_thickOf_309__361 b)) (fun b => f42 391 b (nr_X12_thickOf_309__391 b)) (fun a b h => f42 a b (nz_X12_thickOf_309__407_606 a b h)) (fun a b h => f42 a b (nz_X12_thickOf_309__3220_3223 a b h)) (fun a b h => f42 a b (nz_X12_thickOf_309__3235_3437 a b h))
    clear t24
    clear t25
    clear t26
    clear t27
    clear t28
    clear t29
    clear t30
    clear t31
    exact T_ret ⟨c41, f43, r58, (by first | exact r59 | exact y_DD.z (by omega) (by omega)), r60, (by first | exact r61 | exact y_K.b0 (by omega) | exact y_K.k0 (by omega) | exact y_K.bk (by omega) | exact y_K.mk r56 (by omega) r57), (by first | exact r62 | exact y_KM.z (by omega)), ⟨x44, rfl, by omega, by omega⟩⟩
  · exact sj_X12_thick_309K_J54 hfu r0 s13 c14 f16 r34 (by first | exact r35 | exact y_DD.z (by omega) (by omega)) r36 (by first | exact r37 | exact y_K.b0 (by omega) | exact y_K.k0 (by omega) | exact y_K.bk (by omega) | exact y_K.mk r32 (by omega) r33) (by first | exact r38 | exact y_KM.z (by omega))
theorem sj_X12_thick_309K_J27 {fu : Nat} (hfu : 8589934592 ≤ fu) (r0 s : z_M) (c : z_CI s) (f : z_Fr R_X12_thick_309 r0 s) (a1 : Int) (a2 : Int) (t1 : Int) (b1 : -2147483648 ≤ a1 ∧ a1 ≤ 2147483647) (b2 : -2147483648 ≤ a2 ∧ a2 ≤ 2147483647) (d1 : 0 ≤ t1 ∧ t1 ≤ 1) (p0 : t1 = 1 ∨ (0 ≤ a1 ∧ a1 < s 309 44 ∧ 0 ≤ a2 ∧ a2 < s 309 44)) (p1 : y_L s (s 309 44)) (p2 : y_BK s) (p3 : y_TA s) (p4 : y_DD s) (p5 : y_B s) (p6 : y_K s) (p7 : y_KM s) : z_T (fX12_thick_J27 fu s 309 a1 a2 309 t1) (P_X12_thick_309K r0) := by
  refine T_of (fX12_thick_J27.eq_1 ..) ?_
  have u1 := CI_b c (k := 309) (j := 20) bd_309_20
  have u2 := CI_b c (k := 309) (j := 36) bd_309_36
  have u3 := CI_b c (k := 309) (j := 43) bd_309_43
  have u4 := CI_b c (k := 309) (j := 44) bd_309_44
  have u5 := CI_b c (k := 309) (j := 58) bd_309_58
  have u6 := CI_b c (k := 316) (j := 0) bd_316_0
  have u7 := CI_b c (k := 329) (j := 0) bd_329_0
  have u8 := CI_b c (k := 329) (j := 1) bd_329_1
  have t9 : s 309 20 = r0 309 20 := f 309 20 (by decide)
  have t10 : s 316 0 = r0 316 0 := f 316 0 (by decide)
  have t11 : s 329 0 = r0 329 0 := f 329 0 (by decide)
  have t12 : s 329 1 = r0 329 1 := f 329 1 (by decide)
  refine T_if1 (by decide +kernel) ?_
  refine T_useI (sf_X12_bad_309 hfu s c t1 1 0 (by omega) (by omega) (by omega) (by omega)) (fun v18 s13 hq => ?_)
  obtain ⟨c14, f15, o19, ⟨x17, rfl, b20, b21, o22, o23⟩⟩ := hq
  refine T_vI ?_
  have f16 := z_Fr.tr (R := R_X12_thick_309) f f15 rs_X12_bad_309__X12_thick_309
  have t24 : s13 309 20 = s 309 20 := f15 309 20 (by decide)
  have t25 : s13 309 36 = s 309 36 := f15 309 36 (by decide)
  have t26 : s13 309 43 = s 309 43 := f15 309 43 (by decide)
  have t27 : s13 309 44 = s 309 44 := f15 309 44 (by decide)
  have t28 : s13 309 58 = s 309 58 := f15 309 58 (by decide)
  have t29 : s13 316 0 = s 316 0 := f15 316 0 (by decide)
  have t30 : s13 329 0 = s 329 0 := f15 329 0 (by decide)
  have t31 : s13 329 1 = s 329 1 := f15 329 1 (by decide)
  have r32 := y_L.fr p1 (f15 309 20 (by decide)) (fun b => f15 3438 b (nr_X12_bad_309__3438 b))
  have r33 := y_BK.fr p2 (by omega) (f15 309 20 (by decide)) (f15 309 58 (by decide)) (fun b => f15 3220 b (nr_X12_bad_309__3220 b)) (fun a b h => f15 a b (nz_X12_bad_309__3452_3651 a b h))
  have r34 := y_TA.fr p3 (fun a b h => f15 a b (nz_X12_bad_309__316_328 a b h)) (fun a b h => f15 a b (nz_X12_bad_309__346_358 a b h)) (fun a b h => f15 a b (nz_X12_bad_309__361_373 a b h))
  have r35 := y_DD.fr p4 (f15 329 0 (by decide)) (f15 329 1 (by decide)) (fun b => f15 359 b (nr_X12_bad_309__359 b)) (fun b => f15 374 b (nr_X12_bad_309__374 b))
  have r36 := y_B.fr p5 (f15 309 20 (by decide)) (f15 316 0 (by decide)) (fun b => f15 3220 b (nr_X12_bad_309__3220 b)) (fun b => f15 3221 b (nr_X12_bad_309__3221 b)) (fun b => f15 3222 b (nr_X12_bad_309__3222 b)) (fun b => f15 361 b (nr_X12_bad_309__361 b))
  have r37 := y_K.fr p6 (by omega) (by omega) (f15 309 44 (by decide)) (f15 309 20 (by decide)) (f15 309 58 (by decide)) (fun b => f15 3438 b (nr_X12_bad_309__3438 b)) (fun b => f15 3220 b (nr_X12_bad_309__3220 b)) (fun a b h => f15 a b (nz_X12_bad_309__3452_3651 a b h))
  have r38 := y_KM.fr p7 (f15 309 20 (by decide)) (f15 309 36 (by decide)) (f15 309 38 (by decide)) (f15 309 39 (by decide)) (fun b => f15 312 b (nr_X12_bad_309__312 b)) (fun b => f15 331 b (nr_X12_bad_309__331 b)) (fun b => f15 346 b (nr_X12_bad_309__346 b)) (fun b => f15 361 b (nr_X12_bad_309__361 b)) (fun b => f15 391 b (nr_X12_bad_309__391 b)) (fun a b h => f15 a b (nz_X12_bad_309__407_606 a b h)) (fun a b h => f15 a b (nz_X12_bad_309__3220_3223 a b h)) (fun a b h => f15 a b (nz_X12_bad_309__3235_3437 a b h))
  refine T_ite (fun h39 => ?_) (fun h39 => ?_)
  · exact sj_X12_thick_309K_J54 hfu r0 s13 c14 f16 r34 (by first | exact r35 | exact y_DD.z (by omega) (by omega)) r36 (by first | exact r37 | exact y_K.b0 (by omega) | exact y_K.k0 (by omega) | exact y_K.bk (by omega) | exact y_K.mk r32 (by omega) r33) (by first | exact r38 | exact y_KM.z (by omega))
  · refine T_ite (fun h40 => ?_) (fun h40 => ?_)
    · exact sj_X12_thick_309K_J46 hfu r0 s13 c14 f16 a1 a2 0 (by omega) (by omega) (by omega) (by omega) (by omega) (by first | exact y_L.cg r32 (by omega) | exact y_K.L r37 (by omega) (by omega)) (by first | exact r33 | exact y_K.B r37 (by omega) (by omega)) r34 (by first | exact r35 | exact y_DD.z (by omega) (by omega)) r36 (by first | exact r37 | exact y_K.b0 (by omega) | exact y_K.k0 (by omega) | exact y_K.bk (by omega) | exact y_K.mk r32 (by omega) r33) (by first | exact r38 | exact y_KM.z (by omega))
    · exact sj_X12_thick_309K_J46 hfu r0 s13 c14 f16 a1 a2 1 (by omega) (by omega) (by omega) (by omega) (by omega) (by first | exact y_L.cg r32 (by omega) | exact y_K.L r37 (by omega) (by omega)) (by first | exact r33 | exact y_K.B r37 (by omega) (by omega)) r34 (by first | exact r35 | exact y_DD.z (by omega) (by omega)) r36 (by first | exact r37 | exact y_K.b0 (by omega) | exact y_K.k0 (by omega) | exact y_K.bk (by omega) | exact y_K.mk r32 (by omega) r33) (by first | exact r38 | exact y_KM.z (by omega))
theorem sj_X12_thick_309K_J22 {fu : Nat} (hfu : 8589934592 ≤ fu) (r0 s : z_M) (c : z_CI s) (f : z_Fr R_X12_thick_309 r0 s) (a1 : Int) (a2 : Int) (b1 : -2147483648 ≤ a1 ∧ a1 ≤ 2147483647) (b2 : -2147483648 ≤ a2 ∧ a2 ≤ 2147483647) (p0 : y_L s (s 309 44)) (p1 : y_BK s) (p2 : y_TA s) (p3 : y_DD s) (p4 : y_B s) (p5 : y_K s) (p6 : y_KM s) : z_T (fX12_thick_J22 fu s 309 a1 a2 309) (P_X12_thick_309K r0) := by
  refine T_of (fX12_thick_J22.eq_1 ..) ?_
  have u1 := CI_b c (k := 309) (j := 20) bd_309_20
  have u2 := CI_b c (k := 309) (j := 36) bd_309_36
  have u3 := CI_b c (k := 309) (j := 43) bd_309_43
  have u4 := CI_b c (k := 309) (j := 44) bd_309_44
  have u5 := CI_b c (k := 309) (j := 58) bd_309_58
  have u6 := CI_b c (k := 316) (j := 0) bd_316_0
  have u7 := CI_b c (k := 329) (j := 0) bd_329_0
  have u8 := CI_b c (k := 329) (j := 1) bd_329_1
  have t9 : s 309 20 = r0 309 20 := f 309 20 (by decide)
  have t10 : s 316 0 = r0 316 0 := f 316 0 (by decide)
  have t11 : s 329 0 = r0 329 0 := f 329 0 (by decide)
  have t12 : s 329 1 = r0 329 1 := f 329 1 (by decide)
  exact sj_X12_thick_309K_J27 hfu r0 s c f a1 a2 1 (by omega) (by omega) (by omega) (by omega) (by first | exact y_L.cg p0 (by omega) | exact y_K.L p5 (by omega) (by omega)) (by first | exact p1 | exact y_K.B p5 (by omega) (by omega)) p2 (by first | exact p3 | exact y_DD.z (by omega) (by omega)) p4 (by first | exact p5 | exact y_K.b0 (by omega) | exact y_K.k0 (by omega) | exact y_K.bk (by omega) | exact y_K.mk p0 (by omega) p1) (by first | exact p6 | exact y_KM.z (by omega))
theorem sf_X12_thick_309K {fu : Nat} (hfu : 8589934592 ≤ fu) (r0 : z_M) (c0 : z_CI r0) (a1 : Int) (a2 : Int) (b1 : -2147483648 ≤ a1 ∧ a1 ≤ 2147483647) (b2 : -2147483648 ≤ a2 ∧ a2 ≤ 2147483647) (p0 : y_TA r0) (p1 : y_DD r0) (p2 : y_B r0) (p3 : y_K r0) (p4 : y_KM r0) : z_T (fX12_thick fu r0 309 a1 a2) (P_X12_thick_309K r0) := by
  refine T_of (fX12_thick.eq_1 ..) ?_
  have u1 := CI_b c0 (k := 309) (j := 20) bd_309_20
  have u2 := CI_b c0 (k := 309) (j := 36) bd_309_36
  have u3 := CI_b c0 (k := 309) (j := 43) bd_309_43
  have u4 := CI_b c0 (k := 309) (j := 44) bd_309_44
  have u5 := CI_b c0 (k := 309) (j := 58) bd_309_58
  have u6 := CI_b c0 (k := 316) (j := 0) bd_316_0
  have u7 := CI_b c0 (k := 329) (j := 0) bd_329_0
  have u8 := CI_b c0 (k := 329) (j := 1) bd_329_1
  refine T_if1 (by decide +kernel) ?_
  refine T_upg c0 bd_309_0 (by omega) (fun s9 c10 g12 g13 e14 => ?_)
  have f11 := z_Fr.upf (R := R_X12_thick_309) z_Fr.rf g12 g13 (Or.inr (Or.inr (⟨rfl, by decide⟩)))
  have t15 : s9 309 20 = r0 309 20 := g13 20 (by decide)
  have t16 : s9 309 36 = r0 309 36 := g13 36 (by decide)
  have t17 : s9 309 43 = r0 309 43 := g13 43 (by decide)
  have t18 : s9 309 44 = r0 309 44 := g13 44 (by decide)
  have t19 : s9 309 58 = r0 309 58 := g13 58 (by decide)
  have t20 : s9 316 0 = r0 316 0 := g12 316 0 (by decide)
  have t21 : s9 329 0 = r0 329 0 := g12 329 0 (by decide)
  have t22 : s9 329 1 = r0 329 1 := g12 329 1 (by decide)
  have r23 := y_TA.fr p0 (fun a b h => g12 a b (by omega)) (fun a b h => g12 a b (by omega)) (fun a b h => g12 a b (by omega))
  have r24 := y_DD.fr p1 (g12 329 0 (by decide)) (g12 329 1 (by decide)) (fun b => g12 359 b (by decide)) (fun b => g12 374 b (by decide))
  have r25 := y_B.fr p2 (g13 20 (by decide)) (g12 316 0 (by decide)) (fun b => g12 3220 b (by decide)) (fun b => g12 3221 b (by decide)) (fun b => g12 3222 b (by decide)) (fun b => g12 361 b (by decide))
  have r26 := y_K.fr p3 (by omega) (by omega) (g13 44 (by decide)) (g13 20 (by decide)) (g13 58 (by decide)) (fun b => g12 3438 b (by decide)) (fun b => g12 3220 b (by decide)) (fun a b h => g12 a b (by omega))
  have r27 := y_KM.fr p4 (g13 20 (by decide)) (g13 36 (by decide)) (g13 38 (by decide)) (g13 39 (by decide)) (fun b => g12 312 b (by decide)) (fun b => g12 331 b (by decide)) (fun b => g12 346 b (by decide)) (fun b => g12 361 b (by decide)) (fun b => g12 391 b (by decide)) (fun a b h => g12 a b (by omega)) (fun a b h => g12 a b (by omega)) (fun a b h => g12 a b (by omega))
  refine T_if1 (by decide +kernel) ?_
  refine T_useI (sf_X12_isLine_309K hfu s9 c10 a1 (by omega) r25 (by first | exact r26 | exact y_K.b0 (by omega) | exact y_K.k0 (by omega) | exact y_K.bk (by omega)) (by first | exact r27 | exact y_KM.z (by omega))) (fun v33 s28 hq => ?_)
  obtain ⟨c29, f30, o34, o35, o36, o37, o38, o39, o40, ⟨x32, rfl, b41, b42, o43⟩⟩ := hq
  refine T_vI ?_
  have f31 := z_Fr.tr (R := R_X12_thick_309) f11 f30 rs_X12_isLine_309__X12_thick_309
  have t44 : s28 309 20 = r0 309 20 := (f30 309 20 (by decide)).trans t15
  have t45 : s28 316 0 = r0 316 0 := (f30 316 0 (by decide)).trans t20
  have t46 : s28 329 0 = r0 329 0 := (f30 329 0 (by decide)).trans t21
  have t47 : s28 329 1 = r0 329 1 := (f30 329 1 (by decide)).trans t22
  have u48 := CI_b c29 (k := 309) (j := 36) bd_309_36
  have u49 := CI_b c29 (k := 309) (j := 43) bd_309_43
  have u50 := CI_b c29 (k := 309) (j := 44) bd_309_44
  have u51 := CI_b c29 (k := 309) (j := 58) bd_309_58
  have r52 := y_TA.fr r23 (fun a b h => f30 a b (nz_X12_isLine_309__316_328 a b h)) (fun a b h => f30 a b (nz_X12_isLine_309__346_358 a b h)) (fun a b h => f30 a b (nz_X12_isLine_309__361_373 a b h))
  have r53 := y_DD.fr r24 (f30 329 0 (by decide)) (f30 329 1 (by decide)) (fun b => f30 359 b (nr_X12_isLine_309__359 b)) (fun b => f30 374 b (nr_X12_isLine_309__374 b))
  have r54 := y_B.fr r25 (f30 309 20 (by decide)) (f30 316 0 (by decide)) (fun b => f30 3220 b (nr_X12_isLine_309__3220 b)) (fun b => f30 3221 b (nr_X12_isLine_309__3221 b)) (fun b => f30 3222 b (nr_X12_isLine_309__3222 b)) (fun b => f30 361 b (nr_X12_isLine_309__361 b))
  clear t15
  clear t20
  clear t21
  clear t22
  refine T_ite (fun h55 => ?_) (fun h55 => ?_)
  · exact sj_X12_thick_309K_J22 hfu r0 s28 c29 f31 a1 a2 (by omega) (by omega) (by first | exact y_L.cg o35 (by omega) | exact y_K.L o34 (by omega) (by omega)) (by first | exact o36 | exact y_K.B o34 (by omega) (by omega)) r52 (by first | exact r53 | exact y_DD.z (by omega) (by omega)) r54 (by first | exact o34 | exact y_K.b0 (by omega) | exact y_K.k0 (by omega) | exact y_K.bk (by omega) | exact y_K.mk o35 (by omega) o36) (by first | exact o40 | exact y_KM.z (by omega))
  · refine T_if1 (by decide +kernel) ?_
    refine T_useI (sf_X12_isLine_309K hfu s28 c29 a2 (by omega) r54 (by first | exact o34 | exact y_K.b0 (by omega) | exact y_K.k0 (by omega) | exact y_K.bk (by omega) | exact y_K.mk o35 (by omega) o36) (by first | exact o40 | exact y_KM.z (by omega))) (fun v61 s56 hq => ?_)
    obtain ⟨c57, f58, o62, o63, o64, o65, o66, o67, o68, ⟨x60, rfl, b69, b70, o71⟩⟩ := hq
    refine T_vI ?_
    have f59 := z_Fr.tr (R := R_X12_thick_309) f31 f58 rs_X12_isLine_309__X12_thick_309
    have t72 : s56 309 20 = r0 309 20 := (f58 309 20 (by decide)).trans t44
    have t73 : s56 316 0 = r0 316 0 := (f58 316 0 (by decide)).trans t45
    have t74 : s56 329 0 = r0 329 0 := (f58 329 0 (by decide)).trans t46
    have t75 : s56 329 1 = r0 329 1 := (f58 329 1 (by decide)).trans t47
    have u76 := CI_b c57 (k := 309) (j := 36) bd_309_36
    have u77 := CI_b c57 (k := 309) (j := 43) bd_309_43
    have u78 := CI_b c57 (k := 309) (j := 44) bd_309_44
    have u79 := CI_b c57 (k := 309) (j := 58) bd_309_58
    have r80 := y_TA.fr r52 (fun a b h => f58 a b (nz_X12_isLine_309__316_328 a b h)) (fun a b h => f58 a b (nz_X12_isLine_309__346_358 a b h)) (fun a b h => f58 a b (nz_X12_isLine_309__361_373 a b h))
    have r81 := y_DD.fr r53 (f58 329 0 (by decide)) (f58 329 1 (by decide)) (fun b => f58 359 b (nr_X12_isLine_309__359 b)) (fun b => f58 374 b (nr_X12_isLine_309__374 b))
    have r82 := y_B.fr r54 (f58 309 20 (by decide)) (f58 316 0 (by decide)) (fun b => f58 3220 b (nr_X12_isLine_309__3220 b)) (fun b => f58 3221 b (nr_X12_isLine_309__3221 b)) (fun b => f58 3222 b (nr_X12_isLine_309__3222 b)) (fun b => f58 361 b (nr_X12_isLine_309__361 b))
    clear t44
    clear t45
    clear t46
    clear t47
    refine T_ite (fun h83 => ?_) (fun h83 => ?_)
    · exact sj_X12_thick_309K_J27 hfu r0 s56 c57 f59 a1 a2 0 (by omega) (by omega) (by omega) (by omega) (by first | exact y_L.cg o63 (by omega) | exact y_K.L o62 (by omega) (by omega)) (by first | exact o64 | exact y_K.B o62 (by omega) (by omega)) r80 (by first | exact r81 | exact y_DD.z (by omega) (by omega)) r82 (by first | exact o62 | exact y_K.b0 (by omega) | exact y_K.k0 (by omega) | exact y_K.bk (by omega) | exact y_K.mk o63 (by omega) o64) (by first | exact o68 | exact y_KM.z (by omega))
    · exact sj_X12_thick_309K_J22 hfu r0 s56 c57 f59 a1 a2 (by omega) (by omega) (by first | exact y_L.cg o63 (by omega) | exact y_K.L o62 (by omega) (by omega)) (by first | exact o64 | exact y_K.B o62 (by omega) (by omega)) r80 (by first | exact r81 | exact y_DD.z (by omega) (by omega)) r82 (by first | exact o62 | exact y_K.b0 (by omega) | exact y_K.k0 (by omega) | exact y_K.bk (by omega) | exact y_K.mk o63 (by omega) o64) (by first | exact o68 | exact y_KM.z (by omega))
abbrev P_X12_laysGutters_309K (r0 : z_M) : z_V → z_M → Prop := fun v s' => z_CI s' ∧ z_Fr R_X12_laysGutters_309 r0 s' ∧ (y_K s') ∧ (y_L s' (s' 309 44)) ∧ (y_BK s') ∧ (y_KM s') ∧ (v = vN)
theorem nr_X12_sideOf_309__312 (b : Int) : ¬ R_X12_sideOf_309 312 b := by
  unfold R_X12_sideOf_309; omega
theorem nr_X12_sideOf_309__331 (b : Int) : ¬ R_X12_sideOf_309 331 b := by
  unfold R_X12_sideOf_309; omega
theorem nr_X12_sideOf_309__346 (b : Int) : ¬ R_X12_sideOf_309 346 b := by
  unfold R_X12_sideOf_309; omega
theorem nr_X12_sideOf_309__391 (b : Int) : ¬ R_X12_sideOf_309 391 b := by
  unfold R_X12_sideOf_309; omega
theorem nz_X12_sideOf_309__407_606 (a b : Int) (h : 407 ≤ a ∧ a ≤ 606) : ¬ R_X12_sideOf_309 a b := by
  unfold R_X12_sideOf_309; omega
theorem nz_X12_sideOf_309__3220_3223 (a b : Int) (h : 3220 ≤ a ∧ a ≤ 3223) : ¬ R_X12_sideOf_309 a b := by
  unfold R_X12_sideOf_309; omega
theorem nz_X12_sideOf_309__3235_3437 (a b : Int) (h : 3235 ≤ a ∧ a ≤ 3437) : ¬ R_X12_sideOf_309 a b := by
  unfold R_X12_sideOf_309; omega
theorem sj_X12_laysGutters_309K_J59 {fu : Nat} (hfu : 8589934592 ≤ fu) (r0 s : z_M) (c : z_CI s) (f : z_Fr R_X12_laysGutters_309 r0 s) (a1 : Int) (t1 : Int) (t2 : Int) (b1 : 0 ≤ a1 ∧ a1 ≤ 199) (d1 : 0 ≤ t1 ∧ t1 ≤ 199) (d2 : 0 ≤ t2 ∧ t2 ≤ 6) (p0 : y_B s) (p1 : y_K s) (p2 : y_TA s) (p3 : y_L s (s 309 44)) (p4 : y_BK s) (p5 : a1 < s 309 44) (p6 : y_KM s) (M : Int) (pm : 2147483647 - a1 ≤ M) {r : z_M → Int → z_O} {k : z_M → z_O} (hr : ∀ (s' : z_M) (v1 : Int), z_CI s' → z_Fr R_X12_laysGutters_309 r0 s' → (0 ≤ v1 ∧ v1 ≤ 200) → (y_B s') → (y_K s') → (y_TA s') → (y_L s' (s' 309 44)) → (y_BK s') → (y_KM s') → (2147483647 - v1 < M) → z_T (r s' v1) (P_X12_laysGutters_309K r0)) (hk : ∀ (s' : z_M), z_CI s' → z_Fr R_X12_laysGutters_309 r0 s' → (y_K s') → (y_L s' (s' 309 44)) → (y_BK s') → (y_KM s') → z_T (k s') (P_X12_laysGutters_309K r0)) : z_T (fX12_laysGutters_J59 fu s 309 a1 7655 t1 t2 r k) (P_X12_laysGutters_309K r0) := by
  refine T_of (fX12_laysGutters_J59.eq_1 ..) ?_
  have u1 := CI_b c (k := 309) (j := 20) bd_309_20
  have u2 := CI_b c (k := 309) (j := 36) bd_309_36
  have u3 := CI_b c (k := 309) (j := 43) bd_309_43
  have u4 := CI_b c (k := 309) (j := 44) bd_309_44
  have u5 := CI_b c (k := 309) (j := 58) bd_309_58
  have u6 := CI_b c (k := 316) (j := 0) bd_316_0
  have t7 : s 309 20 = r0 309 20 := f 309 20 (by decide)
  have t8 : s 316 0 = r0 316 0 := f 316 0 (by decide)
  refine T_if1 (z_ixl (n := 200) (by decide +kernel) (by omega) (by omega)) ?_
  refine T_upg c (bdr_7655 t1) (by omega) (fun s9 c10 g12 g13 e14 => ?_)
  have f11 := z_Fr.up (R := R_X12_laysGutters_309) f g12 (fun _ => (Or.inl (⟨by decide, by decide⟩)))
  have t15 : s9 309 20 = s 309 20 := g12 309 20 (by decide)
  have t16 : s9 309 36 = s 309 36 := g12 309 36 (by decide)
  have t17 : s9 309 43 = s 309 43 := g12 309 43 (by decide)
  have t18 : s9 309 44 = s 309 44 := g12 309 44 (by decide)
  have t19 : s9 309 58 = s 309 58 := g12 309 58 (by decide)
  have t20 : s9 316 0 = s 316 0 := g12 316 0 (by decide)
  have r21 := y_B.fr p0 (g12 309 20 (by decide)) (g12 316 0 (by decide)) (fun b => g12 3220 b (by decide)) (fun b => g12 3221 b (by decide)) (fun b => g12 3222 b (by decide)) (fun b => g12 361 b (by decide))
  have r22 := y_K.fr p1 (by omega) (by omega) (g12 309 44 (by decide)) (g12 309 20 (by decide)) (g12 309 58 (by decide)) (fun b => g12 3438 b (by decide)) (fun b => g12 3220 b (by decide)) (fun a b h => g12 a b (by omega))
  have r23 := y_TA.fr p2 (fun a b h => g12 a b (by omega)) (fun a b h => g12 a b (by omega)) (fun a b h => g12 a b (by omega))
  have r24 := y_L.fr p3 (g12 309 20 (by decide)) (fun b => g12 3438 b (by decide))
  have r25 := y_BK.fr p4 (by omega) (g12 309 20 (by decide)) (g12 309 58 (by decide)) (fun b => g12 3220 b (by decide)) (fun a b h => g12 a b (by omega))
  have r26 := y_KM.fr p6 (g12 309 20 (by decide)) (g12 309 36 (by decide)) (g12 309 38 (by decide)) (g12 309 39 (by decide)) (fun b => g12 312 b (by decide)) (fun b => g12 331 b (by decide)) (fun b => g12 346 b (by decide)) (fun b => g12 361 b (by decide)) (fun b => g12 391 b (by decide)) (fun a b h => g12 a b (by omega)) (fun a b h => g12 a b (by omega)) (fun a b h => g12 a b (by omega))
  refine T_leq (fun x27 e28 => ?_)
  first | (have w29 := z_wx e28 (by omega)) | (have w29 := z_wr e28)
  exact hr s9 x27 c10 f11 (by omega) r21 (by first | exact r22 | exact y_K.b0 (by omega) | exact y_K.k0 (by omega) | exact y_K.bk (by omega) | exact y_K.mk r24 (by omega) r25) r23 (by first | exact y_L.cg r24 (by omega) | exact y_K.L r22 (by omega) (by omega)) (by first | exact r25 | exact y_K.B r22 (by omega) (by omega)) (by first | exact r26 | exact y_KM.z (by omega)) (by omega)
theorem sj_X12_laysGutters_309K_J38 {fu : Nat} (hfu : 8589934592 ≤ fu) (r0 s : z_M) (c : z_CI s) (f : z_Fr R_X12_laysGutters_309 r0 s) (a1 : Int) (t1 : Int) (t2 : Int) (b1 : 0 ≤ a1 ∧ a1 ≤ 199) (d1 : 0 ≤ t1 ∧ t1 ≤ 199) (d2 : -2147483648 ≤ t2 ∧ t2 ≤ 2147483647) (p0 : y_B s) (p1 : y_K s) (p2 : y_TA s) (p3 : y_L s (s 309 44)) (p4 : y_BK s) (p5 : a1 < s 309 44) (p6 : y_KM s) (M : Int) (pm : 2147483647 - a1 ≤ M) {r : z_M → Int → z_O} {k : z_M → z_O} (hr : ∀ (s' : z_M) (v1 : Int), z_CI s' → z_Fr R_X12_laysGutters_309 r0 s' → (0 ≤ v1 ∧ v1 ≤ 200) → (y_B s') → (y_K s') → (y_TA s') → (y_L s' (s' 309 44)) → (y_BK s') → (y_KM s') → (2147483647 - v1 < M) → z_T (r s' v1) (P_X12_laysGutters_309K r0)) (hk : ∀ (s' : z_M), z_CI s' → z_Fr R_X12_laysGutters_309 r0 s' → (y_K s') → (y_L s' (s' 309 44)) → (y_BK s') → (y_KM s') → z_T (k s') (P_X12_laysGutters_309K r0)) : z_T (fX12_laysGutters_J38 fu s 309 a1 7654 t1 t2 r k) (P_X12_laysGutters_309K r0) := by
  refine T_of (fX12_laysGutters_J38.eq_1 ..) ?_
  have u1 := CI_b c (k := 309) (j := 20) bd_309_20
  have u2 := CI_b c (k := 309) (j := 36) bd_309_36
  have u3 := CI_b c (k := 309) (j := 43) bd_309_43
  have u4 := CI_b c (k := 309) (j := 44) bd_309_44
  have u5 := CI_b c (k := 309) (j := 58) bd_309_58
  have u6 := CI_b c (k := 316) (j := 0) bd_316_0
  have t7 : s 309 20 = r0 309 20 := f 309 20 (by decide)
  have t8 : s 316 0 = r0 316 0 := f 316 0 (by decide)
  refine T_if1 (z_ixl (n := 200) (by decide +kernel) (by omega) (by omega)) ?_
  refine T_upg c (bdr_7654 t1) (by omega) (fun s9 c10 g12 g13 e14 => ?_)
  have f11 := z_Fr.up (R := R_X12_laysGutters_309) f g12 (fun _ => (Or.inl (⟨by decide, by decide⟩)))
  have t15 : s9 309 20 = s 309 20 := g12 309 20 (by decide)
  have t16 : s9 309 36 = s 309 36 := g12 309 36 (by decide)
  have t17 : s9 309 43 = s 309 43 := g12 309 43 (by decide)
  have t18 : s9 309 44 = s 309 44 := g12 309 44 (by decide)
  have t19 : s9 309 58 = s 309 58 := g12 309 58 (by decide)
  have t20 : s9 316 0 = s 316 0 := g12 316 0 (by decide)
  have r21 := y_B.fr p0 (g12 309 20 (by decide)) (g12 316 0 (by decide)) (fun b => g12 3220 b (by decide)) (fun b => g12 3221 b (by decide)) (fun b => g12 3222 b (by decide)) (fun b => g12 361 b (by decide))
  have r22 := y_K.fr p1 (by omega) (by omega) (g12 309 44 (by decide)) (g12 309 20 (by decide)) (g12 309 58 (by decide)) (fun b => g12 3438 b (by decide)) (fun b => g12 3220 b (by decide)) (fun a b h => g12 a b (by omega))
  have r23 := y_TA.fr p2 (fun a b h => g12 a b (by omega)) (fun a b h => g12 a b (by omega)) (fun a b h => g12 a b (by omega))
  have r24 := y_L.fr p3 (g12 309 20 (by decide)) (fun b => g12 3438 b (by decide))
  have r25 := y_BK.fr p4 (by omega) (g12 309 20 (by decide)) (g12 309 58 (by decide)) (fun b => g12 3220 b (by decide)) (fun a b h => g12 a b (by omega))
  have r26 := y_KM.fr p6 (g12 309 20 (by decide)) (g12 309 36 (by decide)) (g12 309 38 (by decide)) (g12 309 39 (by decide)) (fun b => g12 312 b (by decide)) (fun b => g12 331 b (by decide)) (fun b => g12 346 b (by decide)) (fun b => g12 361 b (by decide)) (fun b => g12 391 b (by decide)) (fun a b h => g12 a b (by omega)) (fun a b h => g12 a b (by omega)) (fun a b h => g12 a b (by omega))
  refine T_if1 (by decide +kernel) ?_
  refine T_let 7655 (by decide +kernel) ?_
  refine T_if1 (by decide +kernel) ?_
  refine T_useI (sf_X12_sideOf_309 hfu s9 c10 a1 1 (by omega) (by omega) r21 (by first | exact r25 | exact y_K.B r22 (by omega) (by omega)) (by first | exact y_L.cg r24 (by omega) | exact y_K.L r22 (by omega) (by omega)) r23 (by omega)) (fun v32 s27 hq => ?_)
  obtain ⟨c28, f29, ⟨x31, rfl, b33, b34, o35⟩⟩ := hq
  refine T_vI ?_
  have f30 := z_Fr.tr (R := R_X12_laysGutters_309) f11 f29 rs_X12_sideOf_309__X12_laysGutters_309
  have t36 : s27 309 20 = s 309 20 := (f29 309 20 (by decide)).trans t15
  have t37 : s27 309 36 = s 309 36 := (f29 309 36 (by decide)).trans t16
  have t38 : s27 309 43 = s 309 43 := (f29 309 43 (by decide)).trans t17
  have t39 : s27 309 44 = s 309 44 := (f29 309 44 (by decide)).trans t18
  have t40 : s27 309 58 = s 309 58 := (f29 309 58 (by decide)).trans t19
  have t41 : s27 316 0 = s 316 0 := (f29 316 0 (by decide)).trans t20
  have r42 := y_B.fr r21 (f29 309 20 (by decide)) (f29 316 0 (by decide)) (fun b => f29 3220 b (nr_X12_sideOf_309__3220 b)) (fun b => f29 3221 b (nr_X12_sideOf_309__3221 b)) (fun b => f29 3222 b (nr_X12_sideOf_309__3222 b)) (fun b => f29 361 b (nr_X12_sideOf_309__361 b))
  have r43 := y_K.fr r22 (by omega) (by omega) (f29 309 44 (by decide)) (f29 309 20 (by decide)) (f29 309 58 (by decide)) (fun b => f29 3438 b (nr_X12_sideOf_309__3438 b)) (fun b => f29 3220 b (nr_X12_sideOf_309__3220 b)) (fun a b h => f29 a b (nz_X12_sideOf_309__3452_3651 a b h))
  have r44 := y_TA.fr r23 (fun a b h => f29 a b (nz_X12_sideOf_309__316_328 a b h)) (fun a b h => f29 a b (nz_X12_sideOf_309__346_358 a b h)) (fun a b h => f29 a b (nz_X12_sideOf_309__361_373 a b h))
  have r45 := y_L.fr r24 (f29 309 20 (by decide)) (fun b => f29 3438 b (nr_X12_sideOf_309__3438 b))
  have r46 := y_BK.fr r25 (by omega) (f29 309 20 (by decide)) (f29 309 58 (by decide)) (fun b => f29 3220 b (nr_X12_sideOf_309__3220 b)) (fun a b h => f29 a b (nz_X12_sideOf_309__3452_3651 a b h))
  have r47 := y_KM.fr r26 (f29 309 20 (by decide)) (f29 309 36 (by decide)) (f29 309 38 (by decide)) (f29 309 39 (by decide)) (fun b => f29 312 b (nr_X12_sideOf_309__312 b)) (fun b => f29 331 b (nr_X12_sideOf_309__331 b)) (fun b => f29 346 b (nr_X12_sideOf_309__346 b)) (fun b => f29 361 b (nr_X12_sideOf_309__361 b)) (fun b => f29 391 b (nr_X12_sideOf_309__391 b)) (fun a b h => f29 a b (nz_X12_sideOf_309__407_606 a b h)) (fun a b h => f29 a b (nz_X12_sideOf_309__3220_3223 a b h)) (fun a b h => f29 a b (nz_X12_sideOf_309__3235_3437 a b h))
  clear t15
  clear t16
  clear t17
  clear t18
  clear t19
  clear t20
  refine T_ite (fun h48 => ?_) (fun h48 => ?_)
  · exact sj_X12_laysGutters_309K_J59 hfu r0 s27 c28 f30 a1 a1 0 (by omega) (by omega) (by omega) r42 (by first | exact r43 | exact y_K.b0 (by omega) | exact y_K.k0 (by omega) | exact y_K.bk (by omega) | exact y_K.mk r45 (by omega) r46) r44 (by first | exact y_L.cg r45 (by omega) | exact y_K.L r43 (by omega) (by omega)) (by first | exact r46 | exact y_K.B r43 (by omega) (by omega)) (by omega) (by first | exact r47 | exact y_KM.z (by omega)) M (by omega) (fun s' v1 c' f' w1 z0 z1 z2 z3 z4 z5 pg => hr s' v1 c' f' w1 z0 z1 z2 z3 z4 z5 (by omega)) hk
  · exact sj_X12_laysGutters_309K_J59 hfu r0 s27 c28 f30 a1 a1 6 (by omega) (by omega) (by omega) r42 (by first | exact r43 | exact y_K.b0 (by omega) | exact y_K.k0 (by omega) | exact y_K.bk (by omega) | exact y_K.mk r45 (by omega) r46) r44 (by first | exact y_L.cg r45 (by omega) | exact y_K.L r43 (by omega) (by omega)) (by first | exact r46 | exact y_K.B r43 (by omega) (by omega)) (by omega) (by first | exact r47 | exact y_KM.z (by omega)) M (by omega) (fun s' v1 c' f' w1 z0 z1 z2 z3 z4 z5 pg => hr s' v1 c' f' w1 z0 z1 z2 z3 z4 z5 (by omega)) hk
theorem sl_X12_laysGutters_309K_L6 {fu : Nat} (hfu : 8589934592 ≤ fu) (r0 : z_M) {k : z_M → z_O} (hk : ∀ (s' : z_M), z_CI s' → z_Fr R_X12_laysGutters_309 r0 s' → (y_K s') → (y_L s' (s' 309 44)) → (y_BK s') → (y_KM s') → z_T (k s') (P_X12_laysGutters_309K r0)) : ∀ (F : Nat) (s : z_M) (a1 : Int), z_CI s → z_Fr R_X12_laysGutters_309 r0 s → (0 ≤ a1 ∧ a1 ≤ 200) → (y_B s) → (y_K s) → (y_TA s) → (y_L s (s 309 44)) → (y_BK s) → (y_KM s) → (2147483647 - a1 < (F : Int)) → z_T (fX12_laysGutters_L6 fu 309 F s a1 k) (P_X12_laysGutters_309K r0) := by
  intro F
  induction F with
  | zero =>
    intro s a1 c f b1 i0 i1 i2 i3 i4 i5 hm
    have u40 := CI_b c (k := 309) (j := 20) bd_309_20
    have u41 := CI_b c (k := 309) (j := 36) bd_309_36
    have u42 := CI_b c (k := 309) (j := 43) bd_309_43
    have u43 := CI_b c (k := 309) (j := 44) bd_309_44
    have u44 := CI_b c (k := 309) (j := 58) bd_309_58
    have u45 := CI_b c (k := 316) (j := 0) bd_316_0
    exfalso; omega
  | succ F ih =>
    intro s a1 c f b1 i0 i1 i2 i3 i4 i5 hm
    refine T_of (fX12_laysGutters_L6.eq_2 ..) ?_
    have u1 := CI_b c (k := 309) (j := 20) bd_309_20
    have u2 := CI_b c (k := 309) (j := 36) bd_309_36
    have u3 := CI_b c (k := 309) (j := 43) bd_309_43
    have u4 := CI_b c (k := 309) (j := 44) bd_309_44
    have u5 := CI_b c (k := 309) (j := 58) bd_309_58
    have u6 := CI_b c (k := 316) (j := 0) bd_316_0
    have t7 : s 309 20 = r0 309 20 := f 309 20 (by decide)
    have t8 : s 316 0 = r0 316 0 := f 316 0 (by decide)
    refine T_if1 (by decide +kernel) ?_
    refine T_leq (fun x9 e10 => ?_)
    have u11 := CI_b c (k := 309) (j := 44) bd_309_44
    refine T_ite (fun h12 => ?_) (fun h12 => ?_)
    · exact hk s c f (by first | exact i1 | exact y_K.b0 (by omega) | exact y_K.k0 (by omega) | exact y_K.bk (by omega) | exact y_K.mk i3 (by omega) i4) (by first | exact y_L.cg i3 (by omega) | exact y_K.L i1 (by omega) (by omega)) (by first | exact i4 | exact y_K.B i1 (by omega) (by omega)) (by first | exact i5 | exact y_KM.z (by omega))
    · refine T_if1 (by decide +kernel) ?_
      refine T_let 7654 (by decide +kernel) ?_
      refine T_leq (fun x13 e14 => ?_)
      first | (have w15 := z_wx e14 (by omega)) | (have w15 := z_wr e14)
      refine T_if1 (by decide +kernel) ?_
      refine T_leq (fun x16 e17 => ?_)
      have q18 : x9 = x16 := e10.symm.trans e17
      subst q18
      refine T_ite (fun h19 => ?_) (fun h19 => ?_)
      · exact sj_X12_laysGutters_309K_J38 hfu r0 s c f a1 a1 0 (by omega) (by omega) (by omega) i0 (by first | exact i1 | exact y_K.b0 (by omega) | exact y_K.k0 (by omega) | exact y_K.bk (by omega) | exact y_K.mk i3 (by omega) i4) i2 (by first | exact y_L.cg i3 (by omega) | exact y_K.L i1 (by omega) (by omega)) (by first | exact i4 | exact y_K.B i1 (by omega) (by omega)) (by omega) (by first | exact i5 | exact y_KM.z (by omega)) (2147483647 - a1) (by omega) (fun s' v1 c' f' w1 z0 z1 z2 z3 z4 z5 pg => ih s' v1 c' f' w1 z0 z1 z2 z3 z4 z5 (by omega)) hk
      · refine T_if1 (by decide +kernel) ?_
        refine T_useI (sf_X12_gutterOf_309 hfu s c a1 (by omega) i0 (by first | exact i4 | exact y_K.B i1 (by omega) (by omega)) (by first | exact y_L.cg i3 (by omega) | exact y_K.L i1 (by omega) (by omega)) i2 (by omega)) (fun v25 s20 hq => ?_)
        obtain ⟨c21, f22, ⟨x24, rfl, b26, b27⟩⟩ := hq
        refine T_vI ?_
        have f23 := z_Fr.tr (R := R_X12_laysGutters_309) f f22 rs_X12_gutterOf_309__X12_laysGutters_309
        have t28 : s20 309 20 = s 309 20 := f22 309 20 (by decide)
        have t29 : s20 309 36 = s 309 36 := f22 309 36 (by decide)
        have t30 : s20 309 43 = s 309 43 := f22 309 43 (by decide)
        have t31 : s20 309 44 = x9 := (f22 309 44 (by decide)).trans e10
        have t32 : s20 309 58 = s 309 58 := f22 309 58 (by decide)
        have t33 : s20 316 0 = s 316 0 := f22 316 0 (by decide)
        have r34 := y_B.fr i0 (f22 309 20 (by decide)) (f22 316 0 (by decide)) (fun b => f22 3220 b (nr_X12_gutterOf_309__3220 b)) (fun b => f22 3221 b (nr_X12_gutterOf_309__3221 b)) (fun b => f22 3222 b (nr_X12_gutterOf_309__3222 b)) (fun b => f22 361 b (nr_X12_gutterOf_309__361 b))
        have r35 := y_K.fr i1 (by omega) (by omega) (f22 309 44 (by decide)) (f22 309 20 (by decide)) (f22 309 58 (by decide)) (fun b => f22 3438 b (nr_X12_gutterOf_309__3438 b)) (fun b => f22 3220 b (nr_X12_gutterOf_309__3220 b)) (fun a b h => f22 a b (nz_X12_gutterOf_309__3452_3651 a b h))
        have r36 := y_TA.fr i2 (fun a b h => f22 a b (nz_X12_gutterOf_309__316_328 a b h)) (fun a b h => f22 a b (nz_X12_gutterOf_309__346_358 a b h)) (fun a b h => f22 a b (nz_X12_gutterOf_309__361_373 a b h))
        have r37 := y_L.fr i3 (f22 309 20 (by decide)) (fun b => f22 3438 b (nr_X12_gutterOf_309__3438 b))
        have r38 := y_BK.fr i4 (by omega) (f22 309 20 (by decide)) (f22 309 58 (by decide)) (fun b => f22 3220 b (nr_X12_gutterOf_309__3220 b)) (fun a b h => f22 a b (nz_X12_gutterOf_309__3452_3651 a b h))
        have r39 := y_KM.fr i5 (f22 309 20 (by decide)) (f22 309 36 (by decide)) (f22 309 38 (by decide)) (f22 309 39 (by decide)) (fun b => f22 312 b (nr_X12_gutterOf_309__312 b)) (fun b => f22 331 b (nr_X12_gutterOf_309__331 b)) (fun b => f22 346 b (nr_X12_gutterOf_309__346 b)) (fun b => f22 361 b (nr_X12_gutterOf_309__361 b)) (fun b => f22 391 b (nr_X12_gutterOf_309__391 b)) (fun a b h => f22 a b (nz_X12_gutterOf_309__407_606 a b h)) (fun a b h => f22 a b (nz_X12_gutterOf_309__3220_3223 a b h)) (fun a b h => f22 a b (nz_X12_gutterOf_309__3235_3437 a b h))
        exact sj_X12_laysGutters_309K_J38 hfu r0 s20 c21 f23 a1 a1 x24 (by omega) (by omega) (by omega) r34 (by first | exact r35 | exact y_K.b0 (by omega) | exact y_K.k0 (by omega) | exact y_K.bk (by omega) | exact y_K.mk r37 (by omega) r38) r36 (by first | exact y_L.cg r37 (by omega) | exact y_K.L r35 (by omega) (by omega)) (by first | exact r38 | exact y_K.B r35 (by omega) (by omega)) (by omega) (by first | exact r39 | exact y_KM.z (by omega)) (2147483647 - a1) (by omega) (fun s' v1 c' f' w1 z0 z1 z2 z3 z4 z5 pg => ih s' v1 c' f' w1 z0 z1 z2 z3 z4 z5 (by omega)) hk
theorem sf_X12_laysGutters_309K {fu : Nat} (hfu : 8589934592 ≤ fu) (r0 : z_M) (c0 : z_CI r0) (p0 : y_B r0) (p1 : y_K r0) (p2 : y_TA r0) (p3 : y_KM r0) : z_T (fX12_laysGutters fu r0 309) (P_X12_laysGutters_309K r0) := by
  refine T_of (fX12_laysGutters.eq_1 ..) ?_
  have u1 := CI_b c0 (k := 309) (j := 20) bd_309_20
  have u2 := CI_b c0 (k := 309) (j := 36) bd_309_36
  have u3 := CI_b c0 (k := 309) (j := 43) bd_309_43
  have u4 := CI_b c0 (k := 309) (j := 44) bd_309_44
  have u5 := CI_b c0 (k := 309) (j := 58) bd_309_58
  have u6 := CI_b c0 (k := 316) (j := 0) bd_316_0
  refine T_if1 (by decide +kernel) ?_
  refine T_useN (sf_X12_laysAll_309K hfu r0 c0 p0 (by first | exact p1 | exact y_K.b0 (by omega) | exact y_K.k0 (by omega) | exact y_K.bk (by omega)) (by first | exact p3 | exact y_KM.z (by omega))) (fun v12 s7 hq => ?_)
  obtain ⟨c8, f9, o13, o14, o15, o16, o17, o18, o19, rfl⟩ := hq
  refine T_vN ?_
  have f10 := z_Fr.tr (R := R_X12_laysGutters_309) z_Fr.rf f9 rs_X12_laysAll_309__X12_laysGutters_309
  have t22 : s7 309 20 = r0 309 20 := f9 309 20 (by decide)
  have t23 : s7 316 0 = r0 316 0 := f9 316 0 (by decide)
  have u24 := CI_b c8 (k := 309) (j := 36) bd_309_36
  have u25 := CI_b c8 (k := 309) (j := 43) bd_309_43
  have u26 := CI_b c8 (k := 309) (j := 44) bd_309_44
  have u27 := CI_b c8 (k := 309) (j := 58) bd_309_58
  have r28 := y_B.fr p0 (f9 309 20 (by decide)) (f9 316 0 (by decide)) (fun b => f9 3220 b (nr_X12_laysAll_309__3220 b)) (fun b => f9 3221 b (nr_X12_laysAll_309__3221 b)) (fun b => f9 3222 b (nr_X12_laysAll_309__3222 b)) (fun b => f9 361 b (nr_X12_laysAll_309__361 b))
  have r29 := y_TA.fr p2 (fun a b h => f9 a b (nz_X12_laysAll_309__316_328 a b h)) (fun a b h => f9 a b (nz_X12_laysAll_309__346_358 a b h)) (fun a b h => f9 a b (nz_X12_laysAll_309__361_373 a b h))
  refine sl_X12_laysGutters_309K_L6 hfu r0 (fun s30 c31 f32 g33 g34 g35 g36 => ?_) fu s7 0 c8 f10 (by omega) r28 (by first | exact o13 | exact y_K.b0 (by omega) | exact y_K.k0 (by omega) | exact y_K.bk (by omega) | exact y_K.mk o14 (by omega) o15) r29 (by first | exact y_L.cg o14 (by omega) | exact y_K.L o13 (by omega) (by omega)) (by first | exact o15 | exact y_K.B o13 (by omega) (by omega)) (by first | exact o19 | exact y_KM.z (by omega)) (by omega)
  have u37 := CI_b c31 (k := 309) (j := 20) bd_309_20
  have u38 := CI_b c31 (k := 309) (j := 36) bd_309_36
  have u39 := CI_b c31 (k := 309) (j := 43) bd_309_43
  have u40 := CI_b c31 (k := 309) (j := 44) bd_309_44
  have u41 := CI_b c31 (k := 309) (j := 58) bd_309_58
  have u42 := CI_b c31 (k := 316) (j := 0) bd_316_0
  have t43 : s30 309 20 = r0 309 20 := f32 309 20 (by decide)
  have t44 : s30 316 0 = r0 316 0 := f32 316 0 (by decide)
  exact T_ret ⟨c31, f32, (by first | exact g33 | exact y_K.b0 (by omega) | exact y_K.k0 (by omega) | exact y_K.bk (by omega) | exact y_K.mk g34 (by omega) g35), (by first | exact y_L.cg g34 (by omega) | exact y_K.L g33 (by omega) (by omega)), (by first | exact g35 | exact y_K.B g33 (by omega) (by omega)), (by first | exact g36 | exact y_KM.z (by omega)), rfl⟩
abbrev P_X12_pages_309K (r0 : z_M) : z_V → z_M → Prop := fun v s' => z_CI s' ∧ z_Fr R_X12_pages_309 r0 s' ∧ (y_TA s') ∧ (y_DD s') ∧ (y_B s') ∧ (y_K s') ∧ (y_KM s') ∧ (∃ x, v = vI x ∧ -2147483648 ≤ x ∧ x ≤ 2147483647)
theorem nz_X12_laysGutters_309__316_328 (a b : Int) (h : 316 ≤ a ∧ a ≤ 328) : ¬ R_X12_laysGutters_309 a b := by
  unfold R_X12_laysGutters_309; omega
theorem nz_X12_laysGutters_309__346_358 (a b : Int) (h : 346 ≤ a ∧ a ≤ 358) : ¬ R_X12_laysGutters_309 a b := by
  unfold R_X12_laysGutters_309; omega
theorem nz_X12_laysGutters_309__361_373 (a b : Int) (h : 361 ≤ a ∧ a ≤ 373) : ¬ R_X12_laysGutters_309 a b := by
  unfold R_X12_laysGutters_309; omega
theorem nr_X12_laysGutters_309__312 (b : Int) : ¬ R_X12_laysGutters_309 312 b := by
  unfold R_X12_laysGutters_309; omega
theorem nr_X12_laysGutters_309__331 (b : Int) : ¬ R_X12_laysGutters_309 331 b := by
  unfold R_X12_laysGutters_309; omega
theorem nr_X12_laysGutters_309__346 (b : Int) : ¬ R_X12_laysGutters_309 346 b := by
  unfold R_X12_laysGutters_309; omega
theorem nr_X12_laysGutters_309__391 (b : Int) : ¬ R_X12_laysGutters_309 391 b := by
  unfold R_X12_laysGutters_309; omega
theorem nz_X12_laysGutters_309__407_606 (a b : Int) (h : 407 ≤ a ∧ a ≤ 606) : ¬ R_X12_laysGutters_309 a b := by
  unfold R_X12_laysGutters_309; omega
theorem nz_X12_laysGutters_309__3220_3223 (a b : Int) (h : 3220 ≤ a ∧ a ≤ 3223) : ¬ R_X12_laysGutters_309 a b := by
  unfold R_X12_laysGutters_309; omega
theorem nz_X12_pagesBy_309__316_328 (a b : Int) (h : 316 ≤ a ∧ a ≤ 328) : ¬ R_X12_pagesBy_309 a b := by
  unfold R_X12_pagesBy_309; omega
theorem nz_X12_pagesBy_309__346_358 (a b : Int) (h : 346 ≤ a ∧ a ≤ 358) : ¬ R_X12_pagesBy_309 a b := by
  unfold R_X12_pagesBy_309; omega
theorem nz_X12_pagesBy_309__361_373 (a b : Int) (h : 361 ≤ a ∧ a ≤ 373) : ¬ R_X12_pagesBy_309 a b := by
  unfold R_X12_pagesBy_309; omega
theorem nz_X12_pagesBy_309__3452_3651 (a b : Int) (h : 3452 ≤ a ∧ a ≤ 3651) : ¬ R_X12_pagesBy_309 a b := by
  unfold R_X12_pagesBy_309; omega
theorem nr_X12_pagesBy_309__312 (b : Int) : ¬ R_X12_pagesBy_309 312 b := by
  unfold R_X12_pagesBy_309; omega
theorem nr_X12_pagesBy_309__331 (b : Int) : ¬ R_X12_pagesBy_309 331 b := by
  unfold R_X12_pagesBy_309; omega
theorem nr_X12_pagesBy_309__346 (b : Int) : ¬ R_X12_pagesBy_309 346 b := by
  unfold R_X12_pagesBy_309; omega
theorem nr_X12_pagesBy_309__391 (b : Int) : ¬ R_X12_pagesBy_309 391 b := by
  unfold R_X12_pagesBy_309; omega
theorem nz_X12_pagesBy_309__407_606 (a b : Int) (h : 407 ≤ a ∧ a ≤ 606) : ¬ R_X12_pagesBy_309 a b := by
  unfold R_X12_pagesBy_309; omega
theorem nz_X12_pagesBy_309__3220_3223 (a b : Int) (h : 3220 ≤ a ∧ a ≤ 3223) : ¬ R_X12_pagesBy_309 a b := by
  unfold R_X12_pagesBy_309; omega
theorem nz_X12_pagesBy_309__3235_3437 (a b : Int) (h : 3235 ≤ a ∧ a ≤ 3437) : ¬ R_X12_pagesBy_309 a b := by
  unfold R_X12_pagesBy_309; omega
set_option maxHeartbeats 4000000 in
theorem sj_X12_pages_309K_J23 {fu : Nat} (hfu : 8589934592 ≤ fu) (r0 s : z_M) (c : z_CI s) (f : z_Fr R_X12_pages_309 r0 s) (a1 : Int) (t1 : Int) (b1 : -2147483648 ≤ a1 ∧ a1 ≤ 2147483647) (d1 : 0 ≤ t1 ∧ t1 ≤ 1) (p0 : y_TA s) (p1 : y_DD s) (p2 : y_B s) (p3 : y_K s) (p4 : y_KM s) : z_T (fX12_pages_J23 fu s 309 a1 309 t1) (P_X12_pages_309K r0) := by
  refine T_of (fX12_pages_J23.eq_1 ..) ?_
  have u1 := CI_b c (k := 309) (j := 20) bd_309_20
  have u2 := CI_b c (k := 309) (j := 36) bd_309_36
  have u3 := CI_b c (k := 309) (j := 43) bd_309_43
  have u4 := CI_b c (k := 309) (j := 44) bd_309_44
  have u5 := CI_b c (k := 309) (j := 58) bd_309_58
  have u6 := CI_b c (k := 316) (j := 0) bd_316_0
  have u7 := CI_b c (k := 329) (j := 0) bd_329_0
  have u8 := CI_b c (k := 329) (j := 1) bd_329_1
  have t9 : s 309 20 = r0 309 20 := f 309 20 (by decide)
  have t10 : s 316 0 = r0 316 0 := f 316 0 (by decide)
  have t11 : s 329 0 = r0 329 0 := f 329 0 (by decide)
  have t12 : s 329 1 = r0 329 1 := f 329 1 (by decide)
  refine T_if1 (by decide +kernel) ?_
  refine T_useI (sf_X12_bad_309 hfu s c t1 1 1 (by omega) (by omega) (by omega) (by omega)) (fun v18 s13 hq => ?_)
  obtain ⟨c14, f15, o19, ⟨x17, rfl, b20, b21, o22, o23⟩⟩ := hq
  refine T_vI ?_
  have f16 := z_Fr.tr (R := R_X12_pages_309) f f15 rs_X12_bad_309__X12_pages_309
  have t24 : s13 309 20 = s 309 20 := f15 309 20 (by decide)
  have t25 : s13 309 36 = s 309 36 := f15 309 36 (by decide)
  have t26 : s13 309 43 = s 309 43 := f15 309 43 (by decide)
  have t27 : s13 309 44 = s 309 44 := f15 309 44 (by decide)
  have t28 : s13 309 58 = s 309 58 := f15 309 58 (by decide)
  have t29 : s13 316 0 = s 316 0 := f15 316 0 (by decide)
  have t30 : s13 329 0 = s 329 0 := f15 329 0 (by decide)
  have t31 : s13 329 1 = s 329 1 := f15 329 1 (by decide)
  have r32 := y_TA.fr p0 (fun a b h => f15 a b (nz_X12_bad_309__316_328 a b h)) (fun a b h => f15 a b (nz_X12_bad_309__346_358 a b h)) (fun a b h => f15 a b (nz_X12_bad_309__361_373 a b h))
  have r33 := y_DD.fr p1 (f15 329 0 (by decide)) (f15 329 1 (by decide)) (fun b => f15 359 b (nr_X12_bad_309__359 b)) (fun b => f15 374 b (nr_X12_bad_309__374 b))
  have r34 := y_B.fr p2 (f15 309 20 (by decide)) (f15 316 0 (by decide)) (fun b => f15 3220 b (nr_X12_bad_309__3220 b)) (fun b => f15 3221 b (nr_X12_bad_309__3221 b)) (fun b => f15 3222 b (nr_X12_bad_309__3222 b)) (fun b => f15 361 b (nr_X12_bad_309__361 b))
  have r35 := y_K.fr p3 (by omega) (by omega) (f15 309 44 (by decide)) (f15 309 20 (by decide)) (f15 309 58 (by decide)) (fun b => f15 3438 b (nr_X12_bad_309__3438 b)) (fun b => f15 3220 b (nr_X12_bad_309__3220 b)) (fun a b h => f15 a b (nz_X12_bad_309__3452_3651 a b h))
  have r36 := y_KM.fr p4 (f15 309 20 (by decide)) (f15 309 36 (by decide)) (f15 309 38 (by decide)) (f15 309 39 (by decide)) (fun b => f15 312 b (nr_X12_bad_309__312 b)) (fun b => f15 331 b (nr_X12_bad_309__331 b)) (fun b => f15 346 b (nr_X12_bad_309__346 b)) (fun b => f15 361 b (nr_X12_bad_309__361 b)) (fun b => f15 391 b (nr_X12_bad_309__391 b)) (fun a b h => f15 a b (nz_X12_bad_309__407_606 a b h)) (fun a b h => f15 a b (nz_X12_bad_309__3220_3223 a b h)) (fun a b h => f15 a b (nz_X12_bad_309__3235_3437 a b h))
  refine T_ite (fun h37 => ?_) (fun h37 => ?_)
  · refine T_if1 (by decide +kernel) ?_
    refine T_useN (sf_X12_laysGutters_309K hfu s13 c14 r34 (by first | exact r35 | exact y_K.b0 (by omega) | exact y_K.k0 (by omega) | exact y_K.bk (by omega)) r32 (by first | exact r36 | exact y_KM.z (by omega))) (fun v43 s38 hq => ?_)
    obtain ⟨c39, f40, o44, o45, o46, o47, rfl⟩ := hq
    refine T_vN ?_
    have f41 := z_Fr.tr (R := R_X12_pages_309) f16 f40 rs_X12_laysGutters_309__X12_pages_309
    have t50 : s38 309 20 = s 309 20 := (f40 309 20 (by decide)).trans t24
    have t51 : s38 316 0 = s 316 0 := (f40 316 0 (by decide)).trans t29
    have t52 : s38 329 0 = s 329 0 := (f40 329 0 (by decide)).trans t30
    have t53 : s38 329 1 = s 329 1 := (f40 329 1 (by decide)).trans t31
    have u54 := CI_b c39 (k := 309) (j := 36) bd_309_36
    have u55 := CI_b c39 (k := 309) (j := 43) bd_309_43
    have u56 := CI_b c39 (k := 309) (j := 44) bd_309_44
    have u57 := CI_b c39 (k := 309) (j := 58) bd_309_58
    have r58 := y_TA.fr r32 (fun a b h => f40 a b (nz_X12_laysGutters_309__316_328 a b h)) (fun a b h => f40 a b (nz_X12_laysGutters_309__346_358 a b h)) (fun a b h => f40 a b (nz_X12_laysGutters_309__361_373 a b h))
    have r59 := y_DD.fr r33 (f40 329 0 (by decide)) (f40 329 1 (by decide)) (fun b => f40 359 b (nr_X12_laysGutters_309__359 b)) (fun b => f40 374 b (nr_X12_laysGutters_309__374 b))
    have r60 := y_B.fr r34 (f40 309 20 (by decide)) (f40 316 0 (by decide)) (fun b => f40 3220 b (nr_X12_laysGutters_309__3220 b)) (fun b => f40 3221 b (nr_X12_laysGutters_309__3221 b)) (fun b => f40 3222 b (nr_X12_laysGutters_309__3222 b)) (fun b => f40 361 b (nr_X12_laysGutters_309__361 b))
    clear t24
    clear t29
    clear t30
    clear t31
    refine T_if1 (by decide +kernel) ?_
    refine T_useI (sf_X12_pagesBy_309 hfu s38 c39 a1 (by omega) r60 (by first | exact o46 | exact y_K.B o44 (by omega) (by omega)) (by first | exact y_L.cg o45 (by omega) | exact y_K.L o44 (by omega) (by omega)) r58) (fun v66 s61 hq => ?_)
    obtain ⟨c62, f63, ⟨x65, rfl, b67, b68, o69⟩⟩ := hq
    refine T_vI ?_
    have f64 := z_Fr.tr (R := R_X12_pages_309) f41 f63 rs_X12_pagesBy_309__X12_pages_309
    have t70 : s61 309 20 = s 309 20 := (f63 309 20 (by decide)).trans t50
    have t71 : s61 309 36 = s38 309 36 := f63 309 36 (by decide)
    have t72 : s61 309 43 = s38 309 43 := f63 309 43 (by decide)
    have t73 : s61 309 44 = s38 309 44 := f63 309 44 (by decide)
    have t74 : s61 309 58 = s38 309 58 := f63 309 58 (by decide)
    have t75 : s61 316 0 = s 316 0 := (f63 316 0 (by decide)).trans t51
    have t76 : s61 329 0 = s 329 0 := (f63 329 0 (by decide)).trans t52
    have t77 : s61 329 1 = s 329 1 := (f63 329 1 (by decide)).trans t53
    have r78 := y_TA.fr r58 (fun a b h => f63 a b (nz_X12_pagesBy_309__316_328 a b h)) (fun a b h => f63 a b (nz_X12_pagesBy_309__346_358 a b h)) (fun a b h => f63 a b (nz_X12_pagesBy_309__361_373 a b h))
    have r79 := y_DD.fr r59 (f63 329 0 (by decide)) (f63 329 1 (by decide)) (fun b => f63 359 b (nr_X12_pagesBy_309__359 b)) (fun b => f63 374 b (nr_X12_pagesBy_309__374 b))
    have r80 := y_B.fr r60 (f63 309 20 (by decide)) (f63 316 0 (by decide)) (fun b => f63 3220 b (nr_X12_pagesBy_309__3220 b)) (fun b => f63 3221 b (nr_X12_pagesBy_309__3221 b)) (fun b => f63 3222 b (nr_X12_pagesBy_309__3222 b)) (fun b => f63 361 b (nr_X12_pagesBy_309__361 b))
    have r81 := y_K.fr o44 (by omega) (by omega) (f63 309 44 (by decide)) (f63 309 20 (by decide)) (f63 309 58 (by decide)) (fun b => f63 3438 b (nr_X12_pagesBy_309__3438 b)) (fun b => f63 3220 b (nr_X12_pagesBy_309__3220 b)) (fun a b h => f63 a b (nz_X12_pagesBy_309__3452_3651 a b h))
    have r82 := y_L.fr o45 (f63 309 20 (by decide)) (fun b => f63 3438 b (nr_X12_pagesBy_309__3438 b))
    have r83 := y_BK.fr o46 (by omega) (f63 309 20 (by decide)) (f63 309 58 (by decide)) (fun b => f63 3220 b (nr_X12_pagesBy_309__3220 b)) (fun a b h => f63 a b (nz_X12_pagesBy_309__3452_3651 a b h))
    have r84 := y_KM.fr o47 (f63 309 20 (by decide)) (f63 309 36 (by decide)) (f63 309 38 (by decide)) (f63 309 39 (by decide)) (fun b => f63 312 b (nr_X12_pagesBy_309__312 b)) (fun b => f63 331 b (nr_X12_pagesBy_309__331 b)) (fun b => f63 346 b (nr_X12_pagesBy_309__346 b)) (fun b => f63 361 b (nr_X12_pagesBy_309__361 b)) (fun b => f63 391 b (nr_X12_pagesBy_309__391 b)) (fun a b h => f63 a b (nz_X12_pagesBy_309__407_606 a b h)) (fun a b h => f63 a b (nz_X12_pagesBy_309__3220_3223 a b h)) (fun a b h => f63 a b (nz_X12_pagesBy_309__3235_3437 a b h))
    clear t50
    clear t51
    clear t52
    clear t53
    exact T_ret ⟨c62, f64, r78, (by first | exact r79 | exact y_DD.z (by omega) (by omega)), r80, (by first | exact r81 | exact y_K.b0 (by omega) | exact y_K.k0 (by omega) | exact y_K.bk (by omega) | exact y_K.mk r82 (by omega) r83), (by first | exact r84 | exact y_KM.z (by omega)), ⟨x65, rfl, by omega, by omega⟩⟩
  · exact T_ret ⟨c14, f16, r32, (by first | exact r33 | exact y_DD.z (by omega) (by omega)), r34, (by first | exact r35 | exact y_K.b0 (by omega) | exact y_K.k0 (by omega) | exact y_K.bk (by omega)), (by first | exact r36 | exact y_KM.z (by omega)), ⟨0, rfl, by omega, by omega⟩⟩
theorem sf_X12_pages_309K {fu : Nat} (hfu : 8589934592 ≤ fu) (r0 : z_M) (c0 : z_CI r0) (a1 : Int) (b1 : -2147483648 ≤ a1 ∧ a1 ≤ 2147483647) (p0 : y_TA r0) (p1 : y_DD r0) (p2 : y_B r0) (p3 : y_K r0) (p4 : y_KM r0) : z_T (fX12_pages fu r0 309 a1) (P_X12_pages_309K r0) := by
  refine T_of (fX12_pages.eq_1 ..) ?_
  have u1 := CI_b c0 (k := 309) (j := 20) bd_309_20
  have u2 := CI_b c0 (k := 309) (j := 36) bd_309_36
  have u3 := CI_b c0 (k := 309) (j := 43) bd_309_43
  have u4 := CI_b c0 (k := 309) (j := 44) bd_309_44
  have u5 := CI_b c0 (k := 309) (j := 58) bd_309_58
  have u6 := CI_b c0 (k := 316) (j := 0) bd_316_0
  have u7 := CI_b c0 (k := 329) (j := 0) bd_329_0
  have u8 := CI_b c0 (k := 329) (j := 1) bd_329_1
  refine T_if1 (by decide +kernel) ?_
  refine T_upg c0 bd_309_0 (by omega) (fun s9 c10 g12 g13 e14 => ?_)
  have f11 := z_Fr.upf (R := R_X12_pages_309) z_Fr.rf g12 g13 (Or.inr (Or.inr (⟨rfl, by decide⟩)))
  have t15 : s9 309 20 = r0 309 20 := g13 20 (by decide)
  have t16 : s9 309 36 = r0 309 36 := g13 36 (by decide)
  have t17 : s9 309 43 = r0 309 43 := g13 43 (by decide)
  have t18 : s9 309 44 = r0 309 44 := g13 44 (by decide)
  have t19 : s9 309 58 = r0 309 58 := g13 58 (by decide)
  have t20 : s9 316 0 = r0 316 0 := g12 316 0 (by decide)
  have t21 : s9 329 0 = r0 329 0 := g12 329 0 (by decide)
  have t22 : s9 329 1 = r0 329 1 := g12 329 1 (by decide)
  have r23 := y_TA.fr p0 (fun a b h => g12 a b (by omega)) (fun a b h => g12 a b (by omega)) (fun a b h => g12 a b (by omega))
  have r24 := y_DD.fr p1 (g12 329 0 (by decide)) (g12 329 1 (by decide)) (fun b => g12 359 b (by decide)) (fun b => g12 374 b (by decide))
  have r25 := y_B.fr p2 (g13 20 (by decide)) (g12 316 0 (by decide)) (fun b => g12 3220 b (by decide)) (fun b => g12 3221 b (by decide)) (fun b => g12 3222 b (by decide)) (fun b => g12 361 b (by decide))
  have r26 := y_K.fr p3 (by omega) (by omega) (g13 44 (by decide)) (g13 20 (by decide)) (g13 58 (by decide)) (fun b => g12 3438 b (by decide)) (fun b => g12 3220 b (by decide)) (fun a b h => g12 a b (by omega))
  have r27 := y_KM.fr p4 (g13 20 (by decide)) (g13 36 (by decide)) (g13 38 (by decide)) (g13 39 (by decide)) (fun b => g12 312 b (by decide)) (fun b => g12 331 b (by decide)) (fun b => g12 346 b (by decide)) (fun b => g12 361 b (by decide)) (fun b => g12 391 b (by decide)) (fun a b h => g12 a b (by omega)) (fun a b h => g12 a b (by omega)) (fun a b h => g12 a b (by omega))
  refine T_useI (sf_X12_in hfu s9 c10 a1 12 9999 (by omega) (by omega) (by omega)) (fun v33 s28 hq => ?_)
  obtain ⟨c29, f30, ⟨x32, rfl, b34, b35, o36⟩⟩ := hq
  refine T_vI ?_
  have q37 := z_Fr.eq (fun a b h => h) f30
  subst q37
  refine T_ite (fun h38 => ?_) (fun h38 => ?_)
  · exact sj_X12_pages_309K_J23 hfu r0 s9 c10 f11 a1 0 (by omega) (by omega) r23 (by first | exact r24 | exact y_DD.z (by omega) (by omega)) r25 (by first | exact r26 | exact y_K.b0 (by omega) | exact y_K.k0 (by omega) | exact y_K.bk (by omega)) (by first | exact r27 | exact y_KM.z (by omega))
  · exact sj_X12_pages_309K_J23 hfu r0 s9 c10 f11 a1 1 (by omega) (by omega) r23 (by first | exact r24 | exact y_DD.z (by omega) (by omega)) r25 (by first | exact r26 | exact y_K.b0 (by omega) | exact y_K.k0 (by omega) | exact y_K.bk (by omega)) (by first | exact r27 | exact y_KM.z (by omega))
abbrev P_X12_page_309K (r0 : z_M) : z_V → z_M → Prop := fun v s' => z_CI s' ∧ z_Fr R_X12_page_309 r0 s' ∧ (y_TA s') ∧ (y_DD s') ∧ (y_B s') ∧ (y_K s') ∧ (y_KM s') ∧ (∃ x, v = vI x ∧ -2147483648 ≤ x ∧ x ≤ 2147483647)
theorem sj_X12_page_309K_J119 {fu : Nat} (hfu : 8589934592 ≤ fu) (r0 s : z_M) (c : z_CI s) (f : z_Fr R_X12_page_309 r0 s) (t0 : Int) (d0 : -2147483648 ≤ t0 ∧ t0 ≤ 2147483647) (p0 : y_TA s) (p1 : y_DD s) (p2 : y_B s) (p3 : y_K s) (p4 : y_KM s) : z_T (fX12_page_J119 fu s t0) (P_X12_page_309K r0) := by
  refine T_of (fX12_page_J119.eq_1 ..) ?_
  have u1 := CI_b c (k := 309) (j := 20) bd_309_20
  have u2 := CI_b c (k := 309) (j := 36) bd_309_36
  have u3 := CI_b c (k := 309) (j := 43) bd_309_43
  have u4 := CI_b c (k := 309) (j := 44) bd_309_44
  have u5 := CI_b c (k := 309) (j := 58) bd_309_58
  have u6 := CI_b c (k := 316) (j := 0) bd_316_0
  have u7 := CI_b c (k := 329) (j := 0) bd_329_0
  have u8 := CI_b c (k := 329) (j := 1) bd_329_1
  have t9 : s 309 20 = r0 309 20 := f 309 20 (by decide)
  have t10 : s 316 0 = r0 316 0 := f 316 0 (by decide)
  have t11 : s 329 0 = r0 329 0 := f 329 0 (by decide)
  have t12 : s 329 1 = r0 329 1 := f 329 1 (by decide)
  exact T_ret ⟨c, f, p0, (by first | exact p1 | exact y_DD.z (by omega) (by omega)), p2, (by first | exact p3 | exact y_K.b0 (by omega) | exact y_K.k0 (by omega) | exact y_K.bk (by omega)), (by first | exact p4 | exact y_KM.z (by omega)), ⟨t0, rfl, by omega, by omega⟩⟩
set_option maxHeartbeats 4000000 in
theorem sj_X12_page_309K_J32 {fu : Nat} (hfu : 8589934592 ≤ fu) (r0 s : z_M) (c : z_CI s) (f : z_Fr R_X12_page_309 r0 s) (a1 : Int) (a2 : Int) (a3 : Int) (t1 : Int) (b1 : -2147483648 ≤ a1 ∧ a1 ≤ 2147483647) (b2 : -2147483648 ≤ a2 ∧ a2 ≤ 2147483647) (b3 : -2147483648 ≤ a3 ∧ a3 ≤ 2147483647) (d1 : 0 ≤ t1 ∧ t1 ≤ 1) (p0 : y_TA s) (p1 : y_DD s) (p2 : y_B s) (p3 : y_K s) (p4 : y_KM s) : z_T (fX12_page_J32 fu s 309 a1 a2 a3 309 t1) (P_X12_page_309K r0) := by
  refine T_of (fX12_page_J32.eq_1 ..) ?_
  have u1 := CI_b c (k := 309) (j := 20) bd_309_20
  have u2 := CI_b c (k := 309) (j := 36) bd_309_36
  have u3 := CI_b c (k := 309) (j := 43) bd_309_43
  have u4 := CI_b c (k := 309) (j := 44) bd_309_44
  have u5 := CI_b c (k := 309) (j := 58) bd_309_58
  have u6 := CI_b c (k := 316) (j := 0) bd_316_0
  have u7 := CI_b c (k := 329) (j := 0) bd_329_0
  have u8 := CI_b c (k := 329) (j := 1) bd_329_1
  have t9 : s 309 20 = r0 309 20 := f 309 20 (by decide)
  have t10 : s 316 0 = r0 316 0 := f 316 0 (by decide)
  have t11 : s 329 0 = r0 329 0 := f 329 0 (by decide)
  have t12 : s 329 1 = r0 329 1 := f 329 1 (by decide)
  refine T_if1 (by decide +kernel) ?_
  refine T_useI (sf_X12_bad_309 hfu s c t1 1 1 (by omega) (by omega) (by omega) (by omega)) (fun v18 s13 hq => ?_)
  obtain ⟨c14, f15, o19, ⟨x17, rfl, b20, b21, o22, o23⟩⟩ := hq
  refine T_vI ?_
  have f16 := z_Fr.tr (R := R_X12_page_309) f f15 rs_X12_bad_309__X12_page_309
  have t24 : s13 309 20 = s 309 20 := f15 309 20 (by decide)
  have t25 : s13 309 36 = s 309 36 := f15 309 36 (by decide)
  have t26 : s13 309 43 = s 309 43 := f15 309 43 (by decide)
  have t27 : s13 309 44 = s 309 44 := f15 309 44 (by decide)
  have t28 : s13 309 58 = s 309 58 := f15 309 58 (by decide)
  have t29 : s13 316 0 = s 316 0 := f15 316 0 (by decide)
  have t30 : s13 329 0 = s 329 0 := f15 329 0 (by decide)
  have t31 : s13 329 1 = s 329 1 := f15 329 1 (by decide)
  have r32 := y_TA.fr p0 (fun a b h => f15 a b (nz_X12_bad_309__316_328 a b h)) (fun a b h => f15 a b (nz_X12_bad_309__346_358 a b h)) (fun a b h => f15 a b (nz_X12_bad_309__361_373 a b h))
  have r33 := y_DD.fr p1 (f15 329 0 (by decide)) (f15 329 1 (by decide)) (fun b => f15 359 b (nr_X12_bad_309__359 b)) (fun b => f15 374 b (nr_X12_bad_309__374 b))
  have r34 := y_B.fr p2 (f15 309 20 (by decide)) (f15 316 0 (by decide)) (fun b => f15 3220 b (nr_X12_bad_309__3220 b)) (fun b => f15 3221 b (nr_X12_bad_309__3221 b)) (fun b => f15 3222 b (nr_X12_bad_309__3222 b)) (fun b => f15 361 b (nr_X12_bad_309__361 b))
  have r35 := y_K.fr p3 (by omega) (by omega) (f15 309 44 (by decide)) (f15 309 20 (by decide)) (f15 309 58 (by decide)) (fun b => f15 3438 b (nr_X12_bad_309__3438 b)) (fun b => f15 3220 b (nr_X12_bad_309__3220 b)) (fun a b h => f15 a b (nz_X12_bad_309__3452_3651 a b h))
  have r36 := y_KM.fr p4 (f15 309 20 (by decide)) (f15 309 36 (by decide)) (f15 309 38 (by decide)) (f15 309 39 (by decide)) (fun b => f15 312 b (nr_X12_bad_309__312 b)) (fun b => f15 331 b (nr_X12_bad_309__331 b)) (fun b => f15 346 b (nr_X12_bad_309__346 b)) (fun b => f15 361 b (nr_X12_bad_309__361 b)) (fun b => f15 391 b (nr_X12_bad_309__391 b)) (fun a b h => f15 a b (nz_X12_bad_309__407_606 a b h)) (fun a b h => f15 a b (nz_X12_bad_309__3220_3223 a b h)) (fun a b h => f15 a b (nz_X12_bad_309__3235_3437 a b h))
  refine T_ite (fun h37 => ?_) (fun h37 => ?_)
  · refine T_if1 (by decide +kernel) ?_
    refine T_useN (sf_X12_laysGutters_309K hfu s13 c14 r34 (by first | exact r35 | exact y_K.b0 (by omega) | exact y_K.k0 (by omega) | exact y_K.bk (by omega)) r32 (by first | exact r36 | exact y_KM.z (by omega))) (fun v43 s38 hq => ?_)
    obtain ⟨c39, f40, o44, o45, o46, o47, rfl⟩ := hq
    refine T_vN ?_
    have f41 := z_Fr.tr (R := R_X12_page_309) f16 f40 rs_X12_laysGutters_309__X12_page_309
    have t50 : s38 309 20 = s 309 20 := (f40 309 20 (by decide)).trans t24
    have t51 : s38 316 0 = s 316 0 := (f40 316 0 (by decide)).trans t29
    have t52 : s38 329 0 = s 329 0 := (f40 329 0 (by decide)).trans t30
    have t53 : s38 329 1 = s 329 1 := (f40 329 1 (by decide)).trans t31
    have u54 := CI_b c39 (k := 309) (j := 36) bd_309_36
    have u55 := CI_b c39 (k := 309) (j := 43) bd_309_43
    have u56 := CI_b c39 (k := 309) (j := 44) bd_309_44
    have u57 := CI_b c39 (k := 309) (j := 58) bd_309_58
    have r58 := y_TA.fr r32 (fun a b h => f40 a b (nz_X12_laysGutters_309__316_328 a b h)) (fun a b h => f40 a b (nz_X12_laysGutters_309__346_358 a b h)) (fun a b h => f40 a b (nz_X12_laysGutters_309__361_373 a b h))
    have r59 := y_DD.fr r33 (f40 329 0 (by decide)) (f40 329 1 (by decide)) (fun b => f40 359 b (nr_X12_laysGutters_309__359 b)) (fun b => f40 374 b (nr_X12_laysGutters_309__374 b))
    have r60 := y_B.fr r34 (f40 309 20 (by decide)) (f40 316 0 (by decide)) (fun b => f40 3220 b (nr_X12_laysGutters_309__3220 b)) (fun b => f40 3221 b (nr_X12_laysGutters_309__3221 b)) (fun b => f40 3222 b (nr_X12_laysGutters_309__3222 b)) (fun b => f40 361 b (nr_X12_laysGutters_309__361 b))
    clear t24
    clear t29
    clear t30
    clear t31
    refine T_if1 (by decide +kernel) ?_
    refine T_useI (sf_X12_pagesBy_309 hfu s38 c39 a1 (by omega) r60 (by first | exact o46 | exact y_K.B o44 (by omega) (by omega)) (by first | exact y_L.cg o45 (by omega) | exact y_K.L o44 (by omega) (by omega)) r58) (fun v66 s61 hq => ?_)
    obtain ⟨c62, f63, ⟨x65, rfl, b67, b68, o69⟩⟩ := hq
    refine T_vI ?_
    have f64 := z_Fr.tr (R := R_X12_page_309) f41 f63 rs_X12_pagesBy_309__X12_page_309
    have t70 : s61 309 20 = s 309 20 := (f63 309 20 (by decide)).trans t50
    have t71 : s61 309 36 = s38 309 36 := f63 309 36 (by decide)
    have t72 : s61 309 43 = s38 309 43 := f63 309 43 (by decide)
    have t73 : s61 309 44 = s38 309 44 := f63 309 44 (by decide)
    have t74 : s61 309 58 = s38 309 58 := f63 309 58 (by decide)
    have t75 : s61 316 0 = s 316 0 := (f63 316 0 (by decide)).trans t51
    have t76 : s61 329 0 = s 329 0 := (f63 329 0 (by decide)).trans t52
    have t77 : s61 329 1 = s 329 1 := (f63 329 1 (by decide)).trans t53
    have r78 := y_TA.fr r58 (fun a b h => f63 a b (nz_X12_pagesBy_309__316_328 a b h)) (fun a b h => f63 a b (nz_X12_pagesBy_309__346_358 a b h)) (fun a b h => f63 a b (nz_X12_pagesBy_309__361_373 a b h))
    have r79 := y_DD.fr r59 (f63 329 0 (by decide)) (f63 329 1 (by decide)) (fun b => f63 359 b (nr_X12_pagesBy_309__359 b)) (fun b => f63 374 b (nr_X12_pagesBy_309__374 b))
    have r80 := y_B.fr r60 (f63 309 20 (by decide)) (f63 316 0 (by decide)) (fun b => f63 3220 b (nr_X12_pagesBy_309__3220 b)) (fun b => f63 3221 b (nr_X12_pagesBy_309__3221 b)) (fun b => f63 3222 b (nr_X12_pagesBy_309__3222 b)) (fun b => f63 361 b (nr_X12_pagesBy_309__361 b))
    have r81 := y_K.fr o44 (by omega) (by omega) (f63 309 44 (by decide)) (f63 309 20 (by decide)) (f63 309 58 (by decide)) (fun b => f63 3438 b (nr_X12_pagesBy_309__3438 b)) (fun b => f63 3220 b (nr_X12_pagesBy_309__3220 b)) (fun a b h => f63 a b (nz_X12_pagesBy_309__3452_3651 a b h))
    have r82 := y_L.fr o45 (f63 309 20 (by decide)) (fun b => f63 3438 b (nr_X12_pagesBy_309__3438 b))
    have r83 := y_BK.fr o46 (by omega) (f63 309 20 (by decide)) (f63 309 58 (by decide)) (fun b => f63 3220 b (nr_X12_pagesBy_309__3220 b)) (fun a b h => f63 a b (nz_X12_pagesBy_309__3452_3651 a b h))
    have r84 := y_KM.fr o47 (f63 309 20 (by decide)) (f63 309 36 (by decide)) (f63 309 38 (by decide)) (f63 309 39 (by decide)) (fun b => f63 312 b (nr_X12_pagesBy_309__312 b)) (fun b => f63 331 b (nr_X12_pagesBy_309__331 b)) (fun b => f63 346 b (nr_X12_pagesBy_309__346 b)) (fun b => f63 361 b (nr_X12_pagesBy_309__361 b)) (fun b => f63 391 b (nr_X12_pagesBy_309__391 b)) (fun a b h => f63 a b (nz_X12_pagesBy_309__407_606 a b h)) (fun a b h => f63 a b (nz_X12_pagesBy_309__3220_3223 a b h)) (fun a b h => f63 a b (nz_X12_pagesBy_309__3235_3437 a b h))
    clear t50
    clear t51
    clear t52
    clear t53
    refine T_leq (fun x85 e86 => ?_)
    first | (have w87 := z_wx e86 (by omega)) | (have w87 := z_wr e86)
    refine T_useI (sf_X12_in hfu s61 c62 a2 0 x85 (by omega) (by omega) (by omega)) (fun v93 s88 hq => ?_)
    obtain ⟨c89, f90, ⟨x92, rfl, b94, b95, o96⟩⟩ := hq
    refine T_vI ?_
    have q97 := z_Fr.eq (fun a b h => h) f90
    subst q97
    refine T_ite (fun h98 => ?_) (fun h98 => ?_)
    · refine T_ite (fun h99 => ?_) (fun h99 => ?_)
      · refine T_ite (fun h100 => ?_) (fun h100 => ?_)
        · refine T_if1 (by decide +kernel) ?_
          refine T_let 7653 (by decide +kernel) ?_
          refine T_if1 (z_ixl (n := 201) (by decide +kernel) (by omega) (by omega)) ?_
          refine T_leq (fun x101 e102 => ?_)
          have u103 := CI_b c62 (k := 7653) (j := a2) (bdr_7653 a2)
          refine T_if1 (by decide +kernel) ?_
          refine T_let 7653 (by decide +kernel) ?_
          refine T_leq (fun x104 e105 => ?_)
          first | (have w106 := z_wx e105 (by omega)) | (have w106 := z_wr e105)
          have n107 := y_PF.at o69 (i := a2) (j := x104) (by omega) (by omega) (by omega)
          refine T_if1 (z_ixl (n := 201) (by decide +kernel) (by omega) (by omega)) ?_
          refine T_leq (fun x108 e109 => ?_)
          have u110 := CI_b c62 (k := 7653) (j := x104) (bdr_7653 x104)
          refine T_leq (fun x111 e112 => ?_)
          first | (have w113 := z_wx e112 (by omega)) | (have w113 := z_wr e112)
          refine T_if1 (by decide +kernel) ?_
          refine T_useI (sf_X12_thickOf_309 hfu s61 c62 x101 x111 (by omega) (by omega) r80 (by first | exact r83 | exact y_K.B r81 (by omega) (by omega)) (by first | exact y_L.cg r82 (by omega) | exact y_K.L r81 (by omega) (by omega)) r78 (by omega) (by omega)) (fun v119 s114 hq => ?_)
          obtain ⟨c115, f116, ⟨x118, rfl, b120, b121⟩⟩ := hq
          refine T_vI ?_
          have f117 := z_Fr.tr (R := R_X12_page_309) f64 f116 rs_X12_thickOf_309__X12_page_309
          have t122 : s114 309 20 = s 309 20 := (f116 309 20 (by decide)).trans t70
          have t123 : s114 309 36 = s38 309 36 := (f116 309 36 (by decide)).trans t71
          have t124 : s114 309 43 = s38 309 43 := (f116 309 43 (by decide)).trans t72
          have t125 : s114 309 44 = s38 309 44 := (f116 309 44 (by decide)).trans t73
          have t126 : s114 309 58 = s38 309 58 := (f116 309 58 (by decide)).trans t74
          have t127 : s114 316 0 = s 316 0 := (f116 316 0 (by decide)).trans t75
          have t128 : s114 329 0 = s 329 0 := (f116 329 0 (by decide)).trans t76
          have t129 : s114 329 1 = s 329 1 := (f116 329 1 (by decide)).trans t77
          have r130 := y_TA.fr r78 (fun a b h => f116 a b (nz_X12_thickOf_309__316_328 a b h)) (fun a b h => f116 a b (nz_X12_thickOf_309__346_358 a b h)) (fun a b h => f116 a b (nz_X12_thickOf_309__361_373 a b h))
          have r131 := y_DD.fr r79 (f116 329 0 (by decide)) (f116 329 1 (by decide)) (fun b => f116 359 b (nr_X12_thickOf_309__359 b)) (fun b => f116 374 b (nr_X12_thickOf_309__374 b))
          have r132 := y_B.fr r80 (f116 309 20 (by decide)) (f116 316 0 (by decide)) (fun b => f116 3220 b (nr_X12_thickOf_309__3220 b)) (fun b => f116 3221 b (nr_X12_thickOf_309__3221 b)) (fun b => f116 3222 b (nr_X12_thickOf_309__3222 b)) (fun b => f116 361 b (nr_X12_thickOf_309__361 b))
          have r133 := y_K.fr r81 (by omega) (by omega) (f116 309 44 (by decide)) (f116 309 20 (by decide)) (f116 309 58 (by decide)) (fun b => f116 3438 b (nr_X12_thickOf_309__3438 b)) (fun b => f116 3220 b (nr_X12_thickOf_309__3220 b)) (fun a b h => f116 a b (nz_X12_thickOf_309__3452_3651 a b h))
          have r134 := y_L.fr r82 (f116 309 20 (by decide)) (fun b => f116 3438 b (nr_X12_thickOf_309__3438 b))
          have r135 := y_BK.fr r83 (by omega) (f116 309 20 (by decide)) (f116 309 58 (by decide)) (fun b => f116 3220 b (nr_X12_thickOf_309__3220 b)) (fun a b h => f116 a b (nz_X12_thickOf_309__3452_3651 a b h))
          have r136 := y_KM.fr r84 (f116 309 20 (by decide)) (f116 309 36 (by decide)) (f116 309 38 (by decide)) (f116 309 39 (by decide)) (fun b => f116 312 b (nr_X12_thickOf_309__312 b)) (fun b => f116 331 b (nr_X12_thickOf_309__331 b)) (fun b => f116 346 b (nr_X12_thickOf_309__346 b)) (fun b => f116 361 b (nr_X12_thickOf_309__361 b)) (fun b => f116 391 b (nr_X12_thickOf_309__391 b)) (fun a b h => f116 a b (nz_X12_thickOf_309__407_606 a b h)) (fun a b h => f116 a b (nz_X12_thickOf_309__3220_3223 a b h)) (fun a b h => f116 a b (nz_X12_thickOf_309__3235_3437 a b h))
          have r137 := y_PF.fr o69 (f116 309 44 (by decide)) (fun b => f116 7653 b (nr_X12_thickOf_309__7653 b))
          clear t70
          clear t71
          clear t72
          clear t73
          clear t74
          clear t75
          clear t76
          clear t77
          exact sj_X12_page_309K_J119 hfu r0 s114 c115 f117 x118 (by omega) r130 (by first | exact r131 | exact y_DD.z (by omega) (by omega)) r132 (by first | exact r133 | exact y_K.b0 (by omega) | exact y_K.k0 (by omega) | exact y_K.bk (by omega) | exact y_K.mk r134 (by omega) r135) (by first | exact r136 | exact y_KM.z (by omega))
        · refine T_if1 (by decide +kernel) ?_
          refine T_let 7653 (by decide +kernel) ?_
          refine T_leq (fun x138 e139 => ?_)
          first | (have w140 := z_wx e139 (by omega)) | (have w140 := z_wr e139)
          refine T_if1 (z_ixl (n := 201) (by decide +kernel) (by omega) (by omega)) ?_
          refine T_leq (fun x141 e142 => ?_)
          have u143 := CI_b c62 (k := 7653) (j := x138) (bdr_7653 x138)
          refine T_if1 (by decide +kernel) ?_
          refine T_let 7653 (by decide +kernel) ?_
          refine T_if1 (z_ixl (n := 201) (by decide +kernel) (by omega) (by omega)) ?_
          refine T_leq (fun x144 e145 => ?_)
          have u146 := CI_b c62 (k := 7653) (j := a2) (bdr_7653 a2)
          refine T_leq (fun x147 e148 => ?_)
          first | (have w149 := z_wx e148 (by omega)) | (have w149 := z_wr e148)
          exact sj_X12_page_309K_J119 hfu r0 s61 c62 f64 x147 (by omega) r78 (by first | exact r79 | exact y_DD.z (by omega) (by omega)) r80 (by first | exact r81 | exact y_K.b0 (by omega) | exact y_K.k0 (by omega) | exact y_K.bk (by omega) | exact y_K.mk r82 (by omega) r83) (by first | exact r84 | exact y_KM.z (by omega))
      · refine T_if1 (by decide +kernel) ?_
        refine T_let 7653 (by decide +kernel) ?_
        refine T_if1 (z_ixl (n := 201) (by decide +kernel) (by omega) (by omega)) ?_
        refine T_leq (fun x150 e151 => ?_)
        have u152 := CI_b c62 (k := 7653) (j := a2) (bdr_7653 a2)
        exact sj_X12_page_309K_J119 hfu r0 s61 c62 f64 x150 (by omega) r78 (by first | exact r79 | exact y_DD.z (by omega) (by omega)) r80 (by first | exact r81 | exact y_K.b0 (by omega) | exact y_K.k0 (by omega) | exact y_K.bk (by omega) | exact y_K.mk r82 (by omega) r83) (by first | exact r84 | exact y_KM.z (by omega))
    · exact T_ret ⟨c62, f64, r78, (by first | exact r79 | exact y_DD.z (by omega) (by omega)), r80, (by first | exact r81 | exact y_K.b0 (by omega) | exact y_K.k0 (by omega) | exact y_K.bk (by omega) | exact y_K.mk r82 (by omega) r83), (by first | exact r84 | exact y_KM.z (by omega)), ⟨(-1), rfl, by omega, by omega⟩⟩
  · exact T_ret ⟨c14, f16, r32, (by first | exact r33 | exact y_DD.z (by omega) (by omega)), r34, (by first | exact r35 | exact y_K.b0 (by omega) | exact y_K.k0 (by omega) | exact y_K.bk (by omega)), (by first | exact r36 | exact y_KM.z (by omega)), ⟨0, rfl, by omega, by omega⟩⟩
theorem sj_X12_page_309K_J27 {fu : Nat} (hfu : 8589934592 ≤ fu) (r0 s : z_M) (c : z_CI s) (f : z_Fr R_X12_page_309 r0 s) (a1 : Int) (a2 : Int) (a3 : Int) (b1 : -2147483648 ≤ a1 ∧ a1 ≤ 2147483647) (b2 : -2147483648 ≤ a2 ∧ a2 ≤ 2147483647) (b3 : -2147483648 ≤ a3 ∧ a3 ≤ 2147483647) (p0 : y_TA s) (p1 : y_DD s) (p2 : y_B s) (p3 : y_K s) (p4 : y_KM s) : z_T (fX12_page_J27 fu s 309 a1 a2 a3 309) (P_X12_page_309K r0) := by
  refine T_of (fX12_page_J27.eq_1 ..) ?_
  have u1 := CI_b c (k := 309) (j := 20) bd_309_20
  have u2 := CI_b c (k := 309) (j := 36) bd_309_36
  have u3 := CI_b c (k := 309) (j := 43) bd_309_43
  have u4 := CI_b c (k := 309) (j := 44) bd_309_44
  have u5 := CI_b c (k := 309) (j := 58) bd_309_58
  have u6 := CI_b c (k := 316) (j := 0) bd_316_0
  have u7 := CI_b c (k := 329) (j := 0) bd_329_0
  have u8 := CI_b c (k := 329) (j := 1) bd_329_1
  have t9 : s 309 20 = r0 309 20 := f 309 20 (by decide)
  have t10 : s 316 0 = r0 316 0 := f 316 0 (by decide)
  have t11 : s 329 0 = r0 329 0 := f 329 0 (by decide)
  have t12 : s 329 1 = r0 329 1 := f 329 1 (by decide)
  exact sj_X12_page_309K_J32 hfu r0 s c f a1 a2 a3 1 (by omega) (by omega) (by omega) (by omega) p0 (by first | exact p1 | exact y_DD.z (by omega) (by omega)) p2 (by first | exact p3 | exact y_K.b0 (by omega) | exact y_K.k0 (by omega) | exact y_K.bk (by omega)) (by first | exact p4 | exact y_KM.z (by omega))
theorem sf_X12_page_309K {fu : Nat} (hfu : 8589934592 ≤ fu) (r0 : z_M) (c0 : z_CI r0) (a1 : Int) (a2 : Int) (a3 : Int) (b1 : -2147483648 ≤ a1 ∧ a1 ≤ 2147483647) (b2 : -2147483648 ≤ a2 ∧ a2 ≤ 2147483647) (b3 : -2147483648 ≤ a3 ∧ a3 ≤ 2147483647) (p0 : y_TA r0) (p1 : y_DD r0) (p2 : y_B r0) (p3 : y_K r0) (p4 : y_KM r0) : z_T (fX12_page fu r0 309 a1 a2 a3) (P_X12_page_309K r0) := by
  refine T_of (fX12_page.eq_1 ..) ?_
  have u1 := CI_b c0 (k := 309) (j := 20) bd_309_20
  have u2 := CI_b c0 (k := 309) (j := 36) bd_309_36
  have u3 := CI_b c0 (k := 309) (j := 43) bd_309_43
  have u4 := CI_b c0 (k := 309) (j := 44) bd_309_44
  have u5 := CI_b c0 (k := 309) (j := 58) bd_309_58
  have u6 := CI_b c0 (k := 316) (j := 0) bd_316_0
  have u7 := CI_b c0 (k := 329) (j := 0) bd_329_0
  have u8 := CI_b c0 (k := 329) (j := 1) bd_329_1
  refine T_if1 (by decide +kernel) ?_
  refine T_upg c0 bd_309_0 (by omega) (fun s9 c10 g12 g13 e14 => ?_)
  have f11 := z_Fr.upf (R := R_X12_page_309) z_Fr.rf g12 g13 (Or.inr (Or.inr (⟨rfl, by decide⟩)))
  have t15 : s9 309 20 = r0 309 20 := g13 20 (by decide)
  have t16 : s9 309 36 = r0 309 36 := g13 36 (by decide)
  have t17 : s9 309 43 = r0 309 43 := g13 43 (by decide)
  have t18 : s9 309 44 = r0 309 44 := g13 44 (by decide)
  have t19 : s9 309 58 = r0 309 58 := g13 58 (by decide)
  have t20 : s9 316 0 = r0 316 0 := g12 316 0 (by decide)
  have t21 : s9 329 0 = r0 329 0 := g12 329 0 (by decide)
  have t22 : s9 329 1 = r0 329 1 := g12 329 1 (by decide)
  have r23 := y_TA.fr p0 (fun a b h => g12 a b (by omega)) (fun a b h => g12 a b (by omega)) (fun a b h => g12 a b (by omega))
  have r24 := y_DD.fr p1 (g12 329 0 (by decide)) (g12 329 1 (by decide)) (fun b => g12 359 b (by decide)) (fun b => g12 374 b (by decide))
  have r25 := y_B.fr p2 (g13 20 (by decide)) (g12 316 0 (by decide)) (fun b => g12 3220 b (by decide)) (fun b => g12 3221 b (by decide)) (fun b => g12 3222 b (by decide)) (fun b => g12 361 b (by decide))
  have r26 := y_K.fr p3 (by omega) (by omega) (g13 44 (by decide)) (g13 20 (by decide)) (g13 58 (by decide)) (fun b => g12 3438 b (by decide)) (fun b => g12 3220 b (by decide)) (fun a b h => g12 a b (by omega))
  have r27 := y_KM.fr p4 (g13 20 (by decide)) (g13 36 (by decide)) (g13 38 (by decide)) (g13 39 (by decide)) (fun b => g12 312 b (by decide)) (fun b => g12 331 b (by decide)) (fun b => g12 346 b (by decide)) (fun b => g12 361 b (by decide)) (fun b => g12 391 b (by decide)) (fun a b h => g12 a b (by omega)) (fun a b h => g12 a b (by omega)) (fun a b h => g12 a b (by omega))
  refine T_useI (sf_X12_in hfu s9 c10 a1 12 9999 (by omega) (by omega) (by omega)) (fun v33 s28 hq => ?_)
  obtain ⟨c29, f30, ⟨x32, rfl, b34, b35, o36⟩⟩ := hq
  refine T_vI ?_
  have q37 := z_Fr.eq (fun a b h => h) f30
  subst q37
  refine T_ite (fun h38 => ?_) (fun h38 => ?_)
  · exact sj_X12_page_309K_J27 hfu r0 s9 c10 f11 a1 a2 a3 (by omega) (by omega) (by omega) r23 (by first | exact r24 | exact y_DD.z (by omega) (by omega)) r25 (by first | exact r26 | exact y_K.b0 (by omega) | exact y_K.k0 (by omega) | exact y_K.bk (by omega)) (by first | exact r27 | exact y_KM.z (by omega))
  · refine T_useI (sf_X12_in hfu s9 c10 a3 0 2 (by omega) (by omega) (by omega)) (fun v44 s39 hq => ?_)
    obtain ⟨c40, f41, ⟨x43, rfl, b45, b46, o47⟩⟩ := hq
    refine T_vI ?_
    have q48 := z_Fr.eq (fun a b h => h) f41
    subst q48
    refine T_ite (fun h49 => ?_) (fun h49 => ?_)
    · exact sj_X12_page_309K_J32 hfu r0 s9 c10 f11 a1 a2 a3 0 (by omega) (by omega) (by omega) (by omega) r23 (by first | exact r24 | exact y_DD.z (by omega) (by omega)) r25 (by first | exact r26 | exact y_K.b0 (by omega) | exact y_K.k0 (by omega) | exact y_K.bk (by omega)) (by first | exact r27 | exact y_KM.z (by omega))
    · exact sj_X12_page_309K_J27 hfu r0 s9 c10 f11 a1 a2 a3 (by omega) (by omega) (by omega) r23 (by first | exact r24 | exact y_DD.z (by omega) (by omega)) r25 (by first | exact r26 | exact y_K.b0 (by omega) | exact y_K.k0 (by omega) | exact y_K.bk (by omega)) (by first | exact r27 | exact y_KM.z (by omega))
abbrev P_X12_narrow_309K (r0 : z_M) : z_V → z_M → Prop := fun v s' => z_CI s' ∧ z_Fr R_X12_narrow_309 r0 s' ∧ (y_TA s') ∧ (y_DD s') ∧ (y_B s') ∧ (y_K s') ∧ (y_KM s') ∧ (∃ x, v = vI x ∧ -2147483648 ≤ x ∧ x ≤ 2147483647)
theorem sl_X12_narrow_309K_L39 {fu : Nat} (hfu : 8589934592 ≤ fu) (r0 : z_M) (a1 : Int) (b1 : -2147483648 ≤ a1 ∧ a1 ≤ 2147483647) {k : z_M → z_O} (hk : ∀ (s' : z_M), z_CI s' → z_Fr R_X12_narrow_309 r0 s' → (y_TA s') → (y_DD s') → (y_B s') → (y_K s') → (y_KM s') → z_T (k s') (P_X12_narrow_309K r0)) : ∀ (F : Nat) (s : z_M) (a2 : Int), z_CI s → z_Fr R_X12_narrow_309 r0 s → (12 ≤ a2 ∧ a2 ≤ 10000) → (y_L s (s 309 44)) → (y_BK s) → (y_TA s) → (y_DD s) → (y_B s) → (y_K s) → (y_KM s) → (2147483647 - a2 < (F : Int)) → z_T (fX12_narrow_L39 fu 309 a1 F s a2 k) (P_X12_narrow_309K r0) := by
  intro F
  induction F with
  | zero =>
    intro s a2 c f b2 i0 i1 i2 i3 i4 i5 i6 hm
    have u42 := CI_b c (k := 309) (j := 20) bd_309_20
    have u43 := CI_b c (k := 309) (j := 36) bd_309_36
    have u44 := CI_b c (k := 309) (j := 43) bd_309_43
    have u45 := CI_b c (k := 309) (j := 44) bd_309_44
    have u46 := CI_b c (k := 309) (j := 58) bd_309_58
    have u47 := CI_b c (k := 316) (j := 0) bd_316_0
    have u48 := CI_b c (k := 329) (j := 0) bd_329_0
    have u49 := CI_b c (k := 329) (j := 1) bd_329_1
    exfalso; omega
  | succ F ih =>
    intro s a2 c f b2 i0 i1 i2 i3 i4 i5 i6 hm
    refine T_of (fX12_narrow_L39.eq_2 ..) ?_
    have u1 := CI_b c (k := 309) (j := 20) bd_309_20
    have u2 := CI_b c (k := 309) (j := 36) bd_309_36
    have u3 := CI_b c (k := 309) (j := 43) bd_309_43
    have u4 := CI_b c (k := 309) (j := 44) bd_309_44
    have u5 := CI_b c (k := 309) (j := 58) bd_309_58
    have u6 := CI_b c (k := 316) (j := 0) bd_316_0
    have u7 := CI_b c (k := 329) (j := 0) bd_329_0
    have u8 := CI_b c (k := 329) (j := 1) bd_329_1
    have t9 : s 309 20 = r0 309 20 := f 309 20 (by decide)
    have t10 : s 316 0 = r0 316 0 := f 316 0 (by decide)
    have t11 : s 329 0 = r0 329 0 := f 329 0 (by decide)
    have t12 : s 329 1 = r0 329 1 := f 329 1 (by decide)
    refine T_ite (fun h13 => ?_) (fun h13 => ?_)
    · exact hk s c f i2 (by first | exact i3 | exact y_DD.z (by omega) (by omega)) i4 (by first | exact i5 | exact y_K.b0 (by omega) | exact y_K.k0 (by omega) | exact y_K.bk (by omega) | exact y_K.mk i0 (by omega) i1) (by first | exact i6 | exact y_KM.z (by omega))
    · refine T_if1 (by decide +kernel) ?_
      refine T_useI (sf_X12_pagesBy_309 hfu s c a2 (by omega) i4 (by first | exact i1 | exact y_K.B i5 (by omega) (by omega)) (by first | exact y_L.cg i0 (by omega) | exact y_K.L i5 (by omega) (by omega)) i2) (fun v19 s14 hq => ?_)
      obtain ⟨c15, f16, ⟨x18, rfl, b20, b21, o22⟩⟩ := hq
      refine T_vI ?_
      have f17 := z_Fr.tr (R := R_X12_narrow_309) f f16 rs_X12_pagesBy_309__X12_narrow_309
      have t23 : s14 309 20 = s 309 20 := f16 309 20 (by decide)
      have t24 : s14 309 36 = s 309 36 := f16 309 36 (by decide)
      have t25 : s14 309 43 = s 309 43 := f16 309 43 (by decide)
      have t26 : s14 309 44 = s 309 44 := f16 309 44 (by decide)
      have t27 : s14 309 58 = s 309 58 := f16 309 58 (by decide)
      have t28 : s14 316 0 = s 316 0 := f16 316 0 (by decide)
      have t29 : s14 329 0 = s 329 0 := f16 329 0 (by decide)
      have t30 : s14 329 1 = s 329 1 := f16 329 1 (by decide)
      have r31 := y_L.fr i0 (f16 309 20 (by decide)) (fun b => f16 3438 b (nr_X12_pagesBy_309__3438 b))
      have r32 := y_BK.fr i1 (by omega) (f16 309 20 (by decide)) (f16 309 58 (by decide)) (fun b => f16 3220 b (nr_X12_pagesBy_309__3220 b)) (fun a b h => f16 a b (nz_X12_pagesBy_309__3452_3651 a b h))
      have r33 := y_TA.fr i2 (fun a b h => f16 a b (nz_X12_pagesBy_309__316_328 a b h)) (fun a b h => f16 a b (nz_X12_pagesBy_309__346_358 a b h)) (fun a b h => f16 a b (nz_X12_pagesBy_309__361_373 a b h))
      have r34 := y_DD.fr i3 (f16 329 0 (by decide)) (f16 329 1 (by decide)) (fun b => f16 359 b (nr_X12_pagesBy_309__359 b)) (fun b => f16 374 b (nr_X12_pagesBy_309__374 b))
      have r35 := y_B.fr i4 (f16 309 20 (by decide)) (f16 316 0 (by decide)) (fun b => f16 3220 b (nr_X12_pagesBy_309__3220 b)) (fun b => f16 3221 b (nr_X12_pagesBy_309__3221 b)) (fun b => f16 3222 b (nr_X12_pagesBy_309__3222 b)) (fun b => f16 361 b (nr_X12_pagesBy_309__361 b))
      have r36 := y_K.fr i5 (by omega) (by omega) (f16 309 44 (by decide)) (f16 309 20 (by decide)) (f16 309 58 (by decide)) (fun b => f16 3438 b (nr_X12_pagesBy_309__3438 b)) (fun b => f16 3220 b (nr_X12_pagesBy_309__3220 b)) (fun a b h => f16 a b (nz_X12_pagesBy_309__3452_3651 a b h))
      have r37 := y_KM.fr i6 (f16 309 20 (by decide)) (f16 309 36 (by decide)) (f16 309 38 (by decide)) (f16 309 39 (by decide)) (fun b => f16 312 b (nr_X12_pagesBy_309__312 b)) (fun b => f16 331 b (nr_X12_pagesBy_309__331 b)) (fun b => f16 346 b (nr_X12_pagesBy_309__346 b)) (fun b => f16 361 b (nr_X12_pagesBy_309__361 b)) (fun b => f16 391 b (nr_X12_pagesBy_309__391 b)) (fun a b h => f16 a b (nz_X12_pagesBy_309__407_606 a b h)) (fun a b h => f16 a b (nz_X12_pagesBy_309__3220_3223 a b h)) (fun a b h => f16 a b (nz_X12_pagesBy_309__3235_3437 a b h))
      refine T_ite (fun h38 => ?_) (fun h38 => ?_)
      · refine T_leq (fun x39 e40 => ?_)
        first | (have w41 := z_wx e40 (by omega)) | (have w41 := z_wr e40)
        exact ih s14 x39 c15 f17 (by omega) (by first | exact y_L.cg r31 (by omega) | exact y_K.L r36 (by omega) (by omega)) (by first | exact r32 | exact y_K.B r36 (by omega) (by omega)) r33 (by first | exact r34 | exact y_DD.z (by omega) (by omega)) r35 (by first | exact r36 | exact y_K.b0 (by omega) | exact y_K.k0 (by omega) | exact y_K.bk (by omega) | exact y_K.mk r31 (by omega) r32) (by first | exact r37 | exact y_KM.z (by omega)) (by omega)
      · exact T_ret ⟨c15, f17, r33, (by first | exact r34 | exact y_DD.z (by omega) (by omega)), r35, (by first | exact r36 | exact y_K.b0 (by omega) | exact y_K.k0 (by omega) | exact y_K.bk (by omega) | exact y_K.mk r31 (by omega) r32), (by first | exact r37 | exact y_KM.z (by omega)), ⟨a2, rfl, by omega, by omega⟩⟩
theorem sj_X12_narrow_309K_J22 {fu : Nat} (hfu : 8589934592 ≤ fu) (r0 s : z_M) (c : z_CI s) (f : z_Fr R_X12_narrow_309 r0 s) (a1 : Int) (t1 : Int) (b1 : -2147483648 ≤ a1 ∧ a1 ≤ 2147483647) (d1 : 0 ≤ t1 ∧ t1 ≤ 1) (p0 : y_TA s) (p1 : y_DD s) (p2 : y_B s) (p3 : y_K s) (p4 : y_KM s) : z_T (fX12_narrow_J22 fu s 309 a1 309 t1) (P_X12_narrow_309K r0) := by
  refine T_of (fX12_narrow_J22.eq_1 ..) ?_
  have u1 := CI_b c (k := 309) (j := 20) bd_309_20
  have u2 := CI_b c (k := 309) (j := 36) bd_309_36
  have u3 := CI_b c (k := 309) (j := 43) bd_309_43
  have u4 := CI_b c (k := 309) (j := 44) bd_309_44
  have u5 := CI_b c (k := 309) (j := 58) bd_309_58
  have u6 := CI_b c (k := 316) (j := 0) bd_316_0
  have u7 := CI_b c (k := 329) (j := 0) bd_329_0
  have u8 := CI_b c (k := 329) (j := 1) bd_329_1
  have t9 : s 309 20 = r0 309 20 := f 309 20 (by decide)
  have t10 : s 316 0 = r0 316 0 := f 316 0 (by decide)
  have t11 : s 329 0 = r0 329 0 := f 329 0 (by decide)
  have t12 : s 329 1 = r0 329 1 := f 329 1 (by decide)
  refine T_if1 (by decide +kernel) ?_
  refine T_useI (sf_X12_bad_309 hfu s c t1 1 1 (by omega) (by omega) (by omega) (by omega)) (fun v18 s13 hq => ?_)
  obtain ⟨c14, f15, o19, ⟨x17, rfl, b20, b21, o22, o23⟩⟩ := hq
  refine T_vI ?_
  have f16 := z_Fr.tr (R := R_X12_narrow_309) f f15 rs_X12_bad_309__X12_narrow_309
  have t24 : s13 309 20 = s 309 20 := f15 309 20 (by decide)
  have t25 : s13 309 36 = s 309 36 := f15 309 36 (by decide)
  have t26 : s13 309 43 = s 309 43 := f15 309 43 (by decide)
  have t27 : s13 309 44 = s 309 44 := f15 309 44 (by decide)
  have t28 : s13 309 58 = s 309 58 := f15 309 58 (by decide)
  have t29 : s13 316 0 = s 316 0 := f15 316 0 (by decide)
  have t30 : s13 329 0 = s 329 0 := f15 329 0 (by decide)
  have t31 : s13 329 1 = s 329 1 := f15 329 1 (by decide)
  have r32 := y_TA.fr p0 (fun a b h => f15 a b (nz_X12_bad_309__316_328 a b h)) (fun a b h => f15 a b (nz_X12_bad_309__346_358 a b h)) (fun a b h => f15 a b (nz_X12_bad_309__361_373 a b h))
  have r33 := y_DD.fr p1 (f15 329 0 (by decide)) (f15 329 1 (by decide)) (fun b => f15 359 b (nr_X12_bad_309__359 b)) (fun b => f15 374 b (nr_X12_bad_309__374 b))
  have r34 := y_B.fr p2 (f15 309 20 (by decide)) (f15 316 0 (by decide)) (fun b => f15 3220 b (nr_X12_bad_309__3220 b)) (fun b => f15 3221 b (nr_X12_bad_309__3221 b)) (fun b => f15 3222 b (nr_X12_bad_309__3222 b)) (fun b => f15 361 b (nr_X12_bad_309__361 b))
  have r35 := y_K.fr p3 (by omega) (by omega) (f15 309 44 (by decide)) (f15 309 20 (by decide)) (f15 309 58 (by decide)) (fun b => f15 3438 b (nr_X12_bad_309__3438 b)) (fun b => f15 3220 b (nr_X12_bad_309__3220 b)) (fun a b h => f15 a b (nz_X12_bad_309__3452_3651 a b h))
  have r36 := y_KM.fr p4 (f15 309 20 (by decide)) (f15 309 36 (by decide)) (f15 309 38 (by decide)) (f15 309 39 (by decide)) (fun b => f15 312 b (nr_X12_bad_309__312 b)) (fun b => f15 331 b (nr_X12_bad_309__331 b)) (fun b => f15 346 b (nr_X12_bad_309__346 b)) (fun b => f15 361 b (nr_X12_bad_309__361 b)) (fun b => f15 391 b (nr_X12_bad_309__391 b)) (fun a b h => f15 a b (nz_X12_bad_309__407_606 a b h)) (fun a b h => f15 a b (nz_X12_bad_309__3220_3223 a b h)) (fun a b h => f15 a b (nz_X12_bad_309__3235_3437 a b h))
  refine T_ite (fun h37 => ?_) (fun h37 => ?_)
  · refine T_if1 (by decide +kernel) ?_
    refine T_useN (sf_X12_laysGutters_309K hfu s13 c14 r34 (by first | exact r35 | exact y_K.b0 (by omega) | exact y_K.k0 (by omega) | exact y_K.bk (by omega)) r32 (by first | exact r36 | exact y_KM.z (by omega))) (fun v43 s38 hq => ?_)
    obtain ⟨c39, f40, o44, o45, o46, o47, rfl⟩ := hq
    refine T_vN ?_
    have f41 := z_Fr.tr (R := R_X12_narrow_309) f16 f40 rs_X12_laysGutters_309__X12_narrow_309
    have t50 : s38 309 20 = s 309 20 := (f40 309 20 (by decide)).trans t24
    have t51 : s38 316 0 = s 316 0 := (f40 316 0 (by decide)).trans t29
    have t52 : s38 329 0 = s 329 0 := (f40 329 0 (by decide)).trans t30
    have t53 : s38 329 1 = s 329 1 := (f40 329 1 (by decide)).trans t31
    have u54 := CI_b c39 (k := 309) (j := 36) bd_309_36
    have u55 := CI_b c39 (k := 309) (j := 43) bd_309_43
    have u56 := CI_b c39 (k := 309) (j := 44) bd_309_44
    have u57 := CI_b c39 (k := 309) (j := 58) bd_309_58
    have r58 := y_TA.fr r32 (fun a b h => f40 a b (nz_X12_laysGutters_309__316_328 a b h)) (fun a b h => f40 a b (nz_X12_laysGutters_309__346_358 a b h)) (fun a b h => f40 a b (nz_X12_laysGutters_309__361_373 a b h))
    have r59 := y_DD.fr r33 (f40 329 0 (by decide)) (f40 329 1 (by decide)) (fun b => f40 359 b (nr_X12_laysGutters_309__359 b)) (fun b => f40 374 b (nr_X12_laysGutters_309__374 b))
    have r60 := y_B.fr r34 (f40 309 20 (by decide)) (f40 316 0 (by decide)) (fun b => f40 3220 b (nr_X12_laysGutters_309__3220 b)) (fun b => f40 3221 b (nr_X12_laysGutters_309__3221 b)) (fun b => f40 3222 b (nr_X12_laysGutters_309__3222 b)) (fun b => f40 361 b (nr_X12_laysGutters_309__361 b))
    clear t24
    clear t29
    clear t30
    clear t31
    refine sl_X12_narrow_309K_L39 hfu r0 a1 (by omega) (fun s61 c62 f63 g64 g65 g66 g67 g68 => ?_) fu s38 12 c39 f41 (by omega) (by first | exact y_L.cg o45 (by omega) | exact y_K.L o44 (by omega) (by omega)) (by first | exact o46 | exact y_K.B o44 (by omega) (by omega)) r58 (by first | exact r59 | exact y_DD.z (by omega) (by omega)) r60 (by first | exact o44 | exact y_K.b0 (by omega) | exact y_K.k0 (by omega) | exact y_K.bk (by omega) | exact y_K.mk o45 (by omega) o46) (by first | exact o47 | exact y_KM.z (by omega)) (by omega)
    have u69 := CI_b c62 (k := 309) (j := 20) bd_309_20
    have u70 := CI_b c62 (k := 309) (j := 36) bd_309_36
    have u71 := CI_b c62 (k := 309) (j := 43) bd_309_43
    have u72 := CI_b c62 (k := 309) (j := 44) bd_309_44
    have u73 := CI_b c62 (k := 309) (j := 58) bd_309_58
    have u74 := CI_b c62 (k := 316) (j := 0) bd_316_0
    have u75 := CI_b c62 (k := 329) (j := 0) bd_329_0
    have u76 := CI_b c62 (k := 329) (j := 1) bd_329_1
    have t77 : s61 309 20 = r0 309 20 := f63 309 20 (by decide)
    have t78 : s61 316 0 = r0 316 0 := f63 316 0 (by decide)
    have t79 : s61 329 0 = r0 329 0 := f63 329 0 (by decide)
    have t80 : s61 329 1 = r0 329 1 := f63 329 1 (by decide)
    exact T_ret ⟨c62, f63, g64, (by first | exact g65 | exact y_DD.z (by omega) (by omega)), g66, (by first | exact g67 | exact y_K.b0 (by omega) | exact y_K.k0 (by omega) | exact y_K.bk (by omega)), (by first | exact g68 | exact y_KM.z (by omega)), ⟨(-1), rfl, by omega, by omega⟩⟩
  · exact T_ret ⟨c14, f16, r32, (by first | exact r33 | exact y_DD.z (by omega) (by omega)), r34, (by first | exact r35 | exact y_K.b0 (by omega) | exact y_K.k0 (by omega) | exact y_K.bk (by omega)), (by first | exact r36 | exact y_KM.z (by omega)), ⟨0, rfl, by omega, by omega⟩⟩
theorem sf_X12_narrow_309K {fu : Nat} (hfu : 8589934592 ≤ fu) (r0 : z_M) (c0 : z_CI r0) (a1 : Int) (b1 : -2147483648 ≤ a1 ∧ a1 ≤ 2147483647) (p0 : y_TA r0) (p1 : y_DD r0) (p2 : y_B r0) (p3 : y_K r0) (p4 : y_KM r0) : z_T (fX12_narrow fu r0 309 a1) (P_X12_narrow_309K r0) := by
  refine T_of (fX12_narrow.eq_1 ..) ?_
  have u1 := CI_b c0 (k := 309) (j := 20) bd_309_20
  have u2 := CI_b c0 (k := 309) (j := 36) bd_309_36
  have u3 := CI_b c0 (k := 309) (j := 43) bd_309_43
  have u4 := CI_b c0 (k := 309) (j := 44) bd_309_44
  have u5 := CI_b c0 (k := 309) (j := 58) bd_309_58
  have u6 := CI_b c0 (k := 316) (j := 0) bd_316_0
  have u7 := CI_b c0 (k := 329) (j := 0) bd_329_0
  have u8 := CI_b c0 (k := 329) (j := 1) bd_329_1
  refine T_if1 (by decide +kernel) ?_
  refine T_upg c0 bd_309_0 (by omega) (fun s9 c10 g12 g13 e14 => ?_)
  have f11 := z_Fr.upf (R := R_X12_narrow_309) z_Fr.rf g12 g13 (Or.inr (Or.inr (⟨rfl, by decide⟩)))
  have t15 : s9 309 20 = r0 309 20 := g13 20 (by decide)
  have t16 : s9 309 36 = r0 309 36 := g13 36 (by decide)
  have t17 : s9 309 43 = r0 309 43 := g13 43 (by decide)
  have t18 : s9 309 44 = r0 309 44 := g13 44 (by decide)
  have t19 : s9 309 58 = r0 309 58 := g13 58 (by decide)
  have t20 : s9 316 0 = r0 316 0 := g12 316 0 (by decide)
  have t21 : s9 329 0 = r0 329 0 := g12 329 0 (by decide)
  have t22 : s9 329 1 = r0 329 1 := g12 329 1 (by decide)
  have r23 := y_TA.fr p0 (fun a b h => g12 a b (by omega)) (fun a b h => g12 a b (by omega)) (fun a b h => g12 a b (by omega))
  have r24 := y_DD.fr p1 (g12 329 0 (by decide)) (g12 329 1 (by decide)) (fun b => g12 359 b (by decide)) (fun b => g12 374 b (by decide))
  have r25 := y_B.fr p2 (g13 20 (by decide)) (g12 316 0 (by decide)) (fun b => g12 3220 b (by decide)) (fun b => g12 3221 b (by decide)) (fun b => g12 3222 b (by decide)) (fun b => g12 361 b (by decide))
  have r26 := y_K.fr p3 (by omega) (by omega) (g13 44 (by decide)) (g13 20 (by decide)) (g13 58 (by decide)) (fun b => g12 3438 b (by decide)) (fun b => g12 3220 b (by decide)) (fun a b h => g12 a b (by omega))
  have r27 := y_KM.fr p4 (g13 20 (by decide)) (g13 36 (by decide)) (g13 38 (by decide)) (g13 39 (by decide)) (fun b => g12 312 b (by decide)) (fun b => g12 331 b (by decide)) (fun b => g12 346 b (by decide)) (fun b => g12 361 b (by decide)) (fun b => g12 391 b (by decide)) (fun a b h => g12 a b (by omega)) (fun a b h => g12 a b (by omega)) (fun a b h => g12 a b (by omega))
  refine T_useI (sf_X12_in hfu s9 c10 a1 1 200 (by omega) (by omega) (by omega)) (fun v33 s28 hq => ?_)
  obtain ⟨c29, f30, ⟨x32, rfl, b34, b35, o36⟩⟩ := hq
  refine T_vI ?_
  have q37 := z_Fr.eq (fun a b h => h) f30
  subst q37
  refine T_ite (fun h38 => ?_) (fun h38 => ?_)
  · exact sj_X12_narrow_309K_J22 hfu r0 s9 c10 f11 a1 0 (by omega) (by omega) r23 (by first | exact r24 | exact y_DD.z (by omega) (by omega)) r25 (by first | exact r26 | exact y_K.b0 (by omega) | exact y_K.k0 (by omega) | exact y_K.bk (by omega)) (by first | exact r27 | exact y_KM.z (by omega))
  · exact sj_X12_narrow_309K_J22 hfu r0 s9 c10 f11 a1 1 (by omega) (by omega) r23 (by first | exact r24 | exact y_DD.z (by omega) (by omega)) r25 (by first | exact r26 | exact y_K.b0 (by omega) | exact y_K.k0 (by omega) | exact y_K.bk (by omega)) (by first | exact r27 | exact y_KM.z (by omega))
abbrev P_X12_ends_309K (r0 : z_M) : z_V → z_M → Prop := fun v s' => z_CI s' ∧ z_Fr R_X12_ends_309 r0 s' ∧ (y_TA s') ∧ (y_DD s') ∧ (y_B s') ∧ (y_K s') ∧ (y_KM s') ∧ (∃ x, v = vI x ∧ 0 ≤ x ∧ x ≤ 1)
theorem nz_X12_mayEnd_309__316_328 (a b : Int) (h : 316 ≤ a ∧ a ≤ 328) : ¬ R_X12_mayEnd_309 a b := by
  unfold R_X12_mayEnd_309; omega
theorem nz_X12_mayEnd_309__346_358 (a b : Int) (h : 346 ≤ a ∧ a ≤ 358) : ¬ R_X12_mayEnd_309 a b := by
  unfold R_X12_mayEnd_309; omega
theorem nz_X12_mayEnd_309__361_373 (a b : Int) (h : 361 ≤ a ∧ a ≤ 373) : ¬ R_X12_mayEnd_309 a b := by
  unfold R_X12_mayEnd_309; omega
theorem nz_X12_mayEnd_309__3452_3651 (a b : Int) (h : 3452 ≤ a ∧ a ≤ 3651) : ¬ R_X12_mayEnd_309 a b := by
  unfold R_X12_mayEnd_309; omega
theorem sj_X12_ends_309K_J19 {fu : Nat} (hfu : 8589934592 ≤ fu) (r0 s : z_M) (c : z_CI s) (f : z_Fr R_X12_ends_309 r0 s) (a1 : Int) (t1 : Int) (b1 : -2147483648 ≤ a1 ∧ a1 ≤ 2147483647) (d1 : 0 ≤ t1 ∧ t1 ≤ 1) (p0 : t1 = 1 ∨ (0 ≤ a1 ∧ a1 < s 309 20)) (p1 : y_TA s) (p2 : y_DD s) (p3 : y_B s) (p4 : y_K s) (p5 : y_KM s) : z_T (fX12_ends_J19 fu s 309 a1 309 t1) (P_X12_ends_309K r0) := by
  refine T_of (fX12_ends_J19.eq_1 ..) ?_
  have u1 := CI_b c (k := 309) (j := 20) bd_309_20
  have u2 := CI_b c (k := 309) (j := 36) bd_309_36
  have u3 := CI_b c (k := 309) (j := 43) bd_309_43
  have u4 := CI_b c (k := 309) (j := 44) bd_309_44
  have u5 := CI_b c (k := 309) (j := 58) bd_309_58
  have u6 := CI_b c (k := 316) (j := 0) bd_316_0
  have u7 := CI_b c (k := 329) (j := 0) bd_329_0
  have u8 := CI_b c (k := 329) (j := 1) bd_329_1
  have t9 : s 309 20 = r0 309 20 := f 309 20 (by decide)
  have t10 : s 309 44 = r0 309 44 := f 309 44 (by decide)
  have t11 : s 309 58 = r0 309 58 := f 309 58 (by decide)
  have t12 : s 316 0 = r0 316 0 := f 316 0 (by decide)
  have t13 : s 329 0 = r0 329 0 := f 329 0 (by decide)
  have t14 : s 329 1 = r0 329 1 := f 329 1 (by decide)
  refine T_if1 (by decide +kernel) ?_
  refine T_useI (sf_X12_bad_309 hfu s c t1 1 0 (by omega) (by omega) (by omega) (by omega)) (fun v20 s15 hq => ?_)
  obtain ⟨c16, f17, o21, ⟨x19, rfl, b22, b23, o24, o25⟩⟩ := hq
  refine T_vI ?_
  have f18 := z_Fr.tr (R := R_X12_ends_309) f f17 rs_X12_bad_309__X12_ends_309
  have t26 : s15 309 20 = s 309 20 := f17 309 20 (by decide)
  have t27 : s15 309 36 = s 309 36 := f17 309 36 (by decide)
  have t28 : s15 309 43 = s 309 43 := f17 309 43 (by decide)
  have t29 : s15 309 44 = s 309 44 := f17 309 44 (by decide)
  have t30 : s15 309 58 = s 309 58 := f17 309 58 (by decide)
  have t31 : s15 316 0 = s 316 0 := f17 316 0 (by decide)
  have t32 : s15 329 0 = s 329 0 := f17 329 0 (by decide)
  have t33 : s15 329 1 = s 329 1 := f17 329 1 (by decide)
  have r34 := y_TA.fr p1 (fun a b h => f17 a b (nz_X12_bad_309__316_328 a b h)) (fun a b h => f17 a b (nz_X12_bad_309__346_358 a b h)) (fun a b h => f17 a b (nz_X12_bad_309__361_373 a b h))
  have r35 := y_DD.fr p2 (f17 329 0 (by decide)) (f17 329 1 (by decide)) (fun b => f17 359 b (nr_X12_bad_309__359 b)) (fun b => f17 374 b (nr_X12_bad_309__374 b))
  have r36 := y_B.fr p3 (f17 309 20 (by decide)) (f17 316 0 (by decide)) (fun b => f17 3220 b (nr_X12_bad_309__3220 b)) (fun b => f17 3221 b (nr_X12_bad_309__3221 b)) (fun b => f17 3222 b (nr_X12_bad_309__3222 b)) (fun b => f17 361 b (nr_X12_bad_309__361 b))
  have r37 := y_K.fr p4 (by omega) (by omega) (f17 309 44 (by decide)) (f17 309 20 (by decide)) (f17 309 58 (by decide)) (fun b => f17 3438 b (nr_X12_bad_309__3438 b)) (fun b => f17 3220 b (nr_X12_bad_309__3220 b)) (fun a b h => f17 a b (nz_X12_bad_309__3452_3651 a b h))
  have r38 := y_KM.fr p5 (f17 309 20 (by decide)) (f17 309 36 (by decide)) (f17 309 38 (by decide)) (f17 309 39 (by decide)) (fun b => f17 312 b (nr_X12_bad_309__312 b)) (fun b => f17 331 b (nr_X12_bad_309__331 b)) (fun b => f17 346 b (nr_X12_bad_309__346 b)) (fun b => f17 361 b (nr_X12_bad_309__361 b)) (fun b => f17 391 b (nr_X12_bad_309__391 b)) (fun a b h => f17 a b (nz_X12_bad_309__407_606 a b h)) (fun a b h => f17 a b (nz_X12_bad_309__3220_3223 a b h)) (fun a b h => f17 a b (nz_X12_bad_309__3235_3437 a b h))
  refine T_ite (fun h39 => ?_) (fun h39 => ?_)
  · refine T_if1 (by decide +kernel) ?_
    refine T_useI (sf_X12_mayEnd_309K hfu s15 c16 a1 (by omega) r36 (by first | exact r38 | exact y_KM.z (by omega))) (fun v45 s40 hq => ?_)
    obtain ⟨c41, f42, o46, o47, o48, o49, ⟨x44, rfl, b50, b51⟩⟩ := hq
    refine T_vI ?_
    have f43 := z_Fr.tr (R := R_X12_ends_309) f18 f42 rs_X12_mayEnd_309__X12_ends_309
    have t52 : s40 309 20 = s 309 20 := (f42 309 20 (by decide)).trans t26
    have t53 : s40 309 44 = s 309 44 := (f42 309 44 (by decide)).trans t29
    have t54 : s40 309 58 = s 309 58 := (f42 309 58 (by decide)).trans t30
    have t55 : s40 316 0 = s 316 0 := (f42 316 0 (by decide)).trans t31
    have t56 : s40 329 0 = s 329 0 := (f42 329 0 (by decide)).trans t32
    have t57 : s40 329 1 = s 329 1 := (f42 329 1 (by decide)).trans t33
    have u58 := CI_b c41 (k := 309) (j := 36) bd_309_36
    have u59 := CI_b c41 (k := 309) (j := 43) bd_309_43
    have r60 := y_TA.fr r34 (fun a b h => f42 a b (nz_X12_mayEnd_309__316_328 a b h)) (fun a b h => f42 a b (nz_X12_mayEnd_309__346_358 a b h)) (fun a b h => f42 a b (nz_X12_mayEnd_309__361_373 a b h))
    have r61 := y_DD.fr r35 (f42 329 0 (by decide)) (f42 329 1 (by decide)) (fun b => f42 359 b (nr_X12_mayEnd_309__359 b)) (fun b => f42 374 b (nr_X12_mayEnd_309__374 b))
    have r62 := y_B.fr r36 (f42 309 20 (by decide)) (f42 316 0 (by decide)) (fun b => f42 3220 b (nr_X12_mayEnd_309__3220 b)) (fun b => f42 3221 b (nr_X12_mayEnd_309__3221 b)) (fun b => f42 3222 b (nr_X12_mayEnd_309__3222 b)) (fun b => f42 361 b (nr_X12_mayEnd_309__361 b))
    have r63 := y_K.fr r37 (by omega) (by omega) (f42 309 44 (by decide)) (f42 309 20 (by decide)) (f42 309 58 (by decide)) (fun b => f42 3438 b (nr_X12_mayEnd_309__3438 b)) (fun b => f42 3220 b (nr_X12_mayEnd_309__3220 b)) (fun a b h => f42 a b (nz_X12_mayEnd_309__3452_3651 a b h))
    clear t26
    clear t29
    clear t30
    clear t31
    clear t32
    clear t33
    refine T_if1 (by unfold z_bl; omega) ?_
    exact T_ret ⟨c41, f43, r60, (by first | exact r61 | exact y_DD.z (by omega) (by omega)), r62, (by first | exact r63 | exact y_K.b0 (by omega) | exact y_K.k0 (by omega) | exact y_K.bk (by omega)), (by first | exact o49 | exact y_KM.z (by omega)), ⟨x44, rfl, by omega, by omega⟩⟩
  · refine T_if1 (by unfold z_bl; omega) ?_
    exact T_ret ⟨c16, f18, r34, (by first | exact r35 | exact y_DD.z (by omega) (by omega)), r36, (by first | exact r37 | exact y_K.b0 (by omega) | exact y_K.k0 (by omega) | exact y_K.bk (by omega)), (by first | exact r38 | exact y_KM.z (by omega)), ⟨0, rfl, by omega, by omega⟩⟩
theorem sf_X12_ends_309K {fu : Nat} (hfu : 8589934592 ≤ fu) (r0 : z_M) (c0 : z_CI r0) (a1 : Int) (b1 : -2147483648 ≤ a1 ∧ a1 ≤ 2147483647) (p0 : y_TA r0) (p1 : y_DD r0) (p2 : y_B r0) (p3 : y_K r0) (p4 : y_KM r0) : z_T (fX12_ends fu r0 309 a1) (P_X12_ends_309K r0) := by
  refine T_of (fX12_ends.eq_1 ..) ?_
  have u1 := CI_b c0 (k := 309) (j := 20) bd_309_20
  have u2 := CI_b c0 (k := 309) (j := 36) bd_309_36
  have u3 := CI_b c0 (k := 309) (j := 43) bd_309_43
  have u4 := CI_b c0 (k := 309) (j := 44) bd_309_44
  have u5 := CI_b c0 (k := 309) (j := 58) bd_309_58
  have u6 := CI_b c0 (k := 316) (j := 0) bd_316_0
  have u7 := CI_b c0 (k := 329) (j := 0) bd_329_0
  have u8 := CI_b c0 (k := 329) (j := 1) bd_329_1
  refine T_if1 (by decide +kernel) ?_
  refine T_upg c0 bd_309_0 (by omega) (fun s9 c10 g12 g13 e14 => ?_)
  have f11 := z_Fr.upf (R := R_X12_ends_309) z_Fr.rf g12 g13 (Or.inr (Or.inr (⟨rfl, by decide⟩)))
  have t15 : s9 309 20 = r0 309 20 := g13 20 (by decide)
  have t16 : s9 309 36 = r0 309 36 := g13 36 (by decide)
  have t17 : s9 309 43 = r0 309 43 := g13 43 (by decide)
  have t18 : s9 309 44 = r0 309 44 := g13 44 (by decide)
  have t19 : s9 309 58 = r0 309 58 := g13 58 (by decide)
  have t20 : s9 316 0 = r0 316 0 := g12 316 0 (by decide)
  have t21 : s9 329 0 = r0 329 0 := g12 329 0 (by decide)
  have t22 : s9 329 1 = r0 329 1 := g12 329 1 (by decide)
  have r23 := y_TA.fr p0 (fun a b h => g12 a b (by omega)) (fun a b h => g12 a b (by omega)) (fun a b h => g12 a b (by omega))
  have r24 := y_DD.fr p1 (g12 329 0 (by decide)) (g12 329 1 (by decide)) (fun b => g12 359 b (by decide)) (fun b => g12 374 b (by decide))
  have r25 := y_B.fr p2 (g13 20 (by decide)) (g12 316 0 (by decide)) (fun b => g12 3220 b (by decide)) (fun b => g12 3221 b (by decide)) (fun b => g12 3222 b (by decide)) (fun b => g12 361 b (by decide))
  have r26 := y_K.fr p3 (by omega) (by omega) (g13 44 (by decide)) (g13 20 (by decide)) (g13 58 (by decide)) (fun b => g12 3438 b (by decide)) (fun b => g12 3220 b (by decide)) (fun a b h => g12 a b (by omega))
  have r27 := y_KM.fr p4 (g13 20 (by decide)) (g13 36 (by decide)) (g13 38 (by decide)) (g13 39 (by decide)) (fun b => g12 312 b (by decide)) (fun b => g12 331 b (by decide)) (fun b => g12 346 b (by decide)) (fun b => g12 361 b (by decide)) (fun b => g12 391 b (by decide)) (fun a b h => g12 a b (by omega)) (fun a b h => g12 a b (by omega)) (fun a b h => g12 a b (by omega))
  refine T_if1 (by decide +kernel) ?_
  refine T_useI (sf_X12_isUnit_309 hfu s9 c10 a1 (by omega)) (fun v33 s28 hq => ?_)
  obtain ⟨c29, f30, ⟨x32, rfl, b34, b35, o36⟩⟩ := hq
  refine T_vI ?_
  have q37 := z_Fr.eq (fun a b h => h) f30
  subst q37
  refine T_ite (fun h38 => ?_) (fun h38 => ?_)
  · exact sj_X12_ends_309K_J19 hfu r0 s9 c10 f11 a1 0 (by omega) (by omega) (by omega) r23 (by first | exact r24 | exact y_DD.z (by omega) (by omega)) r25 (by first | exact r26 | exact y_K.b0 (by omega) | exact y_K.k0 (by omega) | exact y_K.bk (by omega)) (by first | exact r27 | exact y_KM.z (by omega))
  · exact sj_X12_ends_309K_J19 hfu r0 s9 c10 f11 a1 1 (by omega) (by omega) (by omega) r23 (by first | exact r24 | exact y_DD.z (by omega) (by omega)) r25 (by first | exact r26 | exact y_K.b0 (by omega) | exact y_K.k0 (by omega) | exact y_K.bk (by omega)) (by first | exact r27 | exact y_KM.z (by omega))
abbrev P_X12_longOf_309K (r0 : z_M) : z_V → z_M → Prop := fun v s' => z_CI s' ∧ z_Fr R_X12_longOf_309 r0 s' ∧ (y_TA s') ∧ (y_DD s') ∧ (y_B s') ∧ (y_K s') ∧ (y_KM s') ∧ (∃ x, v = vI x ∧ -2147483648 ≤ x ∧ x ≤ 2147483647)
theorem sj_X12_longOf_309K_J54 {fu : Nat} (hfu : 8589934592 ≤ fu) (r0 s : z_M) (c : z_CI s) (f : z_Fr R_X12_longOf_309 r0 s) (p0 : y_TA s) (p1 : y_DD s) (p2 : y_B s) (p3 : y_K s) (p4 : y_KM s) : z_T (fX12_longOf_J54 fu s) (P_X12_longOf_309K r0) := by
  refine T_of (fX12_longOf_J54.eq_1 ..) ?_
  have u1 := CI_b c (k := 309) (j := 20) bd_309_20
  have u2 := CI_b c (k := 309) (j := 36) bd_309_36
  have u3 := CI_b c (k := 309) (j := 43) bd_309_43
  have u4 := CI_b c (k := 309) (j := 44) bd_309_44
  have u5 := CI_b c (k := 309) (j := 58) bd_309_58
  have u6 := CI_b c (k := 316) (j := 0) bd_316_0
  have u7 := CI_b c (k := 329) (j := 0) bd_329_0
  have u8 := CI_b c (k := 329) (j := 1) bd_329_1
  have t9 : s 309 20 = r0 309 20 := f 309 20 (by decide)
  have t10 : s 309 44 = r0 309 44 := f 309 44 (by decide)
  have t11 : s 309 58 = r0 309 58 := f 309 58 (by decide)
  have t12 : s 316 0 = r0 316 0 := f 316 0 (by decide)
  have t13 : s 329 0 = r0 329 0 := f 329 0 (by decide)
  have t14 : s 329 1 = r0 329 1 := f 329 1 (by decide)
  exact T_ret ⟨c, f, p0, (by first | exact p1 | exact y_DD.z (by omega) (by omega)), p2, (by first | exact p3 | exact y_K.b0 (by omega) | exact y_K.k0 (by omega) | exact y_K.bk (by omega)), (by first | exact p4 | exact y_KM.z (by omega)), ⟨0, rfl, by omega, by omega⟩⟩
theorem nz_X12_longAs_309__316_328 (a b : Int) (h : 316 ≤ a ∧ a ≤ 328) : ¬ R_X12_longAs_309 a b := by
  unfold R_X12_longAs_309; omega
theorem nz_X12_longAs_309__346_358 (a b : Int) (h : 346 ≤ a ∧ a ≤ 358) : ¬ R_X12_longAs_309 a b := by
  unfold R_X12_longAs_309; omega
theorem nz_X12_longAs_309__361_373 (a b : Int) (h : 361 ≤ a ∧ a ≤ 373) : ¬ R_X12_longAs_309 a b := by
  unfold R_X12_longAs_309; omega
theorem nz_X12_longAs_309__3452_3651 (a b : Int) (h : 3452 ≤ a ∧ a ≤ 3651) : ¬ R_X12_longAs_309 a b := by
  unfold R_X12_longAs_309; omega
theorem sj_X12_longOf_309K_J46 {fu : Nat} (hfu : 8589934592 ≤ fu) (r0 s : z_M) (c : z_CI s) (f : z_Fr R_X12_longOf_309 r0 s) (a1 : Int) (a2 : Int) (t1 : Int) (b1 : -2147483648 ≤ a1 ∧ a1 ≤ 2147483647) (b2 : -2147483648 ≤ a2 ∧ a2 ≤ 2147483647) (d1 : 0 ≤ t1 ∧ t1 ≤ 1) (p0 : 0 ≤ a1 ∧ a1 < s 309 20 ∧ 0 ≤ a2 ∧ a2 < s 309 20) (p1 : t1 = 1 ∨ a1 ≤ a2) (p2 : y_TA s) (p3 : y_DD s) (p4 : y_B s) (p5 : y_K s) (p6 : y_KM s) : z_T (fX12_longOf_J46 fu s 309 a1 a2 309 t1) (P_X12_longOf_309K r0) := by
  refine T_of (fX12_longOf_J46.eq_1 ..) ?_
  have u1 := CI_b c (k := 309) (j := 20) bd_309_20
  have u2 := CI_b c (k := 309) (j := 36) bd_309_36
  have u3 := CI_b c (k := 309) (j := 43) bd_309_43
  have u4 := CI_b c (k := 309) (j := 44) bd_309_44
  have u5 := CI_b c (k := 309) (j := 58) bd_309_58
  have u6 := CI_b c (k := 316) (j := 0) bd_316_0
  have u7 := CI_b c (k := 329) (j := 0) bd_329_0
  have u8 := CI_b c (k := 329) (j := 1) bd_329_1
  have t9 : s 309 20 = r0 309 20 := f 309 20 (by decide)
  have t10 : s 309 44 = r0 309 44 := f 309 44 (by decide)
  have t11 : s 309 58 = r0 309 58 := f 309 58 (by decide)
  have t12 : s 316 0 = r0 316 0 := f 316 0 (by decide)
  have t13 : s 329 0 = r0 329 0 := f 329 0 (by decide)
  have t14 : s 329 1 = r0 329 1 := f 329 1 (by decide)
  refine T_if1 (by decide +kernel) ?_
  refine T_useI (sf_X12_bad_309 hfu s c t1 2 1 (by omega) (by omega) (by omega) (by omega)) (fun v20 s15 hq => ?_)
  obtain ⟨c16, f17, o21, ⟨x19, rfl, b22, b23, o24, o25⟩⟩ := hq
  refine T_vI ?_
  have f18 := z_Fr.tr (R := R_X12_longOf_309) f f17 rs_X12_bad_309__X12_longOf_309
  have t26 : s15 309 20 = s 309 20 := f17 309 20 (by decide)
  have t27 : s15 309 36 = s 309 36 := f17 309 36 (by decide)
  have t28 : s15 309 43 = s 309 43 := f17 309 43 (by decide)
  have t29 : s15 309 44 = s 309 44 := f17 309 44 (by decide)
  have t30 : s15 309 58 = s 309 58 := f17 309 58 (by decide)
  have t31 : s15 316 0 = s 316 0 := f17 316 0 (by decide)
  have t32 : s15 329 0 = s 329 0 := f17 329 0 (by decide)
  have t33 : s15 329 1 = s 329 1 := f17 329 1 (by decide)
  have r34 := y_TA.fr p2 (fun a b h => f17 a b (nz_X12_bad_309__316_328 a b h)) (fun a b h => f17 a b (nz_X12_bad_309__346_358 a b h)) (fun a b h => f17 a b (nz_X12_bad_309__361_373 a b h))
  have r35 := y_DD.fr p3 (f17 329 0 (by decide)) (f17 329 1 (by decide)) (fun b => f17 359 b (nr_X12_bad_309__359 b)) (fun b => f17 374 b (nr_X12_bad_309__374 b))
  have r36 := y_B.fr p4 (f17 309 20 (by decide)) (f17 316 0 (by decide)) (fun b => f17 3220 b (nr_X12_bad_309__3220 b)) (fun b => f17 3221 b (nr_X12_bad_309__3221 b)) (fun b => f17 3222 b (nr_X12_bad_309__3222 b)) (fun b => f17 361 b (nr_X12_bad_309__361 b))
  have r37 := y_K.fr p5 (by omega) (by omega) (f17 309 44 (by decide)) (f17 309 20 (by decide)) (f17 309 58 (by decide)) (fun b => f17 3438 b (nr_X12_bad_309__3438 b)) (fun b => f17 3220 b (nr_X12_bad_309__3220 b)) (fun a b h => f17 a b (nz_X12_bad_309__3452_3651 a b h))
  have r38 := y_KM.fr p6 (f17 309 20 (by decide)) (f17 309 36 (by decide)) (f17 309 38 (by decide)) (f17 309 39 (by decide)) (fun b => f17 312 b (nr_X12_bad_309__312 b)) (fun b => f17 331 b (nr_X12_bad_309__331 b)) (fun b => f17 346 b (nr_X12_bad_309__346 b)) (fun b => f17 361 b (nr_X12_bad_309__361 b)) (fun b => f17 391 b (nr_X12_bad_309__391 b)) (fun a b h => f17 a b (nz_X12_bad_309__407_606 a b h)) (fun a b h => f17 a b (nz_X12_bad_309__3220_3223 a b h)) (fun a b h => f17 a b (nz_X12_bad_309__3235_3437 a b h))
  refine T_ite (fun h39 => ?_) (fun h39 => ?_)
  · refine T_if1 (by decide +kernel) ?_
    refine T_useI (sf_X12_longAs_309K hfu s15 c16 a1 a2 (by omega) (by omega) r36 (by omega) (by omega) (by first | exact r38 | exact y_KM.z (by omega))) (fun v45 s40 hq => ?_)
    obtain ⟨c41, f42, o46, o47, o48, o49, ⟨x44, rfl, b50, b51⟩⟩ := hq
    refine T_vI ?_
    have f43 := z_Fr.tr (R := R_X12_longOf_309) f18 f42 rs_X12_longAs_309__X12_longOf_309
    have t52 : s40 309 20 = s 309 20 := (f42 309 20 (by decide)).trans t26
    have t53 : s40 309 44 = s 309 44 := (f42 309 44 (by decide)).trans t29
    have t54 : s40 309 58 = s 309 58 := (f42 309 58 (by decide)).trans t30
    have t55 : s40 316 0 = s 316 0 := (f42 316 0 (by decide)).trans t31
    have t56 : s40 329 0 = s 329 0 := (f42 329 0 (by decide)).trans t32
    have t57 : s40 329 1 = s 329 1 := (f42 329 1 (by decide)).trans t33
    have u58 := CI_b c41 (k := 309) (j := 36) bd_309_36
    have u59 := CI_b c41 (k := 309) (j := 43) bd_309_43
    have r60 := y_TA.fr r34 (fun a b h => f42 a b (nz_X12_longAs_309__316_328 a b h)) (fun a b h => f42 a b (nz_X12_longAs_309__346_358 a b h)) (fun a b h => f42 a b (nz_X12_longAs_309__361_373 a b h))
    have r61 := y_DD.fr r35 (f42 329 0 (by decide)) (f42 329 1 (by decide)) (fun b => f42 359 b (nr_X12_longAs_309__359 b)) (fun b => f42 374 b (nr_X12_longAs_309__374 b))
    have r62 := y_B.fr r36 (f42 309 20 (by decide)) (f42 316 0 (by decide)) (fun b => f42 3220 b (nr_X12_longAs_309__3220 b)) (fun b => f42 3221 b (nr_X12_longAs_309__3221 b)) (fun b => f42 3222 b (nr_X12_longAs_309__3222 b)) (fun b => f42 361 b (nr_X12_longAs_309__361 b))
    have r63 := y_K.fr r37 (by omega) (by omega) (f42 309 44 (by decide)) (f42 309 20 (by decide)) (f42 309 58 (by decide)) (fun b => f42 3438 b (nr_X12_longAs_309__3438 b)) (fun b => f42 3220 b (nr_X12_longAs_309__3220 b)) (fun a b h => f42 a b (nz_X12_longAs_309__3452_3651 a b h))
    clear t26
    clear t29
    clear t30
    clear t31
    clear t32
    clear t33
    exact T_ret ⟨c41, f43, r60, (by first | exact r61 | exact y_DD.z (by omega) (by omega)), r62, (by first | exact r63 | exact y_K.b0 (by omega) | exact y_K.k0 (by omega) | exact y_K.bk (by omega)), (by first | exact o49 | exact y_KM.z (by omega)), ⟨x44, rfl, by omega, by omega⟩⟩
  · exact sj_X12_longOf_309K_J54 hfu r0 s15 c16 f18 r34 (by first | exact r35 | exact y_DD.z (by omega) (by omega)) r36 (by first | exact r37 | exact y_K.b0 (by omega) | exact y_K.k0 (by omega) | exact y_K.bk (by omega)) (by first | exact r38 | exact y_KM.z (by omega))
theorem sj_X12_longOf_309K_J27 {fu : Nat} (hfu : 8589934592 ≤ fu) (r0 s : z_M) (c : z_CI s) (f : z_Fr R_X12_longOf_309 r0 s) (a1 : Int) (a2 : Int) (t1 : Int) (b1 : -2147483648 ≤ a1 ∧ a1 ≤ 2147483647) (b2 : -2147483648 ≤ a2 ∧ a2 ≤ 2147483647) (d1 : 0 ≤ t1 ∧ t1 ≤ 1) (p0 : t1 = 1 ∨ (0 ≤ a1 ∧ a1 < s 309 20 ∧ 0 ≤ a2 ∧ a2 < s 309 20)) (p1 : y_TA s) (p2 : y_DD s) (p3 : y_B s) (p4 : y_K s) (p5 : y_KM s) : z_T (fX12_longOf_J27 fu s 309 a1 a2 309 t1) (P_X12_longOf_309K r0) := by
  refine T_of (fX12_longOf_J27.eq_1 ..) ?_
  have u1 := CI_b c (k := 309) (j := 20) bd_309_20
  have u2 := CI_b c (k := 309) (j := 36) bd_309_36
  have u3 := CI_b c (k := 309) (j := 43) bd_309_43
  have u4 := CI_b c (k := 309) (j := 44) bd_309_44
  have u5 := CI_b c (k := 309) (j := 58) bd_309_58
  have u6 := CI_b c (k := 316) (j := 0) bd_316_0
  have u7 := CI_b c (k := 329) (j := 0) bd_329_0
  have u8 := CI_b c (k := 329) (j := 1) bd_329_1
  have t9 : s 309 20 = r0 309 20 := f 309 20 (by decide)
  have t10 : s 309 44 = r0 309 44 := f 309 44 (by decide)
  have t11 : s 309 58 = r0 309 58 := f 309 58 (by decide)
  have t12 : s 316 0 = r0 316 0 := f 316 0 (by decide)
  have t13 : s 329 0 = r0 329 0 := f 329 0 (by decide)
  have t14 : s 329 1 = r0 329 1 := f 329 1 (by decide)
  refine T_if1 (by decide +kernel) ?_
  refine T_useI (sf_X12_bad_309 hfu s c t1 1 0 (by omega) (by omega) (by omega) (by omega)) (fun v20 s15 hq => ?_)
  obtain ⟨c16, f17, o21, ⟨x19, rfl, b22, b23, o24, o25⟩⟩ := hq
  refine T_vI ?_
  have f18 := z_Fr.tr (R := R_X12_longOf_309) f f17 rs_X12_bad_309__X12_longOf_309
  have t26 : s15 309 20 = s 309 20 := f17 309 20 (by decide)
  have t27 : s15 309 36 = s 309 36 := f17 309 36 (by decide)
  have t28 : s15 309 43 = s 309 43 := f17 309 43 (by decide)
  have t29 : s15 309 44 = s 309 44 := f17 309 44 (by decide)
  have t30 : s15 309 58 = s 309 58 := f17 309 58 (by decide)
  have t31 : s15 316 0 = s 316 0 := f17 316 0 (by decide)
  have t32 : s15 329 0 = s 329 0 := f17 329 0 (by decide)
  have t33 : s15 329 1 = s 329 1 := f17 329 1 (by decide)
  have r34 := y_TA.fr p1 (fun a b h => f17 a b (nz_X12_bad_309__316_328 a b h)) (fun a b h => f17 a b (nz_X12_bad_309__346_358 a b h)) (fun a b h => f17 a b (nz_X12_bad_309__361_373 a b h))
  have r35 := y_DD.fr p2 (f17 329 0 (by decide)) (f17 329 1 (by decide)) (fun b => f17 359 b (nr_X12_bad_309__359 b)) (fun b => f17 374 b (nr_X12_bad_309__374 b))
  have r36 := y_B.fr p3 (f17 309 20 (by decide)) (f17 316 0 (by decide)) (fun b => f17 3220 b (nr_X12_bad_309__3220 b)) (fun b => f17 3221 b (nr_X12_bad_309__3221 b)) (fun b => f17 3222 b (nr_X12_bad_309__3222 b)) (fun b => f17 361 b (nr_X12_bad_309__361 b))
  have r37 := y_K.fr p4 (by omega) (by omega) (f17 309 44 (by decide)) (f17 309 20 (by decide)) (f17 309 58 (by decide)) (fun b => f17 3438 b (nr_X12_bad_309__3438 b)) (fun b => f17 3220 b (nr_X12_bad_309__3220 b)) (fun a b h => f17 a b (nz_X12_bad_309__3452_3651 a b h))
  have r38 := y_KM.fr p5 (f17 309 20 (by decide)) (f17 309 36 (by decide)) (f17 309 38 (by decide)) (f17 309 39 (by decide)) (fun b => f17 312 b (nr_X12_bad_309__312 b)) (fun b => f17 331 b (nr_X12_bad_309__331 b)) (fun b => f17 346 b (nr_X12_bad_309__346 b)) (fun b => f17 361 b (nr_X12_bad_309__361 b)) (fun b => f17 391 b (nr_X12_bad_309__391 b)) (fun a b h => f17 a b (nz_X12_bad_309__407_606 a b h)) (fun a b h => f17 a b (nz_X12_bad_309__3220_3223 a b h)) (fun a b h => f17 a b (nz_X12_bad_309__3235_3437 a b h))
  refine T_ite (fun h39 => ?_) (fun h39 => ?_)
  · exact sj_X12_longOf_309K_J54 hfu r0 s15 c16 f18 r34 (by first | exact r35 | exact y_DD.z (by omega) (by omega)) r36 (by first | exact r37 | exact y_K.b0 (by omega) | exact y_K.k0 (by omega) | exact y_K.bk (by omega)) (by first | exact r38 | exact y_KM.z (by omega))
  · refine T_ite (fun h40 => ?_) (fun h40 => ?_)
    · exact sj_X12_longOf_309K_J46 hfu r0 s15 c16 f18 a1 a2 0 (by omega) (by omega) (by omega) (by omega) (by omega) r34 (by first | exact r35 | exact y_DD.z (by omega) (by omega)) r36 (by first | exact r37 | exact y_K.b0 (by omega) | exact y_K.k0 (by omega) | exact y_K.bk (by omega)) (by first | exact r38 | exact y_KM.z (by omega))
    · exact sj_X12_longOf_309K_J46 hfu r0 s15 c16 f18 a1 a2 1 (by omega) (by omega) (by omega) (by omega) (by omega) r34 (by first | exact r35 | exact y_DD.z (by omega) (by omega)) r36 (by first | exact r37 | exact y_K.b0 (by omega) | exact y_K.k0 (by omega) | exact y_K.bk (by omega)) (by first | exact r38 | exact y_KM.z (by omega))
theorem sj_X12_longOf_309K_J22 {fu : Nat} (hfu : 8589934592 ≤ fu) (r0 s : z_M) (c : z_CI s) (f : z_Fr R_X12_longOf_309 r0 s) (a1 : Int) (a2 : Int) (b1 : -2147483648 ≤ a1 ∧ a1 ≤ 2147483647) (b2 : -2147483648 ≤ a2 ∧ a2 ≤ 2147483647) (p0 : y_TA s) (p1 : y_DD s) (p2 : y_B s) (p3 : y_K s) (p4 : y_KM s) : z_T (fX12_longOf_J22 fu s 309 a1 a2 309) (P_X12_longOf_309K r0) := by
  refine T_of (fX12_longOf_J22.eq_1 ..) ?_
  have u1 := CI_b c (k := 309) (j := 20) bd_309_20
  have u2 := CI_b c (k := 309) (j := 36) bd_309_36
  have u3 := CI_b c (k := 309) (j := 43) bd_309_43
  have u4 := CI_b c (k := 309) (j := 44) bd_309_44
  have u5 := CI_b c (k := 309) (j := 58) bd_309_58
  have u6 := CI_b c (k := 316) (j := 0) bd_316_0
  have u7 := CI_b c (k := 329) (j := 0) bd_329_0
  have u8 := CI_b c (k := 329) (j := 1) bd_329_1
  have t9 : s 309 20 = r0 309 20 := f 309 20 (by decide)
  have t10 : s 309 44 = r0 309 44 := f 309 44 (by decide)
  have t11 : s 309 58 = r0 309 58 := f 309 58 (by decide)
  have t12 : s 316 0 = r0 316 0 := f 316 0 (by decide)
  have t13 : s 329 0 = r0 329 0 := f 329 0 (by decide)
  have t14 : s 329 1 = r0 329 1 := f 329 1 (by decide)
  exact sj_X12_longOf_309K_J27 hfu r0 s c f a1 a2 1 (by omega) (by omega) (by omega) (by omega) p0 (by first | exact p1 | exact y_DD.z (by omega) (by omega)) p2 (by first | exact p3 | exact y_K.b0 (by omega) | exact y_K.k0 (by omega) | exact y_K.bk (by omega)) (by first | exact p4 | exact y_KM.z (by omega))
theorem sf_X12_longOf_309K {fu : Nat} (hfu : 8589934592 ≤ fu) (r0 : z_M) (c0 : z_CI r0) (a1 : Int) (a2 : Int) (b1 : -2147483648 ≤ a1 ∧ a1 ≤ 2147483647) (b2 : -2147483648 ≤ a2 ∧ a2 ≤ 2147483647) (p0 : y_TA r0) (p1 : y_DD r0) (p2 : y_B r0) (p3 : y_K r0) (p4 : y_KM r0) : z_T (fX12_longOf fu r0 309 a1 a2) (P_X12_longOf_309K r0) := by
  refine T_of (fX12_longOf.eq_1 ..) ?_
  have u1 := CI_b c0 (k := 309) (j := 20) bd_309_20
  have u2 := CI_b c0 (k := 309) (j := 36) bd_309_36
  have u3 := CI_b c0 (k := 309) (j := 43) bd_309_43
  have u4 := CI_b c0 (k := 309) (j := 44) bd_309_44
  have u5 := CI_b c0 (k := 309) (j := 58) bd_309_58
  have u6 := CI_b c0 (k := 316) (j := 0) bd_316_0
  have u7 := CI_b c0 (k := 329) (j := 0) bd_329_0
  have u8 := CI_b c0 (k := 329) (j := 1) bd_329_1
  refine T_if1 (by decide +kernel) ?_
  refine T_upg c0 bd_309_0 (by omega) (fun s9 c10 g12 g13 e14 => ?_)
  have f11 := z_Fr.upf (R := R_X12_longOf_309) z_Fr.rf g12 g13 (Or.inr (Or.inr (⟨rfl, by decide⟩)))
  have t15 : s9 309 20 = r0 309 20 := g13 20 (by decide)
  have t16 : s9 309 36 = r0 309 36 := g13 36 (by decide)
  have t17 : s9 309 43 = r0 309 43 := g13 43 (by decide)
  have t18 : s9 309 44 = r0 309 44 := g13 44 (by decide)
  have t19 : s9 309 58 = r0 309 58 := g13 58 (by decide)
  have t20 : s9 316 0 = r0 316 0 := g12 316 0 (by decide)
  have t21 : s9 329 0 = r0 329 0 := g12 329 0 (by decide)
  have t22 : s9 329 1 = r0 329 1 := g12 329 1 (by decide)
  have r23 := y_TA.fr p0 (fun a b h => g12 a b (by omega)) (fun a b h => g12 a b (by omega)) (fun a b h => g12 a b (by omega))
  have r24 := y_DD.fr p1 (g12 329 0 (by decide)) (g12 329 1 (by decide)) (fun b => g12 359 b (by decide)) (fun b => g12 374 b (by decide))
  have r25 := y_B.fr p2 (g13 20 (by decide)) (g12 316 0 (by decide)) (fun b => g12 3220 b (by decide)) (fun b => g12 3221 b (by decide)) (fun b => g12 3222 b (by decide)) (fun b => g12 361 b (by decide))
  have r26 := y_K.fr p3 (by omega) (by omega) (g13 44 (by decide)) (g13 20 (by decide)) (g13 58 (by decide)) (fun b => g12 3438 b (by decide)) (fun b => g12 3220 b (by decide)) (fun a b h => g12 a b (by omega))
  have r27 := y_KM.fr p4 (g13 20 (by decide)) (g13 36 (by decide)) (g13 38 (by decide)) (g13 39 (by decide)) (fun b => g12 312 b (by decide)) (fun b => g12 331 b (by decide)) (fun b => g12 346 b (by decide)) (fun b => g12 361 b (by decide)) (fun b => g12 391 b (by decide)) (fun a b h => g12 a b (by omega)) (fun a b h => g12 a b (by omega)) (fun a b h => g12 a b (by omega))
  refine T_if1 (by decide +kernel) ?_
  refine T_useI (sf_X12_isUnit_309 hfu s9 c10 a1 (by omega)) (fun v33 s28 hq => ?_)
  obtain ⟨c29, f30, ⟨x32, rfl, b34, b35, o36⟩⟩ := hq
  refine T_vI ?_
  have q37 := z_Fr.eq (fun a b h => h) f30
  subst q37
  refine T_ite (fun h38 => ?_) (fun h38 => ?_)
  · exact sj_X12_longOf_309K_J22 hfu r0 s9 c10 f11 a1 a2 (by omega) (by omega) r23 (by first | exact r24 | exact y_DD.z (by omega) (by omega)) r25 (by first | exact r26 | exact y_K.b0 (by omega) | exact y_K.k0 (by omega) | exact y_K.bk (by omega)) (by first | exact r27 | exact y_KM.z (by omega))
  · refine T_if1 (by decide +kernel) ?_
    refine T_useI (sf_X12_isUnit_309 hfu s9 c10 a2 (by omega)) (fun v44 s39 hq => ?_)
    obtain ⟨c40, f41, ⟨x43, rfl, b45, b46, o47⟩⟩ := hq
    refine T_vI ?_
    have q48 := z_Fr.eq (fun a b h => h) f41
    subst q48
    refine T_ite (fun h49 => ?_) (fun h49 => ?_)
    · exact sj_X12_longOf_309K_J27 hfu r0 s9 c10 f11 a1 a2 0 (by omega) (by omega) (by omega) (by omega) r23 (by first | exact r24 | exact y_DD.z (by omega) (by omega)) r25 (by first | exact r26 | exact y_K.b0 (by omega) | exact y_K.k0 (by omega) | exact y_K.bk (by omega)) (by first | exact r27 | exact y_KM.z (by omega))
    · exact sj_X12_longOf_309K_J22 hfu r0 s9 c10 f11 a1 a2 (by omega) (by omega) r23 (by first | exact r24 | exact y_DD.z (by omega) (by omega)) r25 (by first | exact r26 | exact y_K.b0 (by omega) | exact y_K.k0 (by omega) | exact y_K.bk (by omega)) (by first | exact r27 | exact y_KM.z (by omega))
abbrev P_X12_lines_309K (r0 : z_M) : z_V → z_M → Prop := fun v s' => z_CI s' ∧ z_Fr R_X12_lines_309 r0 s' ∧ (y_TA s') ∧ (y_DD s') ∧ (y_B s') ∧ (y_K s') ∧ (y_KM s') ∧ (∃ x, v = vI x ∧ -2147483648 ≤ x ∧ x ≤ 2147483647)
theorem nz_X12_breaks_309__316_328 (a b : Int) (h : 316 ≤ a ∧ a ≤ 328) : ¬ R_X12_breaks_309 a b := by
  unfold R_X12_breaks_309; omega
theorem nz_X12_breaks_309__346_358 (a b : Int) (h : 346 ≤ a ∧ a ≤ 358) : ¬ R_X12_breaks_309 a b := by
  unfold R_X12_breaks_309; omega
theorem nz_X12_breaks_309__361_373 (a b : Int) (h : 361 ≤ a ∧ a ≤ 373) : ¬ R_X12_breaks_309 a b := by
  unfold R_X12_breaks_309; omega
theorem sj_X12_lines_309K_J32 {fu : Nat} (hfu : 8589934592 ≤ fu) (r0 s : z_M) (c : z_CI s) (f : z_Fr R_X12_lines_309 r0 s) (a1 : Int) (a2 : Int) (t1 : Int) (b1 : -2147483648 ≤ a1 ∧ a1 ≤ 2147483647) (b2 : -2147483648 ≤ a2 ∧ a2 ≤ 2147483647) (d1 : 0 ≤ t1 ∧ t1 ≤ 1) (p0 : y_TA s) (p1 : y_DD s) (p2 : y_B s) (p3 : y_K s) (p4 : y_KM s) : z_T (fX12_lines_J32 fu s 309 a1 a2 309 t1) (P_X12_lines_309K r0) := by
  refine T_of (fX12_lines_J32.eq_1 ..) ?_
  have u1 := CI_b c (k := 309) (j := 20) bd_309_20
  have u2 := CI_b c (k := 309) (j := 36) bd_309_36
  have u3 := CI_b c (k := 309) (j := 43) bd_309_43
  have u4 := CI_b c (k := 309) (j := 44) bd_309_44
  have u5 := CI_b c (k := 309) (j := 58) bd_309_58
  have u6 := CI_b c (k := 316) (j := 0) bd_316_0
  have u7 := CI_b c (k := 329) (j := 0) bd_329_0
  have u8 := CI_b c (k := 329) (j := 1) bd_329_1
  have t9 : s 309 20 = r0 309 20 := f 309 20 (by decide)
  have t10 : s 309 44 = r0 309 44 := f 309 44 (by decide)
  have t11 : s 309 58 = r0 309 58 := f 309 58 (by decide)
  have t12 : s 316 0 = r0 316 0 := f 316 0 (by decide)
  have t13 : s 329 0 = r0 329 0 := f 329 0 (by decide)
  have t14 : s 329 1 = r0 329 1 := f 329 1 (by decide)
  refine T_if1 (by decide +kernel) ?_
  refine T_useI (sf_X12_bad_309 hfu s c t1 1 1 (by omega) (by omega) (by omega) (by omega)) (fun v20 s15 hq => ?_)
  obtain ⟨c16, f17, o21, ⟨x19, rfl, b22, b23, o24, o25⟩⟩ := hq
  refine T_vI ?_
  have f18 := z_Fr.tr (R := R_X12_lines_309) f f17 rs_X12_bad_309__X12_lines_309
  have t26 : s15 309 20 = s 309 20 := f17 309 20 (by decide)
  have t27 : s15 309 36 = s 309 36 := f17 309 36 (by decide)
  have t28 : s15 309 43 = s 309 43 := f17 309 43 (by decide)
  have t29 : s15 309 44 = s 309 44 := f17 309 44 (by decide)
  have t30 : s15 309 58 = s 309 58 := f17 309 58 (by decide)
  have t31 : s15 316 0 = s 316 0 := f17 316 0 (by decide)
  have t32 : s15 329 0 = s 329 0 := f17 329 0 (by decide)
  have t33 : s15 329 1 = s 329 1 := f17 329 1 (by decide)
  have r34 := y_TA.fr p0 (fun a b h => f17 a b (nz_X12_bad_309__316_328 a b h)) (fun a b h => f17 a b (nz_X12_bad_309__346_358 a b h)) (fun a b h => f17 a b (nz_X12_bad_309__361_373 a b h))
  have r35 := y_DD.fr p1 (f17 329 0 (by decide)) (f17 329 1 (by decide)) (fun b => f17 359 b (nr_X12_bad_309__359 b)) (fun b => f17 374 b (nr_X12_bad_309__374 b))
  have r36 := y_B.fr p2 (f17 309 20 (by decide)) (f17 316 0 (by decide)) (fun b => f17 3220 b (nr_X12_bad_309__3220 b)) (fun b => f17 3221 b (nr_X12_bad_309__3221 b)) (fun b => f17 3222 b (nr_X12_bad_309__3222 b)) (fun b => f17 361 b (nr_X12_bad_309__361 b))
  have r37 := y_K.fr p3 (by omega) (by omega) (f17 309 44 (by decide)) (f17 309 20 (by decide)) (f17 309 58 (by decide)) (fun b => f17 3438 b (nr_X12_bad_309__3438 b)) (fun b => f17 3220 b (nr_X12_bad_309__3220 b)) (fun a b h => f17 a b (nz_X12_bad_309__3452_3651 a b h))
  have r38 := y_KM.fr p4 (f17 309 20 (by decide)) (f17 309 36 (by decide)) (f17 309 38 (by decide)) (f17 309 39 (by decide)) (fun b => f17 312 b (nr_X12_bad_309__312 b)) (fun b => f17 331 b (nr_X12_bad_309__331 b)) (fun b => f17 346 b (nr_X12_bad_309__346 b)) (fun b => f17 361 b (nr_X12_bad_309__361 b)) (fun b => f17 391 b (nr_X12_bad_309__391 b)) (fun a b h => f17 a b (nz_X12_bad_309__407_606 a b h)) (fun a b h => f17 a b (nz_X12_bad_309__3220_3223 a b h)) (fun a b h => f17 a b (nz_X12_bad_309__3235_3437 a b h))
  refine T_ite (fun h39 => ?_) (fun h39 => ?_)
  · refine T_if1 (by decide +kernel) ?_
    refine T_useI (sf_X12_breaks_309K hfu s15 c16 a1 a2 (by omega) (by omega) r36 (by first | exact r38 | exact y_KM.z (by omega))) (fun v45 s40 hq => ?_)
    obtain ⟨c41, f42, o46, o47, o48, ⟨x44, rfl, b49, b50, o51⟩⟩ := hq
    refine T_vI ?_
    have f43 := z_Fr.tr (R := R_X12_lines_309) f18 f42 rs_X12_breaks_309__X12_lines_309
    have t52 : s40 309 20 = s 309 20 := (f42 309 20 (by decide)).trans t26
    have t53 : s40 309 44 = s 309 44 := (f42 309 44 (by decide)).trans t29
    have t54 : s40 309 58 = s 309 58 := (f42 309 58 (by decide)).trans t30
    have t55 : s40 316 0 = s 316 0 := (f42 316 0 (by decide)).trans t31
    have t56 : s40 329 0 = s 329 0 := (f42 329 0 (by decide)).trans t32
    have t57 : s40 329 1 = s 329 1 := (f42 329 1 (by decide)).trans t33
    have u58 := CI_b c41 (k := 309) (j := 36) bd_309_36
    have u59 := CI_b c41 (k := 309) (j := 43) bd_309_43
    have r60 := y_TA.fr r34 (fun a b h => f42 a b (nz_X12_breaks_309__316_328 a b h)) (fun a b h => f42 a b (nz_X12_breaks_309__346_358 a b h)) (fun a b h => f42 a b (nz_X12_breaks_309__361_373 a b h))
    have r61 := y_DD.fr r35 (f42 329 0 (by decide)) (f42 329 1 (by decide)) (fun b => f42 359 b (nr_X12_breaks_309__359 b)) (fun b => f42 374 b (nr_X12_breaks_309__374 b))
    have r62 := y_B.fr r36 (f42 309 20 (by decide)) (f42 316 0 (by decide)) (fun b => f42 3220 b (nr_X12_breaks_309__3220 b)) (fun b => f42 3221 b (nr_X12_breaks_309__3221 b)) (fun b => f42 3222 b (nr_X12_breaks_309__3222 b)) (fun b => f42 361 b (nr_X12_breaks_309__361 b))
    clear t26
    clear t29
    clear t30
    clear t31
    clear t32
    clear t33
    refine T_if1 ⟨(by decide +kernel), by unfold z_bl; omega⟩ ?_
    refine T_upg c41 bd_309_43 (by omega) (fun s63 c64 g66 g67 e68 => ?_)
    have f65 := z_Fr.upf (R := R_X12_lines_309) f43 g66 g67 (Or.inr (Or.inr (⟨rfl, by decide⟩)))
    have t69 : s63 309 20 = s 309 20 := (g67 20 (by decide)).trans t52
    have t70 : s63 309 36 = s40 309 36 := g67 36 (by decide)
    have t71 : s63 309 44 = s 309 44 := (g67 44 (by decide)).trans t53
    have t72 : s63 309 58 = s 309 58 := (g67 58 (by decide)).trans t54
    have t73 : s63 316 0 = s 316 0 := (g66 316 0 (by decide)).trans t55
    have t74 : s63 329 0 = s 329 0 := (g66 329 0 (by decide)).trans t56
    have t75 : s63 329 1 = s 329 1 := (g66 329 1 (by decide)).trans t57
    have u76 := CI_b c64 (k := 309) (j := 43) bd_309_43
    have r77 := y_TA.fr r60 (fun a b h => g66 a b (by omega)) (fun a b h => g66 a b (by omega)) (fun a b h => g66 a b (by omega))
    have r78 := y_DD.fr r61 (g66 329 0 (by decide)) (g66 329 1 (by decide)) (fun b => g66 359 b (by decide)) (fun b => g66 374 b (by decide))
    have r79 := y_B.fr r62 (g67 20 (by decide)) (g66 316 0 (by decide)) (fun b => g66 3220 b (by decide)) (fun b => g66 3221 b (by decide)) (fun b => g66 3222 b (by decide)) (fun b => g66 361 b (by decide))
    have r80 := y_KM.fr o48 (g67 20 (by decide)) (g67 36 (by decide)) (g67 38 (by decide)) (g67 39 (by decide)) (fun b => g66 312 b (by decide)) (fun b => g66 331 b (by decide)) (fun b => g66 346 b (by decide)) (fun b => g66 361 b (by decide)) (fun b => g66 391 b (by decide)) (fun a b h => g66 a b (by omega)) (fun a b h => g66 a b (by omega)) (fun a b h => g66 a b (by omega))
    have r81 := y_L.fr o51 (g67 20 (by decide)) (fun b => g66 3438 b (by decide))
    clear t52
    clear t53
    clear t54
    clear t55
    clear t56
    clear t57
    exact T_ret ⟨c64, f65, r77, (by first | exact r78 | exact y_DD.z (by omega) (by omega)), r79, (by first | exact y_K.b0 (by omega) | exact y_K.k0 (by omega) | exact y_K.bk (by omega)), (by first | exact r80 | exact y_KM.z (by omega)), ⟨x44, rfl, by omega, by omega⟩⟩
  · exact T_ret ⟨c16, f18, r34, (by first | exact r35 | exact y_DD.z (by omega) (by omega)), r36, (by first | exact r37 | exact y_K.b0 (by omega) | exact y_K.k0 (by omega) | exact y_K.bk (by omega)), (by first | exact r38 | exact y_KM.z (by omega)), ⟨0, rfl, by omega, by omega⟩⟩
theorem sj_X12_lines_309K_J27 {fu : Nat} (hfu : 8589934592 ≤ fu) (r0 s : z_M) (c : z_CI s) (f : z_Fr R_X12_lines_309 r0 s) (a1 : Int) (a2 : Int) (b1 : -2147483648 ≤ a1 ∧ a1 ≤ 2147483647) (b2 : -2147483648 ≤ a2 ∧ a2 ≤ 2147483647) (p0 : y_TA s) (p1 : y_DD s) (p2 : y_B s) (p3 : y_K s) (p4 : y_KM s) : z_T (fX12_lines_J27 fu s 309 a1 a2 309) (P_X12_lines_309K r0) := by
  refine T_of (fX12_lines_J27.eq_1 ..) ?_
  have u1 := CI_b c (k := 309) (j := 20) bd_309_20
  have u2 := CI_b c (k := 309) (j := 36) bd_309_36
  have u3 := CI_b c (k := 309) (j := 43) bd_309_43
  have u4 := CI_b c (k := 309) (j := 44) bd_309_44
  have u5 := CI_b c (k := 309) (j := 58) bd_309_58
  have u6 := CI_b c (k := 316) (j := 0) bd_316_0
  have u7 := CI_b c (k := 329) (j := 0) bd_329_0
  have u8 := CI_b c (k := 329) (j := 1) bd_329_1
  have t9 : s 309 20 = r0 309 20 := f 309 20 (by decide)
  have t10 : s 309 44 = r0 309 44 := f 309 44 (by decide)
  have t11 : s 309 58 = r0 309 58 := f 309 58 (by decide)
  have t12 : s 316 0 = r0 316 0 := f 316 0 (by decide)
  have t13 : s 329 0 = r0 329 0 := f 329 0 (by decide)
  have t14 : s 329 1 = r0 329 1 := f 329 1 (by decide)
  exact sj_X12_lines_309K_J32 hfu r0 s c f a1 a2 1 (by omega) (by omega) (by omega) p0 (by first | exact p1 | exact y_DD.z (by omega) (by omega)) p2 (by first | exact p3 | exact y_K.b0 (by omega) | exact y_K.k0 (by omega) | exact y_K.bk (by omega)) (by first | exact p4 | exact y_KM.z (by omega))
theorem sf_X12_lines_309K {fu : Nat} (hfu : 8589934592 ≤ fu) (r0 : z_M) (c0 : z_CI r0) (a1 : Int) (a2 : Int) (b1 : -2147483648 ≤ a1 ∧ a1 ≤ 2147483647) (b2 : -2147483648 ≤ a2 ∧ a2 ≤ 2147483647) (p0 : y_TA r0) (p1 : y_DD r0) (p2 : y_B r0) (p3 : y_K r0) (p4 : y_KM r0) : z_T (fX12_lines fu r0 309 a1 a2) (P_X12_lines_309K r0) := by
  refine T_of (fX12_lines.eq_1 ..) ?_
  have u1 := CI_b c0 (k := 309) (j := 20) bd_309_20
  have u2 := CI_b c0 (k := 309) (j := 36) bd_309_36
  have u3 := CI_b c0 (k := 309) (j := 43) bd_309_43
  have u4 := CI_b c0 (k := 309) (j := 44) bd_309_44
  have u5 := CI_b c0 (k := 309) (j := 58) bd_309_58
  have u6 := CI_b c0 (k := 316) (j := 0) bd_316_0
  have u7 := CI_b c0 (k := 329) (j := 0) bd_329_0
  have u8 := CI_b c0 (k := 329) (j := 1) bd_329_1
  refine T_if1 (by decide +kernel) ?_
  refine T_upg c0 bd_309_0 (by omega) (fun s9 c10 g12 g13 e14 => ?_)
  have f11 := z_Fr.upf (R := R_X12_lines_309) z_Fr.rf g12 g13 (Or.inr (Or.inr (⟨rfl, by decide⟩)))
  have t15 : s9 309 20 = r0 309 20 := g13 20 (by decide)
  have t16 : s9 309 36 = r0 309 36 := g13 36 (by decide)
  have t17 : s9 309 43 = r0 309 43 := g13 43 (by decide)
  have t18 : s9 309 44 = r0 309 44 := g13 44 (by decide)
  have t19 : s9 309 58 = r0 309 58 := g13 58 (by decide)
  have t20 : s9 316 0 = r0 316 0 := g12 316 0 (by decide)
  have t21 : s9 329 0 = r0 329 0 := g12 329 0 (by decide)
  have t22 : s9 329 1 = r0 329 1 := g12 329 1 (by decide)
  have r23 := y_TA.fr p0 (fun a b h => g12 a b (by omega)) (fun a b h => g12 a b (by omega)) (fun a b h => g12 a b (by omega))
  have r24 := y_DD.fr p1 (g12 329 0 (by decide)) (g12 329 1 (by decide)) (fun b => g12 359 b (by decide)) (fun b => g12 374 b (by decide))
  have r25 := y_B.fr p2 (g13 20 (by decide)) (g12 316 0 (by decide)) (fun b => g12 3220 b (by decide)) (fun b => g12 3221 b (by decide)) (fun b => g12 3222 b (by decide)) (fun b => g12 361 b (by decide))
  have r26 := y_K.fr p3 (by omega) (by omega) (g13 44 (by decide)) (g13 20 (by decide)) (g13 58 (by decide)) (fun b => g12 3438 b (by decide)) (fun b => g12 3220 b (by decide)) (fun a b h => g12 a b (by omega))
  have r27 := y_KM.fr p4 (g13 20 (by decide)) (g13 36 (by decide)) (g13 38 (by decide)) (g13 39 (by decide)) (fun b => g12 312 b (by decide)) (fun b => g12 331 b (by decide)) (fun b => g12 346 b (by decide)) (fun b => g12 361 b (by decide)) (fun b => g12 391 b (by decide)) (fun a b h => g12 a b (by omega)) (fun a b h => g12 a b (by omega)) (fun a b h => g12 a b (by omega))
  refine T_useI (sf_X12_in hfu s9 c10 a1 12 999 (by omega) (by omega) (by omega)) (fun v33 s28 hq => ?_)
  obtain ⟨c29, f30, ⟨x32, rfl, b34, b35, o36⟩⟩ := hq
  refine T_vI ?_
  have q37 := z_Fr.eq (fun a b h => h) f30
  subst q37
  refine T_ite (fun h38 => ?_) (fun h38 => ?_)
  · exact sj_X12_lines_309K_J27 hfu r0 s9 c10 f11 a1 a2 (by omega) (by omega) r23 (by first | exact r24 | exact y_DD.z (by omega) (by omega)) r25 (by first | exact r26 | exact y_K.b0 (by omega) | exact y_K.k0 (by omega) | exact y_K.bk (by omega)) (by first | exact r27 | exact y_KM.z (by omega))
  · refine T_useI (sf_X12_in hfu s9 c10 a2 0 1 (by omega) (by omega) (by omega)) (fun v44 s39 hq => ?_)
    obtain ⟨c40, f41, ⟨x43, rfl, b45, b46, o47⟩⟩ := hq
    refine T_vI ?_
    have q48 := z_Fr.eq (fun a b h => h) f41
    subst q48
    refine T_ite (fun h49 => ?_) (fun h49 => ?_)
    · exact sj_X12_lines_309K_J32 hfu r0 s9 c10 f11 a1 a2 0 (by omega) (by omega) (by omega) r23 (by first | exact r24 | exact y_DD.z (by omega) (by omega)) r25 (by first | exact r26 | exact y_K.b0 (by omega) | exact y_K.k0 (by omega) | exact y_K.bk (by omega)) (by first | exact r27 | exact y_KM.z (by omega))
    · exact sj_X12_lines_309K_J27 hfu r0 s9 c10 f11 a1 a2 (by omega) (by omega) r23 (by first | exact r24 | exact y_DD.z (by omega) (by omega)) r25 (by first | exact r26 | exact y_K.b0 (by omega) | exact y_K.k0 (by omega) | exact y_K.bk (by omega)) (by first | exact r27 | exact y_KM.z (by omega))
abbrev P_X12_least_309K (r0 : z_M) : z_V → z_M → Prop := fun v s' => z_CI s' ∧ z_Fr R_X12_least_309 r0 s' ∧ (y_TA s') ∧ (y_DD s') ∧ (y_B s') ∧ (y_K s') ∧ (y_KM s') ∧ (∃ x, v = vI x ∧ -2147483648 ≤ x ∧ x ≤ 2147483647)
theorem sj_X12_least_309K_J116 {fu : Nat} (hfu : 8589934592 ≤ fu) (r0 s : z_M) (c : z_CI s) (f : z_Fr R_X12_least_309 r0 s) (a1 : Int) (a2 : Int) (a3 : Int) (a5 : Int) (t0 : Int) (b1 : -2147483648 ≤ a1 ∧ a1 ≤ 2147483647) (b2 : 12 ≤ a2 ∧ a2 ≤ 999) (b3 : 0 ≤ a3 ∧ a3 ≤ 200) (b5 : 0 ≤ a5 ∧ a5 ≤ 199) (d0 : 0 ≤ t0 ∧ t0 ≤ 1) (p0 : s 309 43 = 0 ∨ s 309 36 = 0) (p1 : y_L s a3) (p2 : y_TA s) (p3 : y_DD s) (p4 : y_B s) (p5 : y_K s) (p6 : y_KM s) (M : Int) (pm : 2147483647 - a5 ≤ M) {r : z_M → Int → Int → z_O} {k : z_M → Int → z_O} (hr : ∀ (s' : z_M) (v4 : Int) (v5 : Int), z_CI s' → z_Fr R_X12_least_309 r0 s' → (0 ≤ v4 ∧ v4 ≤ 1) → (0 ≤ v5 ∧ v5 ≤ 200) → (s' 309 43 = 0 ∨ s' 309 36 = 0) → (y_L s' a3) → (y_TA s') → (y_DD s') → (y_B s') → (y_K s') → (y_KM s') → (2147483647 - v5 < M) → z_T (r s' v4 v5) (P_X12_least_309K r0)) (hk : ∀ (s' : z_M) (v4 : Int), z_CI s' → z_Fr R_X12_least_309 r0 s' → (0 ≤ v4 ∧ v4 ≤ 1) → (s' 309 43 = 0 ∨ s' 309 36 = 0) → (y_TA s') → (y_DD s') → (y_B s') → (y_K s') → (y_KM s') → z_T (k s' v4) (P_X12_least_309K r0)) : z_T (fX12_least_J116 fu s 309 a1 a2 a3 a5 t0 r k) (P_X12_least_309K r0) := by
  refine T_of (fX12_least_J116.eq_1 ..) ?_
  have u1 := CI_b c (k := 309) (j := 20) bd_309_20
  have u2 := CI_b c (k := 309) (j := 36) bd_309_36
  have u3 := CI_b c (k := 309) (j := 43) bd_309_43
  have u4 := CI_b c (k := 309) (j := 44) bd_309_44
  have u5 := CI_b c (k := 309) (j := 58) bd_309_58
  have u6 := CI_b c (k := 316) (j := 0) bd_316_0
  have u7 := CI_b c (k := 329) (j := 0) bd_329_0
  have u8 := CI_b c (k := 329) (j := 1) bd_329_1
  have t9 : s 309 20 = r0 309 20 := f 309 20 (by decide)
  have t10 : s 309 44 = r0 309 44 := f 309 44 (by decide)
  have t11 : s 309 58 = r0 309 58 := f 309 58 (by decide)
  have t12 : s 316 0 = r0 316 0 := f 316 0 (by decide)
  have t13 : s 329 0 = r0 329 0 := f 329 0 (by decide)
  have t14 : s 329 1 = r0 329 1 := f 329 1 (by decide)
  refine T_leq (fun x15 e16 => ?_)
  first | (have w17 := z_wx e16 (by omega)) | (have w17 := z_wr e16)
  exact hr s t0 x15 c f (by omega) (by omega) (by omega) (by first | exact y_L.cg p1 (by omega) | exact y_K.L p5 (by omega) (by omega)) p2 (by first | exact p3 | exact y_DD.z (by omega) (by omega)) p4 (by first | exact p5 | exact y_K.b0 (by omega) | exact y_K.k0 (by omega) | exact y_K.bk (by omega)) (by first | exact p6 | exact y_KM.z (by omega)) (by omega)
theorem sl_X12_least_309K_L74 {fu : Nat} (hfu : 8589934592 ≤ fu) (r0 : z_M) (a1 : Int) (a2 : Int) (a3 : Int) (b1 : -2147483648 ≤ a1 ∧ a1 ≤ 2147483647) (b2 : 12 ≤ a2 ∧ a2 ≤ 999) (b3 : 0 ≤ a3 ∧ a3 ≤ 200) {k : z_M → Int → z_O} (hk : ∀ (s' : z_M) (v4 : Int), z_CI s' → z_Fr R_X12_least_309 r0 s' → (0 ≤ v4 ∧ v4 ≤ 1) → (s' 309 43 = 0 ∨ s' 309 36 = 0) → (y_TA s') → (y_DD s') → (y_B s') → (y_K s') → (y_KM s') → z_T (k s' v4) (P_X12_least_309K r0)) : ∀ (F : Nat) (s : z_M) (a4 : Int) (a5 : Int), z_CI s → z_Fr R_X12_least_309 r0 s → (0 ≤ a4 ∧ a4 ≤ 1) → (0 ≤ a5 ∧ a5 ≤ 200) → (s 309 43 = 0 ∨ s 309 36 = 0) → (y_L s a3) → (y_TA s) → (y_DD s) → (y_B s) → (y_K s) → (y_KM s) → (2147483647 - a5 < (F : Int)) → z_T (fX12_least_L74 fu 309 a1 a2 a3 F s a4 a5 k) (P_X12_least_309K r0) := by
  intro F
  induction F with
  | zero =>
    intro s a4 a5 c f b4 b5 i0 i1 i2 i3 i4 i5 i6 hm
    have u56 := CI_b c (k := 309) (j := 20) bd_309_20
    have u57 := CI_b c (k := 309) (j := 36) bd_309_36
    have u58 := CI_b c (k := 309) (j := 43) bd_309_43
    have u59 := CI_b c (k := 309) (j := 44) bd_309_44
    have u60 := CI_b c (k := 309) (j := 58) bd_309_58
    have u61 := CI_b c (k := 316) (j := 0) bd_316_0
    have u62 := CI_b c (k := 329) (j := 0) bd_329_0
    have u63 := CI_b c (k := 329) (j := 1) bd_329_1
    exfalso; omega
  | succ F ih =>
    intro s a4 a5 c f b4 b5 i0 i1 i2 i3 i4 i5 i6 hm
    refine T_of (fX12_least_L74.eq_2 ..) ?_
    have u1 := CI_b c (k := 309) (j := 20) bd_309_20
    have u2 := CI_b c (k := 309) (j := 36) bd_309_36
    have u3 := CI_b c (k := 309) (j := 43) bd_309_43
    have u4 := CI_b c (k := 309) (j := 44) bd_309_44
    have u5 := CI_b c (k := 309) (j := 58) bd_309_58
    have u6 := CI_b c (k := 316) (j := 0) bd_316_0
    have u7 := CI_b c (k := 329) (j := 0) bd_329_0
    have u8 := CI_b c (k := 329) (j := 1) bd_329_1
    have t9 : s 309 20 = r0 309 20 := f 309 20 (by decide)
    have t10 : s 309 44 = r0 309 44 := f 309 44 (by decide)
    have t11 : s 309 58 = r0 309 58 := f 309 58 (by decide)
    have t12 : s 316 0 = r0 316 0 := f 316 0 (by decide)
    have t13 : s 329 0 = r0 329 0 := f 329 0 (by decide)
    have t14 : s 329 1 = r0 329 1 := f 329 1 (by decide)
    refine T_ite (fun h15 => ?_) (fun h15 => ?_)
    · exact hk s a4 c f (by omega) (by omega) i2 (by first | exact i3 | exact y_DD.z (by omega) (by omega)) i4 (by first | exact i5 | exact y_K.b0 (by omega) | exact y_K.k0 (by omega) | exact y_K.bk (by omega)) (by first | exact i6 | exact y_KM.z (by omega))
    · refine T_ite (fun h16 => ?_) (fun h16 => ?_)
      · exact hk s a4 c f (by omega) (by omega) i2 (by first | exact i3 | exact y_DD.z (by omega) (by omega)) i4 (by first | exact i5 | exact y_K.b0 (by omega) | exact y_K.k0 (by omega) | exact y_K.bk (by omega)) (by first | exact i6 | exact y_KM.z (by omega))
      · refine T_if1 (by decide +kernel) ?_
        refine T_let 3438 (by decide +kernel) ?_
        refine T_if1 (z_ixl (n := 201) (by decide +kernel) (by omega) (by omega)) ?_
        refine T_leq (fun x17 e18 => ?_)
        have u19 := CI_b c (k := 3438) (j := a5) (bdr_3438 a5)
        refine T_if1 (by decide +kernel) ?_
        refine T_let 3438 (by decide +kernel) ?_
        refine T_leq (fun x20 e21 => ?_)
        first | (have w22 := z_wx e21 (by omega)) | (have w22 := z_wr e21)
        have n23 := y_L.at i1 (i := a5) (j := x20) (by omega) (by omega) (by omega)
        refine T_if1 (z_ixl (n := 201) (by decide +kernel) (by omega) (by omega)) ?_
        refine T_leq (fun x24 e25 => ?_)
        have u26 := CI_b c (k := 3438) (j := x20) (bdr_3438 x20)
        refine T_leq (fun x27 e28 => ?_)
        first | (have w29 := z_wx e28 (by omega)) | (have w29 := z_wr e28)
        refine T_if1 (by decide +kernel) ?_
        refine T_useI (sf_X12_longAs_309K hfu s c x17 x27 (by omega) (by omega) i4 (by omega) (by omega) (by first | exact i6 | exact y_KM.z (by omega))) (fun v35 s30 hq => ?_)
        obtain ⟨c31, f32, o36, o37, o38, o39, ⟨x34, rfl, b40, b41⟩⟩ := hq
        refine T_vI ?_
        have f33 := z_Fr.tr (R := R_X12_least_309) f f32 rs_X12_longAs_309__X12_least_309
        have t42 : s30 309 20 = s 309 20 := f32 309 20 (by decide)
        have t43 : s30 309 44 = s 309 44 := f32 309 44 (by decide)
        have t44 : s30 309 58 = s 309 58 := f32 309 58 (by decide)
        have t45 : s30 316 0 = s 316 0 := f32 316 0 (by decide)
        have t46 : s30 329 0 = s 329 0 := f32 329 0 (by decide)
        have t47 : s30 329 1 = s 329 1 := f32 329 1 (by decide)
        have u48 := CI_b c31 (k := 309) (j := 36) bd_309_36
        have u49 := CI_b c31 (k := 309) (j := 43) bd_309_43
        have r50 := y_L.fr i1 (f32 309 20 (by decide)) (fun b => f32 3438 b (nr_X12_longAs_309__3438 b))
        have r51 := y_TA.fr i2 (fun a b h => f32 a b (nz_X12_longAs_309__316_328 a b h)) (fun a b h => f32 a b (nz_X12_longAs_309__346_358 a b h)) (fun a b h => f32 a b (nz_X12_longAs_309__361_373 a b h))
        have r52 := y_DD.fr i3 (f32 329 0 (by decide)) (f32 329 1 (by decide)) (fun b => f32 359 b (nr_X12_longAs_309__359 b)) (fun b => f32 374 b (nr_X12_longAs_309__374 b))
        have r53 := y_B.fr i4 (f32 309 20 (by decide)) (f32 316 0 (by decide)) (fun b => f32 3220 b (nr_X12_longAs_309__3220 b)) (fun b => f32 3221 b (nr_X12_longAs_309__3221 b)) (fun b => f32 3222 b (nr_X12_longAs_309__3222 b)) (fun b => f32 361 b (nr_X12_longAs_309__361 b))
        have r54 := y_K.fr i5 (by omega) (by omega) (f32 309 44 (by decide)) (f32 309 20 (by decide)) (f32 309 58 (by decide)) (fun b => f32 3438 b (nr_X12_longAs_309__3438 b)) (fun b => f32 3220 b (nr_X12_longAs_309__3220 b)) (fun a b h => f32 a b (nz_X12_longAs_309__3452_3651 a b h))
        refine T_ite (fun h55 => ?_) (fun h55 => ?_)
        · exact sj_X12_least_309K_J116 hfu r0 s30 c31 f33 a1 a2 a3 a5 0 (by omega) (by omega) (by omega) (by omega) (by omega) (by omega) (by first | exact y_L.cg r50 (by omega) | exact y_K.L r54 (by omega) (by omega)) r51 (by first | exact r52 | exact y_DD.z (by omega) (by omega)) r53 (by first | exact r54 | exact y_K.b0 (by omega) | exact y_K.k0 (by omega) | exact y_K.bk (by omega)) (by first | exact o39 | exact y_KM.z (by omega)) (2147483647 - a5) (by omega) (fun s' v4 v5 c' f' w4 w5 z0 z1 z2 z3 z4 z5 z6 pg => ih s' v4 v5 c' f' w4 w5 z0 z1 z2 z3 z4 z5 z6 (by omega)) hk
        · exact sj_X12_least_309K_J116 hfu r0 s30 c31 f33 a1 a2 a3 a5 1 (by omega) (by omega) (by omega) (by omega) (by omega) (by omega) (by first | exact y_L.cg r50 (by omega) | exact y_K.L r54 (by omega) (by omega)) r51 (by first | exact r52 | exact y_DD.z (by omega) (by omega)) r53 (by first | exact r54 | exact y_K.b0 (by omega) | exact y_K.k0 (by omega) | exact y_K.bk (by omega)) (by first | exact o39 | exact y_KM.z (by omega)) (2147483647 - a5) (by omega) (fun s' v4 v5 c' f' w4 w5 z0 z1 z2 z3 z4 z5 z6 pg => ih s' v4 v5 c' f' w4 w5 z0 z1 z2 z3 z4 z5 z6 (by omega)) hk
theorem sj_X12_least_309K_J124 {fu : Nat} (hfu : 8589934592 ≤ fu) (r0 s : z_M) (c : z_CI s) (f : z_Fr R_X12_least_309 r0 s) (a1 : Int) (a2 : Int) (a4 : Int) (b1 : -2147483648 ≤ a1 ∧ a1 ≤ 2147483647) (b2 : 12 ≤ a2 ∧ a2 ≤ 999) (b4 : 0 ≤ a4 ∧ a4 ≤ 1) (p0 : s 309 43 = 0 ∨ s 309 36 = 0) (p1 : y_TA s) (p2 : y_DD s) (p3 : y_B s) (p4 : y_K s) (p5 : y_KM s) (M : Int) (pm : 2147483647 - a2 ≤ M) {r : z_M → Int → z_O} {k : z_M → z_O} (hr : ∀ (s' : z_M) (v2 : Int), z_CI s' → z_Fr R_X12_least_309 r0 s' → (12 ≤ v2 ∧ v2 ≤ 1000) → (s' 309 43 = 0 ∨ s' 309 36 = 0) → (y_TA s') → (y_DD s') → (y_B s') → (y_K s') → (y_KM s') → (2147483647 - v2 < M) → z_T (r s' v2) (P_X12_least_309K r0)) (hk : ∀ (s' : z_M), z_CI s' → z_Fr R_X12_least_309 r0 s' → (y_TA s') → (y_DD s') → (y_B s') → (y_K s') → (y_KM s') → z_T (k s') (P_X12_least_309K r0)) : z_T (fX12_least_J124 fu s 309 a1 a2 a4 r k) (P_X12_least_309K r0) := by
  refine T_of (fX12_least_J124.eq_1 ..) ?_
  have u1 := CI_b c (k := 309) (j := 20) bd_309_20
  have u2 := CI_b c (k := 309) (j := 36) bd_309_36
  have u3 := CI_b c (k := 309) (j := 43) bd_309_43
  have u4 := CI_b c (k := 309) (j := 44) bd_309_44
  have u5 := CI_b c (k := 309) (j := 58) bd_309_58
  have u6 := CI_b c (k := 316) (j := 0) bd_316_0
  have u7 := CI_b c (k := 329) (j := 0) bd_329_0
  have u8 := CI_b c (k := 329) (j := 1) bd_329_1
  have t9 : s 309 20 = r0 309 20 := f 309 20 (by decide)
  have t10 : s 309 44 = r0 309 44 := f 309 44 (by decide)
  have t11 : s 309 58 = r0 309 58 := f 309 58 (by decide)
  have t12 : s 316 0 = r0 316 0 := f 316 0 (by decide)
  have t13 : s 329 0 = r0 329 0 := f 329 0 (by decide)
  have t14 : s 329 1 = r0 329 1 := f 329 1 (by decide)
  refine T_ite (fun h15 => ?_) (fun h15 => ?_)
  · refine T_leq (fun x16 e17 => ?_)
    first | (have w18 := z_wx e17 (by omega)) | (have w18 := z_wr e17)
    exact hr s x16 c f (by omega) (by omega) p1 (by first | exact p2 | exact y_DD.z (by omega) (by omega)) p3 (by first | exact p4 | exact y_K.b0 (by omega) | exact y_K.k0 (by omega) | exact y_K.bk (by omega)) (by first | exact p5 | exact y_KM.z (by omega)) (by omega)
  · exact T_ret ⟨c, f, p1, (by first | exact p2 | exact y_DD.z (by omega) (by omega)), p3, (by first | exact p4 | exact y_K.b0 (by omega) | exact y_K.k0 (by omega) | exact y_K.bk (by omega)), (by first | exact p5 | exact y_KM.z (by omega)), ⟨a2, rfl, by omega, by omega⟩⟩
theorem sj_X12_least_309K_J69 {fu : Nat} (hfu : 8589934592 ≤ fu) (r0 s : z_M) (c : z_CI s) (f : z_Fr R_X12_least_309 r0 s) (a1 : Int) (a2 : Int) (a3 : Int) (t0 : Int) (b1 : -2147483648 ≤ a1 ∧ a1 ≤ 2147483647) (b2 : 12 ≤ a2 ∧ a2 ≤ 999) (b3 : 0 ≤ a3 ∧ a3 ≤ 200) (d0 : 0 ≤ t0 ∧ t0 ≤ 1) (p0 : s 309 43 = 0 ∨ s 309 36 = 0) (p1 : y_L s a3) (p2 : y_TA s) (p3 : y_DD s) (p4 : y_B s) (p5 : y_K s) (p6 : y_KM s) (M : Int) (pm : 2147483647 - a2 ≤ M) {r : z_M → Int → z_O} {k : z_M → z_O} (hr : ∀ (s' : z_M) (v2 : Int), z_CI s' → z_Fr R_X12_least_309 r0 s' → (12 ≤ v2 ∧ v2 ≤ 1000) → (s' 309 43 = 0 ∨ s' 309 36 = 0) → (y_TA s') → (y_DD s') → (y_B s') → (y_K s') → (y_KM s') → (2147483647 - v2 < M) → z_T (r s' v2) (P_X12_least_309K r0)) (hk : ∀ (s' : z_M), z_CI s' → z_Fr R_X12_least_309 r0 s' → (y_TA s') → (y_DD s') → (y_B s') → (y_K s') → (y_KM s') → z_T (k s') (P_X12_least_309K r0)) : z_T (fX12_least_J69 fu s 309 a1 a2 a3 t0 r k) (P_X12_least_309K r0) := by
  refine T_of (fX12_least_J69.eq_1 ..) ?_
  have u1 := CI_b c (k := 309) (j := 20) bd_309_20
  have u2 := CI_b c (k := 309) (j := 36) bd_309_36
  have u3 := CI_b c (k := 309) (j := 43) bd_309_43
  have u4 := CI_b c (k := 309) (j := 44) bd_309_44
  have u5 := CI_b c (k := 309) (j := 58) bd_309_58
  have u6 := CI_b c (k := 316) (j := 0) bd_316_0
  have u7 := CI_b c (k := 329) (j := 0) bd_329_0
  have u8 := CI_b c (k := 329) (j := 1) bd_329_1
  have t9 : s 309 20 = r0 309 20 := f 309 20 (by decide)
  have t10 : s 309 44 = r0 309 44 := f 309 44 (by decide)
  have t11 : s 309 58 = r0 309 58 := f 309 58 (by decide)
  have t12 : s 316 0 = r0 316 0 := f 316 0 (by decide)
  have t13 : s 329 0 = r0 329 0 := f 329 0 (by decide)
  have t14 : s 329 1 = r0 329 1 := f 329 1 (by decide)
  refine sl_X12_least_309K_L74 hfu r0 a1 a2 a3 (by omega) (by omega) (by omega) (fun s15 y18 c16 f17 b19 g20 g21 g22 g23 g24 g25 => ?_) fu s t0 0 c f (by omega) (by omega) (by omega) (by first | exact y_L.cg p1 (by omega) | exact y_K.L p5 (by omega) (by omega)) p2 (by first | exact p3 | exact y_DD.z (by omega) (by omega)) p4 (by first | exact p5 | exact y_K.b0 (by omega) | exact y_K.k0 (by omega) | exact y_K.bk (by omega)) (by first | exact p6 | exact y_KM.z (by omega)) (by omega)
  have u26 := CI_b c16 (k := 309) (j := 20) bd_309_20
  have u27 := CI_b c16 (k := 309) (j := 36) bd_309_36
  have u28 := CI_b c16 (k := 309) (j := 43) bd_309_43
  have u29 := CI_b c16 (k := 309) (j := 44) bd_309_44
  have u30 := CI_b c16 (k := 309) (j := 58) bd_309_58
  have u31 := CI_b c16 (k := 316) (j := 0) bd_316_0
  have u32 := CI_b c16 (k := 329) (j := 0) bd_329_0
  have u33 := CI_b c16 (k := 329) (j := 1) bd_329_1
  have t34 : s15 309 20 = r0 309 20 := f17 309 20 (by decide)
  have t35 : s15 309 44 = r0 309 44 := f17 309 44 (by decide)
  have t36 : s15 309 58 = r0 309 58 := f17 309 58 (by decide)
  have t37 : s15 316 0 = r0 316 0 := f17 316 0 (by decide)
  have t38 : s15 329 0 = r0 329 0 := f17 329 0 (by decide)
  have t39 : s15 329 1 = r0 329 1 := f17 329 1 (by decide)
  exact sj_X12_least_309K_J124 hfu r0 s15 c16 f17 a1 a2 y18 (by omega) (by omega) (by omega) (by omega) g21 (by first | exact g22 | exact y_DD.z (by omega) (by omega)) g23 (by first | exact g24 | exact y_K.b0 (by omega) | exact y_K.k0 (by omega) | exact y_K.bk (by omega)) (by first | exact g25 | exact y_KM.z (by omega)) M (by omega) (fun s' v2 c' f' w2 z0 z1 z2 z3 z4 z5 pg => hr s' v2 c' f' w2 z0 z1 z2 z3 z4 z5 (by omega)) hk
theorem sl_X12_least_309K_L40 {fu : Nat} (hfu : 8589934592 ≤ fu) (r0 : z_M) (a1 : Int) (b1 : -2147483648 ≤ a1 ∧ a1 ≤ 2147483647) {k : z_M → z_O} (hk : ∀ (s' : z_M), z_CI s' → z_Fr R_X12_least_309 r0 s' → (y_TA s') → (y_DD s') → (y_B s') → (y_K s') → (y_KM s') → z_T (k s') (P_X12_least_309K r0)) : ∀ (F : Nat) (s : z_M) (a2 : Int), z_CI s → z_Fr R_X12_least_309 r0 s → (12 ≤ a2 ∧ a2 ≤ 1000) → (s 309 43 = 0 ∨ s 309 36 = 0) → (y_TA s) → (y_DD s) → (y_B s) → (y_K s) → (y_KM s) → (2147483647 - a2 < (F : Int)) → z_T (fX12_least_L40 fu 309 a1 F s a2 k) (P_X12_least_309K r0) := by
  intro F
  induction F with
  | zero =>
    intro s a2 c f b2 i0 i1 i2 i3 i4 i5 hm
    have u43 := CI_b c (k := 309) (j := 20) bd_309_20
    have u44 := CI_b c (k := 309) (j := 36) bd_309_36
    have u45 := CI_b c (k := 309) (j := 43) bd_309_43
    have u46 := CI_b c (k := 309) (j := 44) bd_309_44
    have u47 := CI_b c (k := 309) (j := 58) bd_309_58
    have u48 := CI_b c (k := 316) (j := 0) bd_316_0
    have u49 := CI_b c (k := 329) (j := 0) bd_329_0
    have u50 := CI_b c (k := 329) (j := 1) bd_329_1
    exfalso; omega
  | succ F ih =>
    intro s a2 c f b2 i0 i1 i2 i3 i4 i5 hm
    refine T_of (fX12_least_L40.eq_2 ..) ?_
    have u1 := CI_b c (k := 309) (j := 20) bd_309_20
    have u2 := CI_b c (k := 309) (j := 36) bd_309_36
    have u3 := CI_b c (k := 309) (j := 43) bd_309_43
    have u4 := CI_b c (k := 309) (j := 44) bd_309_44
    have u5 := CI_b c (k := 309) (j := 58) bd_309_58
    have u6 := CI_b c (k := 316) (j := 0) bd_316_0
    have u7 := CI_b c (k := 329) (j := 0) bd_329_0
    have u8 := CI_b c (k := 329) (j := 1) bd_329_1
    have t9 : s 309 20 = r0 309 20 := f 309 20 (by decide)
    have t10 : s 309 44 = r0 309 44 := f 309 44 (by decide)
    have t11 : s 309 58 = r0 309 58 := f 309 58 (by decide)
    have t12 : s 316 0 = r0 316 0 := f 316 0 (by decide)
    have t13 : s 329 0 = r0 329 0 := f 329 0 (by decide)
    have t14 : s 329 1 = r0 329 1 := f 329 1 (by decide)
    refine T_ite (fun h15 => ?_) (fun h15 => ?_)
    · exact hk s c f i1 (by first | exact i2 | exact y_DD.z (by omega) (by omega)) i3 (by first | exact i4 | exact y_K.b0 (by omega) | exact y_K.k0 (by omega) | exact y_K.bk (by omega)) (by first | exact i5 | exact y_KM.z (by omega))
    · refine T_if1 (by decide +kernel) ?_
      refine T_let 312 (by decide +kernel) ?_
      refine T_if1 (z_ixl (n := 9) (by decide +kernel) (by omega) (by omega)) ?_
      refine T_leq (fun x16 e17 => ?_)
      have u18 := CI_b c (k := 312) (j := 3) (bdr_312 3)
      refine T_if1 (by decide +kernel) ?_
      refine T_useI (sf_X12_breaks_309K hfu s c a2 x16 (by omega) (by omega) i3 (by first | exact i5 | exact y_KM.z (by omega))) (fun v24 s19 hq => ?_)
      obtain ⟨c20, f21, o25, o26, o27, ⟨x23, rfl, b28, b29, o30⟩⟩ := hq
      refine T_vI ?_
      have f22 := z_Fr.tr (R := R_X12_least_309) f f21 rs_X12_breaks_309__X12_least_309
      have t31 : s19 309 20 = s 309 20 := f21 309 20 (by decide)
      have t32 : s19 309 44 = s 309 44 := f21 309 44 (by decide)
      have t33 : s19 309 58 = s 309 58 := f21 309 58 (by decide)
      have t34 : s19 316 0 = s 316 0 := f21 316 0 (by decide)
      have t35 : s19 329 0 = s 329 0 := f21 329 0 (by decide)
      have t36 : s19 329 1 = s 329 1 := f21 329 1 (by decide)
      have u37 := CI_b c20 (k := 309) (j := 36) bd_309_36
      have u38 := CI_b c20 (k := 309) (j := 43) bd_309_43
      have r39 := y_TA.fr i1 (fun a b h => f21 a b (nz_X12_breaks_309__316_328 a b h)) (fun a b h => f21 a b (nz_X12_breaks_309__346_358 a b h)) (fun a b h => f21 a b (nz_X12_breaks_309__361_373 a b h))
      have r40 := y_DD.fr i2 (f21 329 0 (by decide)) (f21 329 1 (by decide)) (fun b => f21 359 b (nr_X12_breaks_309__359 b)) (fun b => f21 374 b (nr_X12_breaks_309__374 b))
      have r41 := y_B.fr i3 (f21 309 20 (by decide)) (f21 316 0 (by decide)) (fun b => f21 3220 b (nr_X12_breaks_309__3220 b)) (fun b => f21 3221 b (nr_X12_breaks_309__3221 b)) (fun b => f21 3222 b (nr_X12_breaks_309__3222 b)) (fun b => f21 361 b (nr_X12_breaks_309__361 b))
      refine T_ite (fun h42 => ?_) (fun h42 => ?_)
      · exact sj_X12_least_309K_J69 hfu r0 s19 c20 f22 a1 a2 x23 0 (by omega) (by omega) (by omega) (by omega) (by omega) (by first | exact y_L.cg o30 (by omega)) r39 (by first | exact r40 | exact y_DD.z (by omega) (by omega)) r41 (by first | exact y_K.b0 (by omega) | exact y_K.k0 (by omega) | exact y_K.bk (by omega)) (by first | exact o27 | exact y_KM.z (by omega)) (2147483647 - a2) (by omega) (fun s' v2 c' f' w2 z0 z1 z2 z3 z4 z5 pg => ih s' v2 c' f' w2 z0 z1 z2 z3 z4 z5 (by omega)) hk
      · exact sj_X12_least_309K_J69 hfu r0 s19 c20 f22 a1 a2 x23 1 (by omega) (by omega) (by omega) (by omega) (by omega) (by first | exact y_L.cg o30 (by omega)) r39 (by first | exact r40 | exact y_DD.z (by omega) (by omega)) r41 (by first | exact y_K.b0 (by omega) | exact y_K.k0 (by omega) | exact y_K.bk (by omega)) (by first | exact o27 | exact y_KM.z (by omega)) (2147483647 - a2) (by omega) (fun s' v2 c' f' w2 z0 z1 z2 z3 z4 z5 pg => ih s' v2 c' f' w2 z0 z1 z2 z3 z4 z5 (by omega)) hk
theorem sj_X12_least_309K_J22 {fu : Nat} (hfu : 8589934592 ≤ fu) (r0 s : z_M) (c : z_CI s) (f : z_Fr R_X12_least_309 r0 s) (a1 : Int) (t1 : Int) (b1 : -2147483648 ≤ a1 ∧ a1 ≤ 2147483647) (d1 : 0 ≤ t1 ∧ t1 ≤ 1) (p0 : y_TA s) (p1 : y_DD s) (p2 : y_B s) (p3 : y_K s) (p4 : y_KM s) : z_T (fX12_least_J22 fu s 309 a1 309 t1) (P_X12_least_309K r0) := by
  refine T_of (fX12_least_J22.eq_1 ..) ?_
  have u1 := CI_b c (k := 309) (j := 20) bd_309_20
  have u2 := CI_b c (k := 309) (j := 36) bd_309_36
  have u3 := CI_b c (k := 309) (j := 43) bd_309_43
  have u4 := CI_b c (k := 309) (j := 44) bd_309_44
  have u5 := CI_b c (k := 309) (j := 58) bd_309_58
  have u6 := CI_b c (k := 316) (j := 0) bd_316_0
  have u7 := CI_b c (k := 329) (j := 0) bd_329_0
  have u8 := CI_b c (k := 329) (j := 1) bd_329_1
  have t9 : s 309 20 = r0 309 20 := f 309 20 (by decide)
  have t10 : s 309 44 = r0 309 44 := f 309 44 (by decide)
  have t11 : s 309 58 = r0 309 58 := f 309 58 (by decide)
  have t12 : s 316 0 = r0 316 0 := f 316 0 (by decide)
  have t13 : s 329 0 = r0 329 0 := f 329 0 (by decide)
  have t14 : s 329 1 = r0 329 1 := f 329 1 (by decide)
  refine T_if1 (by decide +kernel) ?_
  refine T_useI (sf_X12_bad_309 hfu s c t1 1 1 (by omega) (by omega) (by omega) (by omega)) (fun v20 s15 hq => ?_)
  obtain ⟨c16, f17, o21, ⟨x19, rfl, b22, b23, o24, o25⟩⟩ := hq
  refine T_vI ?_
  have f18 := z_Fr.tr (R := R_X12_least_309) f f17 rs_X12_bad_309__X12_least_309
  have t26 : s15 309 20 = s 309 20 := f17 309 20 (by decide)
  have t27 : s15 309 36 = s 309 36 := f17 309 36 (by decide)
  have t28 : s15 309 43 = s 309 43 := f17 309 43 (by decide)
  have t29 : s15 309 44 = s 309 44 := f17 309 44 (by decide)
  have t30 : s15 309 58 = s 309 58 := f17 309 58 (by decide)
  have t31 : s15 316 0 = s 316 0 := f17 316 0 (by decide)
  have t32 : s15 329 0 = s 329 0 := f17 329 0 (by decide)
  have t33 : s15 329 1 = s 329 1 := f17 329 1 (by decide)
  have r34 := y_TA.fr p0 (fun a b h => f17 a b (nz_X12_bad_309__316_328 a b h)) (fun a b h => f17 a b (nz_X12_bad_309__346_358 a b h)) (fun a b h => f17 a b (nz_X12_bad_309__361_373 a b h))
  have r35 := y_DD.fr p1 (f17 329 0 (by decide)) (f17 329 1 (by decide)) (fun b => f17 359 b (nr_X12_bad_309__359 b)) (fun b => f17 374 b (nr_X12_bad_309__374 b))
  have r36 := y_B.fr p2 (f17 309 20 (by decide)) (f17 316 0 (by decide)) (fun b => f17 3220 b (nr_X12_bad_309__3220 b)) (fun b => f17 3221 b (nr_X12_bad_309__3221 b)) (fun b => f17 3222 b (nr_X12_bad_309__3222 b)) (fun b => f17 361 b (nr_X12_bad_309__361 b))
  have r37 := y_K.fr p3 (by omega) (by omega) (f17 309 44 (by decide)) (f17 309 20 (by decide)) (f17 309 58 (by decide)) (fun b => f17 3438 b (nr_X12_bad_309__3438 b)) (fun b => f17 3220 b (nr_X12_bad_309__3220 b)) (fun a b h => f17 a b (nz_X12_bad_309__3452_3651 a b h))
  have r38 := y_KM.fr p4 (f17 309 20 (by decide)) (f17 309 36 (by decide)) (f17 309 38 (by decide)) (f17 309 39 (by decide)) (fun b => f17 312 b (nr_X12_bad_309__312 b)) (fun b => f17 331 b (nr_X12_bad_309__331 b)) (fun b => f17 346 b (nr_X12_bad_309__346 b)) (fun b => f17 361 b (nr_X12_bad_309__361 b)) (fun b => f17 391 b (nr_X12_bad_309__391 b)) (fun a b h => f17 a b (nz_X12_bad_309__407_606 a b h)) (fun a b h => f17 a b (nz_X12_bad_309__3220_3223 a b h)) (fun a b h => f17 a b (nz_X12_bad_309__3235_3437 a b h))
  refine T_ite (fun h39 => ?_) (fun h39 => ?_)
  · refine T_if1 ⟨(by decide +kernel), by unfold z_bl; omega⟩ ?_
    refine T_upg c16 bd_309_43 (by omega) (fun s40 c41 g43 g44 e45 => ?_)
    have f42 := z_Fr.upf (R := R_X12_least_309) f18 g43 g44 (Or.inr (Or.inr (⟨rfl, by decide⟩)))
    have t46 : s40 309 20 = s 309 20 := (g44 20 (by decide)).trans t26
    have t47 : s40 309 36 = s 309 36 := (g44 36 (by decide)).trans t27
    have t48 : s40 309 44 = s 309 44 := (g44 44 (by decide)).trans t29
    have t49 : s40 309 58 = s 309 58 := (g44 58 (by decide)).trans t30
    have t50 : s40 316 0 = s 316 0 := (g43 316 0 (by decide)).trans t31
    have t51 : s40 329 0 = s 329 0 := (g43 329 0 (by decide)).trans t32
    have t52 : s40 329 1 = s 329 1 := (g43 329 1 (by decide)).trans t33
    have u53 := CI_b c41 (k := 309) (j := 43) bd_309_43
    have r54 := y_TA.fr r34 (fun a b h => g43 a b (by omega)) (fun a b h => g43 a b (by omega)) (fun a b h => g43 a b (by omega))
    have r55 := y_DD.fr r35 (g43 329 0 (by decide)) (g43 329 1 (by decide)) (fun b => g43 359 b (by decide)) (fun b => g43 374 b (by decide))
    have r56 := y_B.fr r36 (g44 20 (by decide)) (g43 316 0 (by decide)) (fun b => g43 3220 b (by decide)) (fun b => g43 3221 b (by decide)) (fun b => g43 3222 b (by decide)) (fun b => g43 361 b (by decide))
    have r57 := y_K.fr r37 (by omega) (by omega) (g44 44 (by decide)) (g44 20 (by decide)) (g44 58 (by decide)) (fun b => g43 3438 b (by decide)) (fun b => g43 3220 b (by decide)) (fun a b h => g43 a b (by omega))
    have r58 := y_KM.fr r38 (g44 20 (by decide)) (g44 36 (by decide)) (g44 38 (by decide)) (g44 39 (by decide)) (fun b => g43 312 b (by decide)) (fun b => g43 331 b (by decide)) (fun b => g43 346 b (by decide)) (fun b => g43 361 b (by decide)) (fun b => g43 391 b (by decide)) (fun a b h => g43 a b (by omega)) (fun a b h => g43 a b (by omega)) (fun a b h => g43 a b (by omega))
    clear t26
    clear t27
    clear t29
    clear t30
    clear t31
    clear t32
    clear t33
    refine sl_X12_least_309K_L40 hfu r0 a1 (by omega) (fun s59 c60 f61 g62 g63 g64 g65 g66 => ?_) fu s40 12 c41 f42 (by omega) (by omega) r54 (by first | exact r55 | exact y_DD.z (by omega) (by omega)) r56 (by first | exact r57 | exact y_K.b0 (by omega) | exact y_K.k0 (by omega) | exact y_K.bk (by omega)) (by first | exact r58 | exact y_KM.z (by omega)) (by omega)
    have u67 := CI_b c60 (k := 309) (j := 20) bd_309_20
    have u68 := CI_b c60 (k := 309) (j := 36) bd_309_36
    have u69 := CI_b c60 (k := 309) (j := 43) bd_309_43
    have u70 := CI_b c60 (k := 309) (j := 44) bd_309_44
    have u71 := CI_b c60 (k := 309) (j := 58) bd_309_58
    have u72 := CI_b c60 (k := 316) (j := 0) bd_316_0
    have u73 := CI_b c60 (k := 329) (j := 0) bd_329_0
    have u74 := CI_b c60 (k := 329) (j := 1) bd_329_1
    have t75 : s59 309 20 = r0 309 20 := f61 309 20 (by decide)
    have t76 : s59 309 44 = r0 309 44 := f61 309 44 (by decide)
    have t77 : s59 309 58 = r0 309 58 := f61 309 58 (by decide)
    have t78 : s59 316 0 = r0 316 0 := f61 316 0 (by decide)
    have t79 : s59 329 0 = r0 329 0 := f61 329 0 (by decide)
    have t80 : s59 329 1 = r0 329 1 := f61 329 1 (by decide)
    exact T_ret ⟨c60, f61, g62, (by first | exact g63 | exact y_DD.z (by omega) (by omega)), g64, (by first | exact g65 | exact y_K.b0 (by omega) | exact y_K.k0 (by omega) | exact y_K.bk (by omega)), (by first | exact g66 | exact y_KM.z (by omega)), ⟨(-1), rfl, by omega, by omega⟩⟩
  · exact T_ret ⟨c16, f18, r34, (by first | exact r35 | exact y_DD.z (by omega) (by omega)), r36, (by first | exact r37 | exact y_K.b0 (by omega) | exact y_K.k0 (by omega) | exact y_K.bk (by omega)), (by first | exact r38 | exact y_KM.z (by omega)), ⟨0, rfl, by omega, by omega⟩⟩
theorem sf_X12_least_309K {fu : Nat} (hfu : 8589934592 ≤ fu) (r0 : z_M) (c0 : z_CI r0) (a1 : Int) (b1 : -2147483648 ≤ a1 ∧ a1 ≤ 2147483647) (p0 : y_TA r0) (p1 : y_DD r0) (p2 : y_B r0) (p3 : y_K r0) (p4 : y_KM r0) : z_T (fX12_least fu r0 309 a1) (P_X12_least_309K r0) := by
  refine T_of (fX12_least.eq_1 ..) ?_
  have u1 := CI_b c0 (k := 309) (j := 20) bd_309_20
  have u2 := CI_b c0 (k := 309) (j := 36) bd_309_36
  have u3 := CI_b c0 (k := 309) (j := 43) bd_309_43
  have u4 := CI_b c0 (k := 309) (j := 44) bd_309_44
  have u5 := CI_b c0 (k := 309) (j := 58) bd_309_58
  have u6 := CI_b c0 (k := 316) (j := 0) bd_316_0
  have u7 := CI_b c0 (k := 329) (j := 0) bd_329_0
  have u8 := CI_b c0 (k := 329) (j := 1) bd_329_1
  refine T_if1 (by decide +kernel) ?_
  refine T_upg c0 bd_309_0 (by omega) (fun s9 c10 g12 g13 e14 => ?_)
  have f11 := z_Fr.upf (R := R_X12_least_309) z_Fr.rf g12 g13 (Or.inr (Or.inr (⟨rfl, by decide⟩)))
  have t15 : s9 309 20 = r0 309 20 := g13 20 (by decide)
  have t16 : s9 309 36 = r0 309 36 := g13 36 (by decide)
  have t17 : s9 309 43 = r0 309 43 := g13 43 (by decide)
  have t18 : s9 309 44 = r0 309 44 := g13 44 (by decide)
  have t19 : s9 309 58 = r0 309 58 := g13 58 (by decide)
  have t20 : s9 316 0 = r0 316 0 := g12 316 0 (by decide)
  have t21 : s9 329 0 = r0 329 0 := g12 329 0 (by decide)
  have t22 : s9 329 1 = r0 329 1 := g12 329 1 (by decide)
  have r23 := y_TA.fr p0 (fun a b h => g12 a b (by omega)) (fun a b h => g12 a b (by omega)) (fun a b h => g12 a b (by omega))
  have r24 := y_DD.fr p1 (g12 329 0 (by decide)) (g12 329 1 (by decide)) (fun b => g12 359 b (by decide)) (fun b => g12 374 b (by decide))
  have r25 := y_B.fr p2 (g13 20 (by decide)) (g12 316 0 (by decide)) (fun b => g12 3220 b (by decide)) (fun b => g12 3221 b (by decide)) (fun b => g12 3222 b (by decide)) (fun b => g12 361 b (by decide))
  have r26 := y_K.fr p3 (by omega) (by omega) (g13 44 (by decide)) (g13 20 (by decide)) (g13 58 (by decide)) (fun b => g12 3438 b (by decide)) (fun b => g12 3220 b (by decide)) (fun a b h => g12 a b (by omega))
  have r27 := y_KM.fr p4 (g13 20 (by decide)) (g13 36 (by decide)) (g13 38 (by decide)) (g13 39 (by decide)) (fun b => g12 312 b (by decide)) (fun b => g12 331 b (by decide)) (fun b => g12 346 b (by decide)) (fun b => g12 361 b (by decide)) (fun b => g12 391 b (by decide)) (fun a b h => g12 a b (by omega)) (fun a b h => g12 a b (by omega)) (fun a b h => g12 a b (by omega))
  refine T_useI (sf_X12_in hfu s9 c10 a1 1 200 (by omega) (by omega) (by omega)) (fun v33 s28 hq => ?_)
  obtain ⟨c29, f30, ⟨x32, rfl, b34, b35, o36⟩⟩ := hq
  refine T_vI ?_
  have q37 := z_Fr.eq (fun a b h => h) f30
  subst q37
  refine T_ite (fun h38 => ?_) (fun h38 => ?_)
  · exact sj_X12_least_309K_J22 hfu r0 s9 c10 f11 a1 0 (by omega) (by omega) r23 (by first | exact r24 | exact y_DD.z (by omega) (by omega)) r25 (by first | exact r26 | exact y_K.b0 (by omega) | exact y_K.k0 (by omega) | exact y_K.bk (by omega)) (by first | exact r27 | exact y_KM.z (by omega))
  · exact sj_X12_least_309K_J22 hfu r0 s9 c10 f11 a1 1 (by omega) (by omega) r23 (by first | exact r24 | exact y_DD.z (by omega) (by omega)) r25 (by first | exact r26 | exact y_K.b0 (by omega) | exact y_K.k0 (by omega) | exact y_K.bk (by omega)) (by first | exact r27 | exact y_KM.z (by omega))
abbrev P_X12_costsBy_309K (r0 : z_M) : z_V → z_M → Prop := fun v s' => z_CI s' ∧ z_Fr R_X12_costsBy_309 r0 s' ∧ (s' 309 43 = 0 ∨ s' 309 36 = 0) ∧ (y_KM s') ∧ (∃ x, v = vL x ∧ -9223372036854775808 ≤ x ∧ x ≤ 9223372036854775807)
theorem sf_X12_costsBy_309K {fu : Nat} (hfu : 8589934592 ≤ fu) (r0 : z_M) (c0 : z_CI r0) (a1 : Int) (b1 : -2147483648 ≤ a1 ∧ a1 ≤ 2147483647) (p0 : y_B r0) (p1 : y_KM r0) : z_T (fX12_costsBy fu r0 309 a1) (P_X12_costsBy_309K r0) := by
  refine T_of (fX12_costsBy.eq_1 ..) ?_
  have u1 := CI_b c0 (k := 309) (j := 20) bd_309_20
  have u2 := CI_b c0 (k := 309) (j := 36) bd_309_36
  have u3 := CI_b c0 (k := 309) (j := 43) bd_309_43
  have u4 := CI_b c0 (k := 309) (j := 44) bd_309_44
  have u5 := CI_b c0 (k := 309) (j := 58) bd_309_58
  have u6 := CI_b c0 (k := 316) (j := 0) bd_316_0
  refine T_if1 (by decide +kernel) ?_
  refine T_let 312 (by decide +kernel) ?_
  refine T_if1 (z_ixl (n := 9) (by decide +kernel) (by omega) (by omega)) ?_
  refine T_leq (fun x7 e8 => ?_)
  have u9 := CI_b c0 (k := 312) (j := 0) (bdr_312 0)
  refine T_if1 (by decide +kernel) ?_
  refine T_useI (sf_X12_breaks_309K hfu r0 c0 x7 a1 (by omega) (by omega) p0 (by first | exact p1 | exact y_KM.z (by omega))) (fun v15 s10 hq => ?_)
  obtain ⟨c11, f12, o16, o17, o18, ⟨x14, rfl, b19, b20, o21⟩⟩ := hq
  refine T_vI ?_
  have f13 := z_Fr.tr (R := R_X12_costsBy_309) z_Fr.rf f12 rs_X12_breaks_309__X12_costsBy_309
  have t22 : s10 309 20 = r0 309 20 := f12 309 20 (by decide)
  have t23 : s10 309 44 = r0 309 44 := f12 309 44 (by decide)
  have t24 : s10 309 58 = r0 309 58 := f12 309 58 (by decide)
  have t25 : s10 316 0 = r0 316 0 := f12 316 0 (by decide)
  have u26 := CI_b c11 (k := 309) (j := 36) bd_309_36
  have u27 := CI_b c11 (k := 309) (j := 43) bd_309_43
  have r28 := y_B.fr p0 (f12 309 20 (by decide)) (f12 316 0 (by decide)) (fun b => f12 3220 b (nr_X12_breaks_309__3220 b)) (fun b => f12 3221 b (nr_X12_breaks_309__3221 b)) (fun b => f12 3222 b (nr_X12_breaks_309__3222 b)) (fun b => f12 361 b (nr_X12_breaks_309__361 b))
  refine T_if1 (by decide +kernel) ?_
  refine T_upg c11 bd_309_44 (by omega) (fun s29 c30 g32 g33 e34 => ?_)
  have f31 := z_Fr.upf (R := R_X12_costsBy_309) f13 g32 g33 (Or.inr (⟨rfl, by decide⟩))
  have t35 : s29 309 20 = r0 309 20 := (g33 20 (by decide)).trans t22
  have t36 : s29 309 36 = s10 309 36 := g33 36 (by decide)
  have t37 : s29 309 43 = s10 309 43 := g33 43 (by decide)
  have t38 : s29 309 58 = r0 309 58 := (g33 58 (by decide)).trans t24
  have t39 : s29 316 0 = r0 316 0 := (g32 316 0 (by decide)).trans t25
  have u40 := CI_b c30 (k := 309) (j := 44) bd_309_44
  have r41 := y_B.fr r28 (g33 20 (by decide)) (g32 316 0 (by decide)) (fun b => g32 3220 b (by decide)) (fun b => g32 3221 b (by decide)) (fun b => g32 3222 b (by decide)) (fun b => g32 361 b (by decide))
  have r42 := y_KM.fr o18 (g33 20 (by decide)) (g33 36 (by decide)) (g33 38 (by decide)) (g33 39 (by decide)) (fun b => g32 312 b (by decide)) (fun b => g32 331 b (by decide)) (fun b => g32 346 b (by decide)) (fun b => g32 361 b (by decide)) (fun b => g32 391 b (by decide)) (fun a b h => g32 a b (by omega)) (fun a b h => g32 a b (by omega)) (fun a b h => g32 a b (by omega))
  have r43 := y_L.fr o21 (g33 20 (by decide)) (fun b => g32 3438 b (by decide))
  clear t22
  clear t24
  clear t25
  refine T_if1 ⟨(by decide +kernel), by unfold z_bl; omega⟩ ?_
  refine T_upg c30 bd_309_43 (by omega) (fun s44 c45 g47 g48 e49 => ?_)
  have f46 := z_Fr.upf (R := R_X12_costsBy_309) f31 g47 g48 (Or.inr (⟨rfl, by decide⟩))
  have t50 : s44 309 20 = r0 309 20 := (g48 20 (by decide)).trans t35
  have t51 : s44 309 36 = s10 309 36 := (g48 36 (by decide)).trans t36
  have t52 : s44 309 44 = s29 309 44 := g48 44 (by decide)
  have t53 : s44 309 58 = r0 309 58 := (g48 58 (by decide)).trans t38
  have t54 : s44 316 0 = r0 316 0 := (g47 316 0 (by decide)).trans t39
  have u55 := CI_b c45 (k := 309) (j := 43) bd_309_43
  have r56 := y_B.fr r41 (g48 20 (by decide)) (g47 316 0 (by decide)) (fun b => g47 3220 b (by decide)) (fun b => g47 3221 b (by decide)) (fun b => g47 3222 b (by decide)) (fun b => g47 361 b (by decide))
  have r57 := y_KM.fr r42 (g48 20 (by decide)) (g48 36 (by decide)) (g48 38 (by decide)) (g48 39 (by decide)) (fun b => g47 312 b (by decide)) (fun b => g47 331 b (by decide)) (fun b => g47 346 b (by decide)) (fun b => g47 361 b (by decide)) (fun b => g47 391 b (by decide)) (fun a b h => g47 a b (by omega)) (fun a b h => g47 a b (by omega)) (fun a b h => g47 a b (by omega))
  have r58 := y_L.fr r43 (g48 20 (by decide)) (fun b => g47 3438 b (by decide))
  clear t35
  clear t36
  clear t38
  clear t39
  refine T_if1 (by decide +kernel) ?_
  refine T_useL (sf_X12_costs_309K hfu s44 c45 r56 (by first | exact y_L.cg r58 (by omega)) (by first | exact r57 | exact y_KM.z (by omega))) (fun v64 s59 hq => ?_)
  obtain ⟨c60, f61, o65, o66, o67, ⟨x63, rfl, b68, b69⟩⟩ := hq
  refine T_vL ?_
  have f62 := z_Fr.tr (R := R_X12_costsBy_309) f46 f61 rs_X12_costs_309__X12_costsBy_309
  have t70 : s59 309 20 = r0 309 20 := (f61 309 20 (by decide)).trans t50
  have t71 : s59 309 44 = s29 309 44 := (f61 309 44 (by decide)).trans t52
  have t72 : s59 309 58 = r0 309 58 := (f61 309 58 (by decide)).trans t53
  have t73 : s59 316 0 = r0 316 0 := (f61 316 0 (by decide)).trans t54
  have u74 := CI_b c60 (k := 309) (j := 36) bd_309_36
  have u75 := CI_b c60 (k := 309) (j := 43) bd_309_43
  have r76 := y_B.fr r56 (f61 309 20 (by decide)) (f61 316 0 (by decide)) (fun b => f61 3220 b (nr_X12_costs_309__3220 b)) (fun b => f61 3221 b (nr_X12_costs_309__3221 b)) (fun b => f61 3222 b (nr_X12_costs_309__3222 b)) (fun b => f61 361 b (nr_X12_costs_309__361 b))
  have r77 := y_L.fr r58 (f61 309 20 (by decide)) (fun b => f61 3438 b (nr_X12_costs_309__3438 b))
  clear t50
  clear t52
  clear t53
  clear t54
  exact T_ret ⟨c60, f62, (by omega), (by first | exact o67 | exact y_KM.z (by omega)), ⟨x63, rfl, by omega, by omega⟩⟩
abbrev P_X12_better_309K (r0 : z_M) : z_V → z_M → Prop := fun v s' => z_CI s' ∧ z_Fr R_X12_better_309 r0 s' ∧ (y_TA s') ∧ (y_DD s') ∧ (y_B s') ∧ (y_K s') ∧ (y_KM s') ∧ (∃ x, v = vL x ∧ -9223372036854775808 ≤ x ∧ x ≤ 9223372036854775807)
theorem nz_X12_costsBy_309__316_328 (a b : Int) (h : 316 ≤ a ∧ a ≤ 328) : ¬ R_X12_costsBy_309 a b := by
  unfold R_X12_costsBy_309; omega
theorem nz_X12_costsBy_309__346_358 (a b : Int) (h : 346 ≤ a ∧ a ≤ 358) : ¬ R_X12_costsBy_309 a b := by
  unfold R_X12_costsBy_309; omega
theorem nz_X12_costsBy_309__361_373 (a b : Int) (h : 361 ≤ a ∧ a ≤ 373) : ¬ R_X12_costsBy_309 a b := by
  unfold R_X12_costsBy_309; omega
theorem nr_X12_costsBy_309__312 (b : Int) : ¬ R_X12_costsBy_309 312 b := by
  unfold R_X12_costsBy_309; omega
theorem nr_X12_costsBy_309__331 (b : Int) : ¬ R_X12_costsBy_309 331 b := by
  unfold R_X12_costsBy_309; omega
theorem nr_X12_costsBy_309__346 (b : Int) : ¬ R_X12_costsBy_309 346 b := by
  unfold R_X12_costsBy_309; omega
theorem nr_X12_costsBy_309__391 (b : Int) : ¬ R_X12_costsBy_309 391 b := by
  unfold R_X12_costsBy_309; omega
theorem nz_X12_costsBy_309__407_606 (a b : Int) (h : 407 ≤ a ∧ a ≤ 606) : ¬ R_X12_costsBy_309 a b := by
  unfold R_X12_costsBy_309; omega
theorem nz_X12_costsBy_309__3220_3223 (a b : Int) (h : 3220 ≤ a ∧ a ≤ 3223) : ¬ R_X12_costsBy_309 a b := by
  unfold R_X12_costsBy_309; omega
theorem sf_X12_better_309K {fu : Nat} (hfu : 8589934592 ≤ fu) (r0 : z_M) (c0 : z_CI r0) (p0 : y_TA r0) (p1 : y_DD r0) (p2 : y_B r0) (p3 : y_K r0) (p4 : y_KM r0) : z_T (fX12_better fu r0 309) (P_X12_better_309K r0) := by
  refine T_of (fX12_better.eq_1 ..) ?_
  have u1 := CI_b c0 (k := 309) (j := 20) bd_309_20
  have u2 := CI_b c0 (k := 309) (j := 36) bd_309_36
  have u3 := CI_b c0 (k := 309) (j := 43) bd_309_43
  have u4 := CI_b c0 (k := 309) (j := 44) bd_309_44
  have u5 := CI_b c0 (k := 309) (j := 58) bd_309_58
  have u6 := CI_b c0 (k := 316) (j := 0) bd_316_0
  have u7 := CI_b c0 (k := 329) (j := 0) bd_329_0
  have u8 := CI_b c0 (k := 329) (j := 1) bd_329_1
  refine T_if1 (by decide +kernel) ?_
  refine T_upg c0 bd_309_0 (by omega) (fun s9 c10 g12 g13 e14 => ?_)
  have f11 := z_Fr.upf (R := R_X12_better_309) z_Fr.rf g12 g13 (Or.inr (⟨rfl, by decide⟩))
  have t15 : s9 309 20 = r0 309 20 := g13 20 (by decide)
  have t16 : s9 309 36 = r0 309 36 := g13 36 (by decide)
  have t17 : s9 309 43 = r0 309 43 := g13 43 (by decide)
  have t18 : s9 309 44 = r0 309 44 := g13 44 (by decide)
  have t19 : s9 309 58 = r0 309 58 := g13 58 (by decide)
  have t20 : s9 316 0 = r0 316 0 := g12 316 0 (by decide)
  have t21 : s9 329 0 = r0 329 0 := g12 329 0 (by decide)
  have t22 : s9 329 1 = r0 329 1 := g12 329 1 (by decide)
  have r23 := y_TA.fr p0 (fun a b h => g12 a b (by omega)) (fun a b h => g12 a b (by omega)) (fun a b h => g12 a b (by omega))
  have r24 := y_DD.fr p1 (g12 329 0 (by decide)) (g12 329 1 (by decide)) (fun b => g12 359 b (by decide)) (fun b => g12 374 b (by decide))
  have r25 := y_B.fr p2 (g13 20 (by decide)) (g12 316 0 (by decide)) (fun b => g12 3220 b (by decide)) (fun b => g12 3221 b (by decide)) (fun b => g12 3222 b (by decide)) (fun b => g12 361 b (by decide))
  have r26 := y_K.fr p3 (by omega) (by omega) (g13 44 (by decide)) (g13 20 (by decide)) (g13 58 (by decide)) (fun b => g12 3438 b (by decide)) (fun b => g12 3220 b (by decide)) (fun a b h => g12 a b (by omega))
  have r27 := y_KM.fr p4 (g13 20 (by decide)) (g13 36 (by decide)) (g13 38 (by decide)) (g13 39 (by decide)) (fun b => g12 312 b (by decide)) (fun b => g12 331 b (by decide)) (fun b => g12 346 b (by decide)) (fun b => g12 361 b (by decide)) (fun b => g12 391 b (by decide)) (fun a b h => g12 a b (by omega)) (fun a b h => g12 a b (by omega)) (fun a b h => g12 a b (by omega))
  refine T_if1 (by decide +kernel) ?_
  refine T_useL (sf_X12_costsBy_309K hfu s9 c10 0 (by omega) r25 (by first | exact r27 | exact y_KM.z (by omega))) (fun v33 s28 hq => ?_)
  obtain ⟨c29, f30, o34, o35, ⟨x32, rfl, b36, b37⟩⟩ := hq
  refine T_vL ?_
  have f31 := z_Fr.tr (R := R_X12_better_309) f11 f30 rs_X12_costsBy_309__X12_better_309
  have t38 : s28 309 20 = r0 309 20 := (f30 309 20 (by decide)).trans t15
  have t39 : s28 309 58 = r0 309 58 := (f30 309 58 (by decide)).trans t19
  have t40 : s28 316 0 = r0 316 0 := (f30 316 0 (by decide)).trans t20
  have t41 : s28 329 0 = r0 329 0 := (f30 329 0 (by decide)).trans t21
  have t42 : s28 329 1 = r0 329 1 := (f30 329 1 (by decide)).trans t22
  have u43 := CI_b c29 (k := 309) (j := 36) bd_309_36
  have u44 := CI_b c29 (k := 309) (j := 43) bd_309_43
  have u45 := CI_b c29 (k := 309) (j := 44) bd_309_44
  have r46 := y_TA.fr r23 (fun a b h => f30 a b (nz_X12_costsBy_309__316_328 a b h)) (fun a b h => f30 a b (nz_X12_costsBy_309__346_358 a b h)) (fun a b h => f30 a b (nz_X12_costsBy_309__361_373 a b h))
  have r47 := y_DD.fr r24 (f30 329 0 (by decide)) (f30 329 1 (by decide)) (fun b => f30 359 b (nr_X12_costsBy_309__359 b)) (fun b => f30 374 b (nr_X12_costsBy_309__374 b))
  have r48 := y_B.fr r25 (f30 309 20 (by decide)) (f30 316 0 (by decide)) (fun b => f30 3220 b (nr_X12_costsBy_309__3220 b)) (fun b => f30 3221 b (nr_X12_costsBy_309__3221 b)) (fun b => f30 3222 b (nr_X12_costsBy_309__3222 b)) (fun b => f30 361 b (nr_X12_costsBy_309__361 b))
  clear t15
  clear t19
  clear t20
  clear t21
  clear t22
  refine T_if1 (by decide +kernel) ?_
  refine T_useL (sf_X12_costsBy_309K hfu s28 c29 1 (by omega) r48 (by first | exact o35 | exact y_KM.z (by omega))) (fun v54 s49 hq => ?_)
  obtain ⟨c50, f51, o55, o56, ⟨x53, rfl, b57, b58⟩⟩ := hq
  refine T_vL ?_
  have f52 := z_Fr.tr (R := R_X12_better_309) f31 f51 rs_X12_costsBy_309__X12_better_309
  have t59 : s49 309 20 = r0 309 20 := (f51 309 20 (by decide)).trans t38
  have t60 : s49 309 58 = r0 309 58 := (f51 309 58 (by decide)).trans t39
  have t61 : s49 316 0 = r0 316 0 := (f51 316 0 (by decide)).trans t40
  have t62 : s49 329 0 = r0 329 0 := (f51 329 0 (by decide)).trans t41
  have t63 : s49 329 1 = r0 329 1 := (f51 329 1 (by decide)).trans t42
  have u64 := CI_b c50 (k := 309) (j := 36) bd_309_36
  have u65 := CI_b c50 (k := 309) (j := 43) bd_309_43
  have u66 := CI_b c50 (k := 309) (j := 44) bd_309_44
  have r67 := y_TA.fr r46 (fun a b h => f51 a b (nz_X12_costsBy_309__316_328 a b h)) (fun a b h => f51 a b (nz_X12_costsBy_309__346_358 a b h)) (fun a b h => f51 a b (nz_X12_costsBy_309__361_373 a b h))
  have r68 := y_DD.fr r47 (f51 329 0 (by decide)) (f51 329 1 (by decide)) (fun b => f51 359 b (nr_X12_costsBy_309__359 b)) (fun b => f51 374 b (nr_X12_costsBy_309__374 b))
  have r69 := y_B.fr r48 (f51 309 20 (by decide)) (f51 316 0 (by decide)) (fun b => f51 3220 b (nr_X12_costsBy_309__3220 b)) (fun b => f51 3221 b (nr_X12_costsBy_309__3221 b)) (fun b => f51 3222 b (nr_X12_costsBy_309__3222 b)) (fun b => f51 361 b (nr_X12_costsBy_309__361 b))
  clear t38
  clear t39
  clear t40
  clear t41
  clear t42
  refine T_leq (fun x70 e71 => ?_)
  have w72 := z_wlr e71
  exact T_ret ⟨c50, f52, r67, (by first | exact r68 | exact y_DD.z (by omega) (by omega)), r69, (by first | exact y_K.b0 (by omega) | exact y_K.k0 (by omega) | exact y_K.bk (by omega)), (by first | exact o56 | exact y_KM.z (by omega)), ⟨x70, rfl, by omega, by omega⟩⟩
abbrev P_X12_turnsOver_309K (r0 : z_M) : z_V → z_M → Prop := fun v s' => z_CI s' ∧ z_Fr R_X12_turnsOver_309 r0 s' ∧ (y_K s') ∧ (y_S5 r0 s') ∧ (y_KM s') ∧ (v = vN)
theorem sf_X12_turnsOver_309K {fu : Nat} (hfu : 8589934592 ≤ fu) (r0 : z_M) (c0 : z_CI r0) (p0 : y_B r0) (p1 : y_K r0) (p2 : y_KM r0) : z_T (fX12_turnsOver fu r0 309) (P_X12_turnsOver_309K r0) := by
  refine T_of (fX12_turnsOver.eq_1 ..) ?_
  have u1 := CI_b c0 (k := 309) (j := 20) bd_309_20
  have u2 := CI_b c0 (k := 309) (j := 36) bd_309_36
  have u3 := CI_b c0 (k := 309) (j := 43) bd_309_43
  have u4 := CI_b c0 (k := 309) (j := 44) bd_309_44
  have u5 := CI_b c0 (k := 309) (j := 58) bd_309_58
  have u6 := CI_b c0 (k := 316) (j := 0) bd_316_0
  have r7 : y_SE r0 r0 := y_SE.z
  refine T_if1 (by decide +kernel) ?_
  refine T_let 312 (by decide +kernel) ?_
  refine T_if1 (by decide +kernel) ?_
  refine T_let 312 (by decide +kernel) ?_
  refine T_if1 (z_ixl (n := 9) (by decide +kernel) (by omega) (by omega)) ?_
  refine T_leq (fun x8 e9 => ?_)
  have u10 := CI_b c0 (k := 312) (j := 5) (bdr_312 5)
  refine T_leq (fun x11 e12 => ?_)
  first | (have w13 := z_wx e12 (by omega)) | (have w13 := z_wr e12)
  refine T_if1 (z_ixl (n := 9) (by decide +kernel) (by omega) (by omega)) ?_
  refine T_upg c0 (bdr_312 5) (by omega) (fun s14 c15 g17 g18 e19 => ?_)
  have f16 := z_Fr.up (R := R_X12_turnsOver_309) z_Fr.rf g17 (fun _ => (Or.inl (⟨by decide, by decide⟩)))
  have t20 : s14 309 20 = r0 309 20 := g17 309 20 (by decide)
  have t21 : s14 309 36 = r0 309 36 := g17 309 36 (by decide)
  have t22 : s14 309 43 = r0 309 43 := g17 309 43 (by decide)
  have t23 : s14 309 44 = r0 309 44 := g17 309 44 (by decide)
  have t24 : s14 309 58 = r0 309 58 := g17 309 58 (by decide)
  have t25 : s14 316 0 = r0 316 0 := g17 316 0 (by decide)
  have r26 := y_B.fr p0 (g17 309 20 (by decide)) (g17 316 0 (by decide)) (fun b => g17 3220 b (by decide)) (fun b => g17 3221 b (by decide)) (fun b => g17 3222 b (by decide)) (fun b => g17 361 b (by decide))
  have r27 := y_K.fr p1 (by omega) (by omega) (g17 309 44 (by decide)) (g17 309 20 (by decide)) (g17 309 58 (by decide)) (fun b => g17 3438 b (by decide)) (fun b => g17 3220 b (by decide)) (fun a b h => g17 a b (by omega))
  have r28 := y_S5.mk r7 e9 (by assumption) e19 g18
  refine T_if1 ⟨(by decide +kernel), by unfold z_bl; omega⟩ ?_
  refine T_upg c15 bd_309_36 (by omega) (fun s29 c30 g32 g33 e34 => ?_)
  have f31 := z_Fr.upf (R := R_X12_turnsOver_309) f16 g32 g33 (Or.inr (Or.inr (⟨rfl, by decide⟩)))
  have t35 : s29 309 20 = r0 309 20 := (g33 20 (by decide)).trans t20
  have t36 : s29 309 43 = r0 309 43 := (g33 43 (by decide)).trans t22
  have t37 : s29 309 44 = r0 309 44 := (g33 44 (by decide)).trans t23
  have t38 : s29 309 58 = r0 309 58 := (g33 58 (by decide)).trans t24
  have t39 : s29 316 0 = r0 316 0 := (g32 316 0 (by decide)).trans t25
  have u40 := CI_b c30 (k := 309) (j := 36) bd_309_36
  have r41 := y_B.fr r26 (g33 20 (by decide)) (g32 316 0 (by decide)) (fun b => g32 3220 b (by decide)) (fun b => g32 3221 b (by decide)) (fun b => g32 3222 b (by decide)) (fun b => g32 361 b (by decide))
  have r42 := y_K.fr r27 (by omega) (by omega) (g33 44 (by decide)) (g33 20 (by decide)) (g33 58 (by decide)) (fun b => g32 3438 b (by decide)) (fun b => g32 3220 b (by decide)) (fun a b h => g32 a b (by omega))
  have r43 := y_S5.fr r28 (fun b => g32 312 b (by decide))
  clear t20
  clear t22
  clear t23
  clear t24
  clear t25
  refine T_if1 (by decide +kernel) ?_
  refine T_useN (sf_X12_laysAll_309K hfu s29 c30 r41 (by first | exact r42 | exact y_K.b0 (by omega) | exact y_K.k0 (by omega) | exact y_K.bk (by omega)) (by first | exact y_KM.z (by omega))) (fun v49 s44 hq => ?_)
  obtain ⟨c45, f46, o50, o51, o52, o53, o54, o55, o56, rfl⟩ := hq
  refine T_vN ?_
  have f47 := z_Fr.tr (R := R_X12_turnsOver_309) f31 f46 rs_X12_laysAll_309__X12_turnsOver_309
  have t59 : s44 309 20 = r0 309 20 := (f46 309 20 (by decide)).trans t35
  have t60 : s44 316 0 = r0 316 0 := (f46 316 0 (by decide)).trans t39
  have u61 := CI_b c45 (k := 309) (j := 36) bd_309_36
  have u62 := CI_b c45 (k := 309) (j := 43) bd_309_43
  have u63 := CI_b c45 (k := 309) (j := 44) bd_309_44
  have u64 := CI_b c45 (k := 309) (j := 58) bd_309_58
  have r65 := y_B.fr r41 (f46 309 20 (by decide)) (f46 316 0 (by decide)) (fun b => f46 3220 b (nr_X12_laysAll_309__3220 b)) (fun b => f46 3221 b (nr_X12_laysAll_309__3221 b)) (fun b => f46 3222 b (nr_X12_laysAll_309__3222 b)) (fun b => f46 361 b (nr_X12_laysAll_309__361 b))
  have r66 := y_S5.fr r43 (fun b => f46 312 b (nr_X12_laysAll_309__312 b))
  clear t35
  clear t39
  exact T_ret ⟨c45, f47, (by first | exact o50 | exact y_K.b0 (by omega) | exact y_K.k0 (by omega) | exact y_K.bk (by omega) | exact y_K.mk o51 (by omega) o52), r66, (by first | exact o56 | exact y_KM.z (by omega)), rfl⟩
abbrev P_X12_moves_309K (r0 : z_M) : z_V → z_M → Prop := fun v s' => z_CI s' ∧ z_Fr R_X12_moves_309 r0 s' ∧ (y_SE r0 s') ∧ (y_TA s') ∧ (y_DD s') ∧ (y_B s') ∧ (y_K s') ∧ (y_KM s') ∧ (∃ x, v = vI x ∧ -2147483648 ≤ x ∧ x ≤ 2147483647)
theorem sl_X12_moves_309K_L11 {fu : Nat} (hfu : 8589934592 ≤ fu) (r0 : z_M) {k : z_M → z_O} (hk : ∀ (s' : z_M), z_CI s' → z_Fr R_X12_moves_309 r0 s' → (y_SE r0 s') → (y_TA s') → (y_DD s') → (y_B s') → (y_K s') → (y_KM s') → z_T (k s') (P_X12_moves_309K r0)) : ∀ (F : Nat) (s : z_M) (a1 : Int), z_CI s → z_Fr R_X12_moves_309 r0 s → (0 ≤ a1 ∧ a1 ≤ 200) → (y_SE r0 s) → (y_TA s) → (y_DD s) → (y_B s) → (y_K s) → (y_KM s) → (2147483647 - a1 < (F : Int)) → z_T (fX12_moves_L11 fu 309 F s a1 k) (P_X12_moves_309K r0) := by
  intro F
  induction F with
  | zero =>
    intro s a1 c f b1 i0 i1 i2 i3 i4 i5 hm
    have u43 := CI_b c (k := 309) (j := 20) bd_309_20
    have u44 := CI_b c (k := 309) (j := 36) bd_309_36
    have u45 := CI_b c (k := 309) (j := 43) bd_309_43
    have u46 := CI_b c (k := 309) (j := 44) bd_309_44
    have u47 := CI_b c (k := 309) (j := 58) bd_309_58
    have u48 := CI_b c (k := 316) (j := 0) bd_316_0
    have u49 := CI_b c (k := 329) (j := 0) bd_329_0
    have u50 := CI_b c (k := 329) (j := 1) bd_329_1
    exfalso; omega
  | succ F ih =>
    intro s a1 c f b1 i0 i1 i2 i3 i4 i5 hm
    refine T_of (fX12_moves_L11.eq_2 ..) ?_
    have u1 := CI_b c (k := 309) (j := 20) bd_309_20
    have u2 := CI_b c (k := 309) (j := 36) bd_309_36
    have u3 := CI_b c (k := 309) (j := 43) bd_309_43
    have u4 := CI_b c (k := 309) (j := 44) bd_309_44
    have u5 := CI_b c (k := 309) (j := 58) bd_309_58
    have u6 := CI_b c (k := 316) (j := 0) bd_316_0
    have u7 := CI_b c (k := 329) (j := 0) bd_329_0
    have u8 := CI_b c (k := 329) (j := 1) bd_329_1
    have t9 : s 309 20 = r0 309 20 := f 309 20 (by decide)
    have t10 : s 316 0 = r0 316 0 := f 316 0 (by decide)
    have t11 : s 329 0 = r0 329 0 := f 329 0 (by decide)
    have t12 : s 329 1 = r0 329 1 := f 329 1 (by decide)
    refine T_if1 (by decide +kernel) ?_
    refine T_leq (fun x13 e14 => ?_)
    have u15 := CI_b c (k := 309) (j := 20) bd_309_20
    refine T_ite (fun h16 => ?_) (fun h16 => ?_)
    · exact hk s c f i0 i1 (by first | exact i2 | exact y_DD.z (by omega) (by omega)) i3 (by first | exact i4 | exact y_K.b0 (by omega) | exact y_K.k0 (by omega) | exact y_K.bk (by omega)) (by first | exact i5 | exact y_KM.z (by omega))
    · refine T_if1 (by decide +kernel) ?_
      refine T_let 7656 (by decide +kernel) ?_
      refine T_if1 (by decide +kernel) ?_
      refine T_let 3441 (by decide +kernel) ?_
      refine T_if1 (z_ixl (n := 200) (by decide +kernel) (by omega) (by omega)) ?_
      refine T_leq (fun x17 e18 => ?_)
      have u19 := CI_b c (k := 3441) (j := a1) (bdr_3441 a1)
      refine T_if1 (z_ixl (n := 200) (by decide +kernel) (by omega) (by omega)) ?_
      refine T_upg c (bdr_7656 a1) (by omega) (fun s20 c21 g23 g24 e25 => ?_)
      have f22 := z_Fr.up (R := R_X12_moves_309) f g23 (fun _ => (Or.inr (Or.inr (Or.inl (⟨by decide, by decide⟩)))))
      have t26 : s20 309 20 = x13 := (g23 309 20 (by decide)).trans e14
      have t27 : s20 309 36 = s 309 36 := g23 309 36 (by decide)
      have t28 : s20 309 43 = s 309 43 := g23 309 43 (by decide)
      have t29 : s20 309 44 = s 309 44 := g23 309 44 (by decide)
      have t30 : s20 309 58 = s 309 58 := g23 309 58 (by decide)
      have t31 : s20 316 0 = s 316 0 := g23 316 0 (by decide)
      have t32 : s20 329 0 = s 329 0 := g23 329 0 (by decide)
      have t33 : s20 329 1 = s 329 1 := g23 329 1 (by decide)
      have r34 := y_SE.fr i0 (fun b => g23 312 b (by decide))
      have r35 := y_TA.fr i1 (fun a b h => g23 a b (by omega)) (fun a b h => g23 a b (by omega)) (fun a b h => g23 a b (by omega))
      have r36 := y_DD.fr i2 (g23 329 0 (by decide)) (g23 329 1 (by decide)) (fun b => g23 359 b (by decide)) (fun b => g23 374 b (by decide))
      have r37 := y_B.fr i3 (g23 309 20 (by decide)) (g23 316 0 (by decide)) (fun b => g23 3220 b (by decide)) (fun b => g23 3221 b (by decide)) (fun b => g23 3222 b (by decide)) (fun b => g23 361 b (by decide))
      have r38 := y_K.fr i4 (by omega) (by omega) (g23 309 44 (by decide)) (g23 309 20 (by decide)) (g23 309 58 (by decide)) (fun b => g23 3438 b (by decide)) (fun b => g23 3220 b (by decide)) (fun a b h => g23 a b (by omega))
      have r39 := y_KM.fr i5 (g23 309 20 (by decide)) (g23 309 36 (by decide)) (g23 309 38 (by decide)) (g23 309 39 (by decide)) (fun b => g23 312 b (by decide)) (fun b => g23 331 b (by decide)) (fun b => g23 346 b (by decide)) (fun b => g23 361 b (by decide)) (fun b => g23 391 b (by decide)) (fun a b h => g23 a b (by omega)) (fun a b h => g23 a b (by omega)) (fun a b h => g23 a b (by omega))
      refine T_leq (fun x40 e41 => ?_)
      first | (have w42 := z_wx e41 (by omega)) | (have w42 := z_wr e41)
      exact ih s20 x40 c21 f22 (by omega) r34 r35 (by first | exact r36 | exact y_DD.z (by omega) (by omega)) r37 (by first | exact r38 | exact y_K.b0 (by omega) | exact y_K.k0 (by omega) | exact y_K.bk (by omega)) (by first | exact r39 | exact y_KM.z (by omega)) (by omega)
theorem nz_X12_turnsOver_309__316_328 (a b : Int) (h : 316 ≤ a ∧ a ≤ 328) : ¬ R_X12_turnsOver_309 a b := by
  unfold R_X12_turnsOver_309; omega
theorem nz_X12_turnsOver_309__346_358 (a b : Int) (h : 346 ≤ a ∧ a ≤ 358) : ¬ R_X12_turnsOver_309 a b := by
  unfold R_X12_turnsOver_309; omega
theorem nz_X12_turnsOver_309__361_373 (a b : Int) (h : 361 ≤ a ∧ a ≤ 373) : ¬ R_X12_turnsOver_309 a b := by
  unfold R_X12_turnsOver_309; omega
theorem nr_X12_turnsOver_309__331 (b : Int) : ¬ R_X12_turnsOver_309 331 b := by
  unfold R_X12_turnsOver_309; omega
theorem nr_X12_turnsOver_309__346 (b : Int) : ¬ R_X12_turnsOver_309 346 b := by
  unfold R_X12_turnsOver_309; omega
theorem nr_X12_turnsOver_309__391 (b : Int) : ¬ R_X12_turnsOver_309 391 b := by
  unfold R_X12_turnsOver_309; omega
theorem nz_X12_turnsOver_309__407_606 (a b : Int) (h : 407 ≤ a ∧ a ≤ 606) : ¬ R_X12_turnsOver_309 a b := by
  unfold R_X12_turnsOver_309; omega
theorem nz_X12_turnsOver_309__3220_3223 (a b : Int) (h : 3220 ≤ a ∧ a ≤ 3223) : ¬ R_X12_turnsOver_309 a b := by
  unfold R_X12_turnsOver_309; omega
theorem sj_X12_moves_309K_J79 {fu : Nat} (hfu : 8589934592 ≤ fu) (r0 s : z_M) (c : z_CI s) (f : z_Fr R_X12_moves_309 r0 s) (a2 : Int) (t0 : Int) (t1 : Int) (b2 : 0 ≤ a2 ∧ a2 ≤ 199) (d0 : -2147483648 ≤ t0 ∧ t0 ≤ 2147483647) (d1 : -2147483648 ≤ t1 ∧ t1 ≤ 2147483647) (p0 : y_S5 r0 s) (p1 : y_TA s) (p2 : y_DD s) (p3 : y_B s) (p4 : y_K s) (p5 : y_KM s) (M : Int) (pm : 2147483647 - a2 ≤ M) {r : z_M → Int → Int → z_O} {k : z_M → Int → z_O} (hr : ∀ (s' : z_M) (v1 : Int) (v2 : Int), z_CI s' → z_Fr R_X12_moves_309 r0 s' → (-2147483648 ≤ v1 ∧ v1 ≤ 2147483647) → (0 ≤ v2 ∧ v2 ≤ 200) → (y_S5 r0 s') → (y_TA s') → (y_DD s') → (y_B s') → (y_K s') → (y_KM s') → (2147483647 - v2 < M) → z_T (r s' v1 v2) (P_X12_moves_309K r0)) (hk : ∀ (s' : z_M) (v1 : Int), z_CI s' → z_Fr R_X12_moves_309 r0 s' → (-2147483648 ≤ v1 ∧ v1 ≤ 2147483647) → (y_S5 r0 s') → (y_TA s') → (y_DD s') → (y_B s') → (y_K s') → (y_KM s') → z_T (k s' v1) (P_X12_moves_309K r0)) : z_T (fX12_moves_J79 fu s 309 a2 t0 t1 r k) (P_X12_moves_309K r0) := by
  refine T_of (fX12_moves_J79.eq_1 ..) ?_
  have u1 := CI_b c (k := 309) (j := 20) bd_309_20
  have u2 := CI_b c (k := 309) (j := 36) bd_309_36
  have u3 := CI_b c (k := 309) (j := 43) bd_309_43
  have u4 := CI_b c (k := 309) (j := 44) bd_309_44
  have u5 := CI_b c (k := 309) (j := 58) bd_309_58
  have u6 := CI_b c (k := 316) (j := 0) bd_316_0
  have u7 := CI_b c (k := 329) (j := 0) bd_329_0
  have u8 := CI_b c (k := 329) (j := 1) bd_329_1
  have t9 : s 309 20 = r0 309 20 := f 309 20 (by decide)
  have t10 : s 316 0 = r0 316 0 := f 316 0 (by decide)
  have t11 : s 329 0 = r0 329 0 := f 329 0 (by decide)
  have t12 : s 329 1 = r0 329 1 := f 329 1 (by decide)
  refine T_leq (fun x13 e14 => ?_)
  first | (have w15 := z_wx e14 (by omega)) | (have w15 := z_wr e14)
  refine T_leq (fun x16 e17 => ?_)
  first | (have w18 := z_wx e17 (by omega)) | (have w18 := z_wr e17)
  exact hr s x13 x16 c f (by omega) (by omega) p0 p1 (by first | exact p2 | exact y_DD.z (by omega) (by omega)) p3 (by first | exact p4 | exact y_K.b0 (by omega) | exact y_K.k0 (by omega) | exact y_K.bk (by omega)) (by first | exact p5 | exact y_KM.z (by omega)) (by omega)
theorem sl_X12_moves_309K_L45 {fu : Nat} (hfu : 8589934592 ≤ fu) (r0 : z_M) {k : z_M → Int → z_O} (hk : ∀ (s' : z_M) (v1 : Int), z_CI s' → z_Fr R_X12_moves_309 r0 s' → (-2147483648 ≤ v1 ∧ v1 ≤ 2147483647) → (y_S5 r0 s') → (y_TA s') → (y_DD s') → (y_B s') → (y_K s') → (y_KM s') → z_T (k s' v1) (P_X12_moves_309K r0)) : ∀ (F : Nat) (s : z_M) (a1 : Int) (a2 : Int), z_CI s → z_Fr R_X12_moves_309 r0 s → (-2147483648 ≤ a1 ∧ a1 ≤ 2147483647) → (0 ≤ a2 ∧ a2 ≤ 200) → (y_S5 r0 s) → (y_TA s) → (y_DD s) → (y_B s) → (y_K s) → (y_KM s) → (2147483647 - a2 < (F : Int)) → z_T (fX12_moves_L45 fu 309 F s a1 a2 k) (P_X12_moves_309K r0) := by
  intro F
  induction F with
  | zero =>
    intro s a1 a2 c f b1 b2 i0 i1 i2 i3 i4 i5 hm
    have u27 := CI_b c (k := 309) (j := 20) bd_309_20
    have u28 := CI_b c (k := 309) (j := 36) bd_309_36
    have u29 := CI_b c (k := 309) (j := 43) bd_309_43
    have u30 := CI_b c (k := 309) (j := 44) bd_309_44
    have u31 := CI_b c (k := 309) (j := 58) bd_309_58
    have u32 := CI_b c (k := 316) (j := 0) bd_316_0
    have u33 := CI_b c (k := 329) (j := 0) bd_329_0
    have u34 := CI_b c (k := 329) (j := 1) bd_329_1
    exfalso; omega
  | succ F ih =>
    intro s a1 a2 c f b1 b2 i0 i1 i2 i3 i4 i5 hm
    refine T_of (fX12_moves_L45.eq_2 ..) ?_
    have u1 := CI_b c (k := 309) (j := 20) bd_309_20
    have u2 := CI_b c (k := 309) (j := 36) bd_309_36
    have u3 := CI_b c (k := 309) (j := 43) bd_309_43
    have u4 := CI_b c (k := 309) (j := 44) bd_309_44
    have u5 := CI_b c (k := 309) (j := 58) bd_309_58
    have u6 := CI_b c (k := 316) (j := 0) bd_316_0
    have u7 := CI_b c (k := 329) (j := 0) bd_329_0
    have u8 := CI_b c (k := 329) (j := 1) bd_329_1
    have t9 : s 309 20 = r0 309 20 := f 309 20 (by decide)
    have t10 : s 316 0 = r0 316 0 := f 316 0 (by decide)
    have t11 : s 329 0 = r0 329 0 := f 329 0 (by decide)
    have t12 : s 329 1 = r0 329 1 := f 329 1 (by decide)
    refine T_if1 (by decide +kernel) ?_
    refine T_leq (fun x13 e14 => ?_)
    have u15 := CI_b c (k := 309) (j := 20) bd_309_20
    refine T_ite (fun h16 => ?_) (fun h16 => ?_)
    · exact hk s a1 c f (by omega) i0 i1 (by first | exact i2 | exact y_DD.z (by omega) (by omega)) i3 (by first | exact i4 | exact y_K.b0 (by omega) | exact y_K.k0 (by omega) | exact y_K.bk (by omega)) (by first | exact i5 | exact y_KM.z (by omega))
    · refine T_if1 (by decide +kernel) ?_
      refine T_let 3441 (by decide +kernel) ?_
      refine T_if1 (z_ixl (n := 200) (by decide +kernel) (by omega) (by omega)) ?_
      refine T_leq (fun x17 e18 => ?_)
      have u19 := CI_b c (k := 3441) (j := a2) (bdr_3441 a2)
      refine T_if1 (by decide +kernel) ?_
      refine T_let 7656 (by decide +kernel) ?_
      refine T_if1 (z_ixl (n := 200) (by decide +kernel) (by omega) (by omega)) ?_
      refine T_leq (fun x20 e21 => ?_)
      have u22 := CI_b c (k := 7656) (j := a2) (bdr_7656 a2)
      refine T_ite (fun h23 => ?_) (fun h23 => ?_)
      · refine T_if1 (by decide +kernel) ?_
        refine T_let 3222 (by decide +kernel) ?_
        refine T_if1 (z_ixl (n := 200) (by decide +kernel) (by omega) (by omega)) ?_
        refine T_leq (fun x24 e25 => ?_)
        have u26 := CI_b c (k := 3222) (j := a2) (bdr_3222 a2)
        exact sj_X12_moves_309K_J79 hfu r0 s c f a2 a1 x24 (by omega) (by omega) (by omega) i0 i1 (by first | exact i2 | exact y_DD.z (by omega) (by omega)) i3 (by first | exact i4 | exact y_K.b0 (by omega) | exact y_K.k0 (by omega) | exact y_K.bk (by omega)) (by first | exact i5 | exact y_KM.z (by omega)) (2147483647 - a2) (by omega) (fun s' v1 v2 c' f' w1 w2 z0 z1 z2 z3 z4 z5 pg => ih s' v1 v2 c' f' w1 w2 z0 z1 z2 z3 z4 z5 (by omega)) hk
      · exact sj_X12_moves_309K_J79 hfu r0 s c f a2 a1 0 (by omega) (by omega) (by omega) i0 i1 (by first | exact i2 | exact y_DD.z (by omega) (by omega)) i3 (by first | exact i4 | exact y_K.b0 (by omega) | exact y_K.k0 (by omega) | exact y_K.bk (by omega)) (by first | exact i5 | exact y_KM.z (by omega)) (2147483647 - a2) (by omega) (fun s' v1 v2 c' f' w1 w2 z0 z1 z2 z3 z4 z5 pg => ih s' v1 v2 c' f' w1 w2 z0 z1 z2 z3 z4 z5 (by omega)) hk
set_option maxHeartbeats 4000000 in
theorem sf_X12_moves_309K {fu : Nat} (hfu : 8589934592 ≤ fu) (r0 : z_M) (c0 : z_CI r0) (p0 : y_TA r0) (p1 : y_DD r0) (p2 : y_B r0) (p3 : y_K r0) (p4 : y_KM r0) : z_T (fX12_moves fu r0 309) (P_X12_moves_309K r0) := by
  refine T_of (fX12_moves.eq_1 ..) ?_
  have u1 := CI_b c0 (k := 309) (j := 20) bd_309_20
  have u2 := CI_b c0 (k := 309) (j := 36) bd_309_36
  have u3 := CI_b c0 (k := 309) (j := 43) bd_309_43
  have u4 := CI_b c0 (k := 309) (j := 44) bd_309_44
  have u5 := CI_b c0 (k := 309) (j := 58) bd_309_58
  have u6 := CI_b c0 (k := 316) (j := 0) bd_316_0
  have u7 := CI_b c0 (k := 329) (j := 0) bd_329_0
  have u8 := CI_b c0 (k := 329) (j := 1) bd_329_1
  have r9 : y_SE r0 r0 := y_SE.z
  refine T_if1 (by decide +kernel) ?_
  refine T_upg c0 bd_309_0 (by omega) (fun s10 c11 g13 g14 e15 => ?_)
  have f12 := z_Fr.upf (R := R_X12_moves_309) z_Fr.rf g13 g14 (Or.inr (Or.inr (Or.inr (⟨rfl, by decide⟩))))
  have t16 : s10 309 20 = r0 309 20 := g14 20 (by decide)
  have t17 : s10 309 36 = r0 309 36 := g14 36 (by decide)
  have t18 : s10 309 43 = r0 309 43 := g14 43 (by decide)
  have t19 : s10 309 44 = r0 309 44 := g14 44 (by decide)
  have t20 : s10 309 58 = r0 309 58 := g14 58 (by decide)
  have t21 : s10 316 0 = r0 316 0 := g13 316 0 (by decide)
  have t22 : s10 329 0 = r0 329 0 := g13 329 0 (by decide)
  have t23 : s10 329 1 = r0 329 1 := g13 329 1 (by decide)
  have r24 := y_TA.fr p0 (fun a b h => g13 a b (by omega)) (fun a b h => g13 a b (by omega)) (fun a b h => g13 a b (by omega))
  have r25 := y_DD.fr p1 (g13 329 0 (by decide)) (g13 329 1 (by decide)) (fun b => g13 359 b (by decide)) (fun b => g13 374 b (by decide))
  have r26 := y_B.fr p2 (g14 20 (by decide)) (g13 316 0 (by decide)) (fun b => g13 3220 b (by decide)) (fun b => g13 3221 b (by decide)) (fun b => g13 3222 b (by decide)) (fun b => g13 361 b (by decide))
  have r27 := y_K.fr p3 (by omega) (by omega) (g14 44 (by decide)) (g14 20 (by decide)) (g14 58 (by decide)) (fun b => g13 3438 b (by decide)) (fun b => g13 3220 b (by decide)) (fun a b h => g13 a b (by omega))
  have r28 := y_KM.fr p4 (g14 20 (by decide)) (g14 36 (by decide)) (g14 38 (by decide)) (g14 39 (by decide)) (fun b => g13 312 b (by decide)) (fun b => g13 331 b (by decide)) (fun b => g13 346 b (by decide)) (fun b => g13 361 b (by decide)) (fun b => g13 391 b (by decide)) (fun a b h => g13 a b (by omega)) (fun a b h => g13 a b (by omega)) (fun a b h => g13 a b (by omega))
  have r29 := y_SE.fr r9 (fun b => g13 312 b (by decide))
  refine T_if1 (by decide +kernel) ?_
  refine T_useN (sf_X12_laysAll_309K hfu s10 c11 r26 (by first | exact r27 | exact y_K.b0 (by omega) | exact y_K.k0 (by omega) | exact y_K.bk (by omega)) (by first | exact r28 | exact y_KM.z (by omega))) (fun v35 s30 hq => ?_)
  obtain ⟨c31, f32, o36, o37, o38, o39, o40, o41, o42, rfl⟩ := hq
  refine T_vN ?_
  have f33 := z_Fr.tr (R := R_X12_moves_309) f12 f32 rs_X12_laysAll_309__X12_moves_309
  have t45 : s30 309 20 = r0 309 20 := (f32 309 20 (by decide)).trans t16
  have t46 : s30 316 0 = r0 316 0 := (f32 316 0 (by decide)).trans t21
  have t47 : s30 329 0 = r0 329 0 := (f32 329 0 (by decide)).trans t22
  have t48 : s30 329 1 = r0 329 1 := (f32 329 1 (by decide)).trans t23
  have u49 := CI_b c31 (k := 309) (j := 36) bd_309_36
  have u50 := CI_b c31 (k := 309) (j := 43) bd_309_43
  have u51 := CI_b c31 (k := 309) (j := 44) bd_309_44
  have u52 := CI_b c31 (k := 309) (j := 58) bd_309_58
  have r53 := y_TA.fr r24 (fun a b h => f32 a b (nz_X12_laysAll_309__316_328 a b h)) (fun a b h => f32 a b (nz_X12_laysAll_309__346_358 a b h)) (fun a b h => f32 a b (nz_X12_laysAll_309__361_373 a b h))
  have r54 := y_DD.fr r25 (f32 329 0 (by decide)) (f32 329 1 (by decide)) (fun b => f32 359 b (nr_X12_laysAll_309__359 b)) (fun b => f32 374 b (nr_X12_laysAll_309__374 b))
  have r55 := y_B.fr r26 (f32 309 20 (by decide)) (f32 316 0 (by decide)) (fun b => f32 3220 b (nr_X12_laysAll_309__3220 b)) (fun b => f32 3221 b (nr_X12_laysAll_309__3221 b)) (fun b => f32 3222 b (nr_X12_laysAll_309__3222 b)) (fun b => f32 361 b (nr_X12_laysAll_309__361 b))
  have r56 := y_SE.fr r29 (fun b => f32 312 b (nr_X12_laysAll_309__312 b))
  clear t16
  clear t21
  clear t22
  clear t23
  refine sl_X12_moves_309K_L11 hfu r0 (fun s57 c58 f59 g60 g61 g62 g63 g64 g65 => ?_) fu s30 0 c31 f33 (by omega) r56 r53 (by first | exact r54 | exact y_DD.z (by omega) (by omega)) r55 (by first | exact o36 | exact y_K.b0 (by omega) | exact y_K.k0 (by omega) | exact y_K.bk (by omega) | exact y_K.mk o37 (by omega) o38) (by first | exact o42 | exact y_KM.z (by omega)) (by omega)
  have u66 := CI_b c58 (k := 309) (j := 20) bd_309_20
  have u67 := CI_b c58 (k := 309) (j := 36) bd_309_36
  have u68 := CI_b c58 (k := 309) (j := 43) bd_309_43
  have u69 := CI_b c58 (k := 309) (j := 44) bd_309_44
  have u70 := CI_b c58 (k := 309) (j := 58) bd_309_58
  have u71 := CI_b c58 (k := 316) (j := 0) bd_316_0
  have u72 := CI_b c58 (k := 329) (j := 0) bd_329_0
  have u73 := CI_b c58 (k := 329) (j := 1) bd_329_1
  have t74 : s57 309 20 = r0 309 20 := f59 309 20 (by decide)
  have t75 : s57 316 0 = r0 316 0 := f59 316 0 (by decide)
  have t76 : s57 329 0 = r0 329 0 := f59 329 0 (by decide)
  have t77 : s57 329 1 = r0 329 1 := f59 329 1 (by decide)
  refine T_if1 (by decide +kernel) ?_
  refine T_useN (sf_X12_turnsOver_309K hfu s57 c58 g63 (by first | exact g64 | exact y_K.b0 (by omega) | exact y_K.k0 (by omega) | exact y_K.bk (by omega)) (by first | exact g65 | exact y_KM.z (by omega))) (fun v83 s78 hq => ?_)
  obtain ⟨c79, f80, o84, o85, o86, rfl⟩ := hq
  refine T_vN ?_
  have f81 := z_Fr.tr (R := R_X12_moves_309) f59 f80 rs_X12_turnsOver_309__X12_moves_309
  have t89 : s78 309 20 = s57 309 20 := f80 309 20 (by decide)
  have t90 : s78 316 0 = s57 316 0 := f80 316 0 (by decide)
  have t91 : s78 329 0 = s57 329 0 := f80 329 0 (by decide)
  have t92 : s78 329 1 = s57 329 1 := f80 329 1 (by decide)
  have u93 := CI_b c79 (k := 309) (j := 36) bd_309_36
  have u94 := CI_b c79 (k := 309) (j := 43) bd_309_43
  have u95 := CI_b c79 (k := 309) (j := 44) bd_309_44
  have u96 := CI_b c79 (k := 309) (j := 58) bd_309_58
  have r97 := y_TA.fr g61 (fun a b h => f80 a b (nz_X12_turnsOver_309__316_328 a b h)) (fun a b h => f80 a b (nz_X12_turnsOver_309__346_358 a b h)) (fun a b h => f80 a b (nz_X12_turnsOver_309__361_373 a b h))
  have r98 := y_DD.fr g62 (f80 329 0 (by decide)) (f80 329 1 (by decide)) (fun b => f80 359 b (nr_X12_turnsOver_309__359 b)) (fun b => f80 374 b (nr_X12_turnsOver_309__374 b))
  have r99 := y_B.fr g63 (f80 309 20 (by decide)) (f80 316 0 (by decide)) (fun b => f80 3220 b (nr_X12_turnsOver_309__3220 b)) (fun b => f80 3221 b (nr_X12_turnsOver_309__3221 b)) (fun b => f80 3222 b (nr_X12_turnsOver_309__3222 b)) (fun b => f80 361 b (nr_X12_turnsOver_309__361 b))
  have r100 := y_S5.of o85 g60
  refine sl_X12_moves_309K_L45 hfu r0 (fun s101 y104 c102 f103 b105 g106 g107 g108 g109 g110 g111 => ?_) fu s78 0 0 c79 f81 (by omega) (by omega) (by first | exact r100 | exact o85) r97 (by first | exact r98 | exact y_DD.z (by omega) (by omega)) r99 (by first | exact o84 | exact y_K.b0 (by omega) | exact y_K.k0 (by omega) | exact y_K.bk (by omega)) (by first | exact o86 | exact y_KM.z (by omega)) (by omega)
  have u112 := CI_b c102 (k := 309) (j := 20) bd_309_20
  have u113 := CI_b c102 (k := 309) (j := 36) bd_309_36
  have u114 := CI_b c102 (k := 309) (j := 43) bd_309_43
  have u115 := CI_b c102 (k := 309) (j := 44) bd_309_44
  have u116 := CI_b c102 (k := 309) (j := 58) bd_309_58
  have u117 := CI_b c102 (k := 316) (j := 0) bd_316_0
  have u118 := CI_b c102 (k := 329) (j := 0) bd_329_0
  have u119 := CI_b c102 (k := 329) (j := 1) bd_329_1
  have t120 : s101 309 20 = r0 309 20 := f103 309 20 (by decide)
  have t121 : s101 316 0 = r0 316 0 := f103 316 0 (by decide)
  have t122 : s101 329 0 = r0 329 0 := f103 329 0 (by decide)
  have t123 : s101 329 1 = r0 329 1 := f103 329 1 (by decide)
  refine T_if1 (by decide +kernel) ?_
  refine T_useN (sf_X12_turnsOver_309K hfu s101 c102 g109 (by first | exact g110 | exact y_K.b0 (by omega) | exact y_K.k0 (by omega) | exact y_K.bk (by omega)) (by first | exact g111 | exact y_KM.z (by omega))) (fun v129 s124 hq => ?_)
  obtain ⟨c125, f126, o130, o131, o132, rfl⟩ := hq
  refine T_vN ?_
  have f127 := z_Fr.tr (R := R_X12_moves_309) f103 f126 rs_X12_turnsOver_309__X12_moves_309
  have t135 : s124 309 20 = s101 309 20 := f126 309 20 (by decide)
  have t136 : s124 316 0 = s101 316 0 := f126 316 0 (by decide)
  have t137 : s124 329 0 = s101 329 0 := f126 329 0 (by decide)
  have t138 : s124 329 1 = s101 329 1 := f126 329 1 (by decide)
  have u139 := CI_b c125 (k := 309) (j := 36) bd_309_36
  have u140 := CI_b c125 (k := 309) (j := 43) bd_309_43
  have u141 := CI_b c125 (k := 309) (j := 44) bd_309_44
  have u142 := CI_b c125 (k := 309) (j := 58) bd_309_58
  have r143 := y_TA.fr g107 (fun a b h => f126 a b (nz_X12_turnsOver_309__316_328 a b h)) (fun a b h => f126 a b (nz_X12_turnsOver_309__346_358 a b h)) (fun a b h => f126 a b (nz_X12_turnsOver_309__361_373 a b h))
  have r144 := y_DD.fr g108 (f126 329 0 (by decide)) (f126 329 1 (by decide)) (fun b => f126 359 b (nr_X12_turnsOver_309__359 b)) (fun b => f126 374 b (nr_X12_turnsOver_309__374 b))
  have r145 := y_B.fr g109 (f126 309 20 (by decide)) (f126 316 0 (by decide)) (fun b => f126 3220 b (nr_X12_turnsOver_309__3220 b)) (fun b => f126 3221 b (nr_X12_turnsOver_309__3221 b)) (fun b => f126 3222 b (nr_X12_turnsOver_309__3222 b)) (fun b => f126 361 b (nr_X12_turnsOver_309__361 b))
  have r146 := y_SE.two g106 o131 (CI_b c0 (k := 312) (j := 5) (bdr_312 5))
  exact T_ret ⟨c125, f127, r146, r143, (by first | exact r144 | exact y_DD.z (by omega) (by omega)), r145, (by first | exact o130 | exact y_K.b0 (by omega) | exact y_K.k0 (by omega) | exact y_K.bk (by omega)), (by first | exact o132 | exact y_KM.z (by omega)), ⟨y104, rfl, by omega, by omega⟩⟩
abbrev P_X12_nearest_309K (r0 : z_M) : z_V → z_M → Prop := fun v s' => z_CI s' ∧ z_Fr R_X12_nearest_309 r0 s' ∧ (y_TA s') ∧ (y_DD s') ∧ (y_B s') ∧ (y_K s') ∧ (y_KM s') ∧ (∃ x, v = vI x ∧ -2147483648 ≤ x ∧ x ≤ 2147483647)
theorem sj_X12_nearest_309K_J150 {fu : Nat} (hfu : 8589934592 ≤ fu) (r0 s : z_M) (c : z_CI s) (f : z_Fr R_X12_nearest_309 r0 s) (a1 : Int) (a2 : Int) (a3 : Int) (a4 : Int) (a5 : Int) (b1 : -2147483648 ≤ a1 ∧ a1 ≤ 2147483647) (b2 : -2147483648 ≤ a2 ∧ a2 ≤ 2147483647) (b3 : -2147483648 ≤ a3 ∧ a3 ≤ 2147483647) (b4 : 0 ≤ a4 ∧ a4 ≤ 199) (b5 : 0 ≤ a5 ∧ a5 ≤ 1) (p0 : y_BK s) (p1 : a4 < s 309 58) (p2 : y_TA s) (p3 : y_DD s) (p4 : y_B s) (p5 : y_K s) (p6 : y_KM s) (M : Int) (pm : 2147483647 - a5 ≤ M) {r : z_M → Int → Int → Int → z_O} {k : z_M → Int → Int → z_O} (hr : ∀ (s' : z_M) (v2 : Int) (v3 : Int) (v5 : Int), z_CI s' → z_Fr R_X12_nearest_309 r0 s' → (-2147483648 ≤ v2 ∧ v2 ≤ 2147483647) → (-2147483648 ≤ v3 ∧ v3 ≤ 2147483647) → (0 ≤ v5 ∧ v5 ≤ 2) → (y_BK s') → (a4 < s' 309 58) → (y_TA s') → (y_DD s') → (y_B s') → (y_K s') → (y_KM s') → (2147483647 - v5 < M) → z_T (r s' v2 v3 v5) (P_X12_nearest_309K r0)) (hk : ∀ (s' : z_M) (v2 : Int) (v3 : Int), z_CI s' → z_Fr R_X12_nearest_309 r0 s' → (-2147483648 ≤ v2 ∧ v2 ≤ 2147483647) → (-2147483648 ≤ v3 ∧ v3 ≤ 2147483647) → (y_BK s') → (y_TA s') → (y_DD s') → (y_B s') → (y_K s') → (y_KM s') → z_T (k s' v2 v3) (P_X12_nearest_309K r0)) : z_T (fX12_nearest_J150 fu s 309 a1 a2 a3 a4 a5 r k) (P_X12_nearest_309K r0) := by
  refine T_of (fX12_nearest_J150.eq_1 ..) ?_
  have u1 := CI_b c (k := 309) (j := 20) bd_309_20
  have u2 := CI_b c (k := 309) (j := 36) bd_309_36
  have u3 := CI_b c (k := 309) (j := 43) bd_309_43
  have u4 := CI_b c (k := 309) (j := 44) bd_309_44
  have u5 := CI_b c (k := 309) (j := 58) bd_309_58
  have u6 := CI_b c (k := 316) (j := 0) bd_316_0
  have u7 := CI_b c (k := 329) (j := 0) bd_329_0
  have u8 := CI_b c (k := 329) (j := 1) bd_329_1
  have t9 : s 309 20 = r0 309 20 := f 309 20 (by decide)
  have t10 : s 316 0 = r0 316 0 := f 316 0 (by decide)
  have t11 : s 329 0 = r0 329 0 := f 329 0 (by decide)
  have t12 : s 329 1 = r0 329 1 := f 329 1 (by decide)
  refine T_leq (fun x13 e14 => ?_)
  first | (have w15 := z_wx e14 (by omega)) | (have w15 := z_wr e14)
  exact hr s a2 a3 x13 c f (by omega) (by omega) (by omega) (by first | exact p0 | exact y_K.B p5 (by omega) (by omega)) (by omega) p2 (by first | exact p3 | exact y_DD.z (by omega) (by omega)) p4 (by first | exact p5 | exact y_K.b0 (by omega) | exact y_K.k0 (by omega) | exact y_K.bk (by omega)) (by first | exact p6 | exact y_KM.z (by omega)) (by omega)
theorem sj_X12_nearest_309K_J140 {fu : Nat} (hfu : 8589934592 ≤ fu) (r0 s : z_M) (c : z_CI s) (f : z_Fr R_X12_nearest_309 r0 s) (a1 : Int) (a4 : Int) (a5 : Int) (a8 : Int) (b1 : -2147483648 ≤ a1 ∧ a1 ≤ 2147483647) (b4 : 0 ≤ a4 ∧ a4 ≤ 199) (b5 : 0 ≤ a5 ∧ a5 ≤ 1) (b8 : -2147483648 ≤ a8 ∧ a8 ≤ 2147483647) (p0 : y_BK s) (p1 : a4 < s 309 58) (p2 : y_TA s) (p3 : y_DD s) (p4 : y_B s) (p5 : y_K s) (p6 : y_KM s) (M : Int) (pm : 2147483647 - a5 ≤ M) {r : z_M → Int → Int → Int → z_O} {k : z_M → Int → Int → z_O} (hr : ∀ (s' : z_M) (v2 : Int) (v3 : Int) (v5 : Int), z_CI s' → z_Fr R_X12_nearest_309 r0 s' → (-2147483648 ≤ v2 ∧ v2 ≤ 2147483647) → (-2147483648 ≤ v3 ∧ v3 ≤ 2147483647) → (0 ≤ v5 ∧ v5 ≤ 2) → (y_BK s') → (a4 < s' 309 58) → (y_TA s') → (y_DD s') → (y_B s') → (y_K s') → (y_KM s') → (2147483647 - v5 < M) → z_T (r s' v2 v3 v5) (P_X12_nearest_309K r0)) (hk : ∀ (s' : z_M) (v2 : Int) (v3 : Int), z_CI s' → z_Fr R_X12_nearest_309 r0 s' → (-2147483648 ≤ v2 ∧ v2 ≤ 2147483647) → (-2147483648 ≤ v3 ∧ v3 ≤ 2147483647) → (y_BK s') → (y_TA s') → (y_DD s') → (y_B s') → (y_K s') → (y_KM s') → z_T (k s' v2 v3) (P_X12_nearest_309K r0)) : z_T (fX12_nearest_J140 fu s 309 a1 a4 a5 a8 r k) (P_X12_nearest_309K r0) := by
  refine T_of (fX12_nearest_J140.eq_1 ..) ?_
  have u1 := CI_b c (k := 309) (j := 20) bd_309_20
  have u2 := CI_b c (k := 309) (j := 36) bd_309_36
  have u3 := CI_b c (k := 309) (j := 43) bd_309_43
  have u4 := CI_b c (k := 309) (j := 44) bd_309_44
  have u5 := CI_b c (k := 309) (j := 58) bd_309_58
  have u6 := CI_b c (k := 316) (j := 0) bd_316_0
  have u7 := CI_b c (k := 329) (j := 0) bd_329_0
  have u8 := CI_b c (k := 329) (j := 1) bd_329_1
  have t9 : s 309 20 = r0 309 20 := f 309 20 (by decide)
  have t10 : s 316 0 = r0 316 0 := f 316 0 (by decide)
  have t11 : s 329 0 = r0 329 0 := f 329 0 (by decide)
  have t12 : s 329 1 = r0 329 1 := f 329 1 (by decide)
  refine T_if1 (by decide +kernel) ?_
  refine T_useI (sf_X12_lineOfBlock_309 hfu s c a4 (by omega)) (fun v18 s13 hq => ?_)
  obtain ⟨c14, f15, ⟨x17, rfl, b19, b20⟩⟩ := hq
  refine T_vI ?_
  have q21 := z_Fr.eq (fun a b h => h) f15
  subst q21
  exact sj_X12_nearest_309K_J150 hfu r0 s c f a1 x17 a8 a4 a5 (by omega) (by omega) (by omega) (by omega) (by omega) (by first | exact p0 | exact y_K.B p5 (by omega) (by omega)) (by omega) p2 (by first | exact p3 | exact y_DD.z (by omega) (by omega)) p4 (by first | exact p5 | exact y_K.b0 (by omega) | exact y_K.k0 (by omega) | exact y_K.bk (by omega)) (by first | exact p6 | exact y_KM.z (by omega)) M (by omega) (fun s' v2 v3 v5 c' f' w2 w3 w5 z0 z1 z2 z3 z4 z5 z6 pg => hr s' v2 v3 v5 c' f' w2 w3 w5 z0 z1 z2 z3 z4 z5 z6 (by omega)) hk
theorem sj_X12_nearest_309K_J88 {fu : Nat} (hfu : 8589934592 ≤ fu) (r0 s : z_M) (c : z_CI s) (f : z_Fr R_X12_nearest_309 r0 s) (a1 : Int) (a2 : Int) (a3 : Int) (a4 : Int) (a5 : Int) (a6 : Int) (t0 : Int) (b1 : -2147483648 ≤ a1 ∧ a1 ≤ 2147483647) (b2 : -2147483648 ≤ a2 ∧ a2 ≤ 2147483647) (b3 : -2147483648 ≤ a3 ∧ a3 ≤ 2147483647) (b4 : 0 ≤ a4 ∧ a4 ≤ 199) (b5 : 0 ≤ a5 ∧ a5 ≤ 1) (b6 : 0 ≤ a6 ∧ a6 ≤ 1800) (d0 : (-1) ≤ t0 ∧ t0 ≤ 199) (p0 : y_BK s) (p1 : a4 < s 309 58) (p2 : t0 = -1 ∨ (0 ≤ t0 ∧ t0 < s 309 58 ∧ 1 ≤ y_ls s t0 a5 ∧ 1 ≤ y_ls s a4 a5)) (p3 : y_TA s) (p4 : y_DD s) (p5 : y_B s) (p6 : y_K s) (p7 : y_KM s) (M : Int) (pm : 2147483647 - a5 ≤ M) {r : z_M → Int → Int → Int → z_O} {k : z_M → Int → Int → z_O} (hr : ∀ (s' : z_M) (v2 : Int) (v3 : Int) (v5 : Int), z_CI s' → z_Fr R_X12_nearest_309 r0 s' → (-2147483648 ≤ v2 ∧ v2 ≤ 2147483647) → (-2147483648 ≤ v3 ∧ v3 ≤ 2147483647) → (0 ≤ v5 ∧ v5 ≤ 2) → (y_BK s') → (a4 < s' 309 58) → (y_TA s') → (y_DD s') → (y_B s') → (y_K s') → (y_KM s') → (2147483647 - v5 < M) → z_T (r s' v2 v3 v5) (P_X12_nearest_309K r0)) (hk : ∀ (s' : z_M) (v2 : Int) (v3 : Int), z_CI s' → z_Fr R_X12_nearest_309 r0 s' → (-2147483648 ≤ v2 ∧ v2 ≤ 2147483647) → (-2147483648 ≤ v3 ∧ v3 ≤ 2147483647) → (y_BK s') → (y_TA s') → (y_DD s') → (y_B s') → (y_K s') → (y_KM s') → z_T (k s' v2 v3) (P_X12_nearest_309K r0)) : z_T (fX12_nearest_J88 fu s 309 a1 a2 a3 a4 a5 a6 t0 r k) (P_X12_nearest_309K r0) := by
  refine T_of (fX12_nearest_J88.eq_1 ..) ?_
  have u1 := CI_b c (k := 309) (j := 20) bd_309_20
  have u2 := CI_b c (k := 309) (j := 36) bd_309_36
  have u3 := CI_b c (k := 309) (j := 43) bd_309_43
  have u4 := CI_b c (k := 309) (j := 44) bd_309_44
  have u5 := CI_b c (k := 309) (j := 58) bd_309_58
  have u6 := CI_b c (k := 316) (j := 0) bd_316_0
  have u7 := CI_b c (k := 329) (j := 0) bd_329_0
  have u8 := CI_b c (k := 329) (j := 1) bd_329_1
  have t9 : s 309 20 = r0 309 20 := f 309 20 (by decide)
  have t10 : s 316 0 = r0 316 0 := f 316 0 (by decide)
  have t11 : s 329 0 = r0 329 0 := f 329 0 (by decide)
  have t12 : s 329 1 = r0 329 1 := f 329 1 (by decide)
  refine T_ite (fun h13 => ?_) (fun h13 => ?_)
  · refine T_if1 (by decide +kernel) ?_
    refine T_useI (sf_X12_letterPlace_309 hfu s c t0 a5 0 (by omega) (by omega) (by omega) p5 (by first | exact p0 | exact y_K.B p6 (by omega) (by omega)) (by omega) (by omega)) (fun v19 s14 hq => ?_)
    obtain ⟨c15, f16, ⟨x18, rfl, b20, b21⟩⟩ := hq
    refine T_vI ?_
    have q22 := z_Fr.eq (fun a b h => h) f16
    subst q22
    refine T_leq (fun x23 e24 => ?_)
    first | (have w25 := z_wx e24 (by omega)) | (have w25 := z_wr e24)
    refine T_if1 (by decide +kernel) ?_
    refine T_useI (sf_X12_letterPlace_309 hfu s c a4 a5 x23 (by omega) (by omega) (by omega) p5 (by first | exact p0 | exact y_K.B p6 (by omega) (by omega)) (by omega) (by omega)) (fun v31 s26 hq => ?_)
    obtain ⟨c27, f28, ⟨x30, rfl, b32, b33⟩⟩ := hq
    refine T_vI ?_
    have q34 := z_Fr.eq (fun a b h => h) f28
    subst q34
    refine T_leq (fun x35 e36 => ?_)
    first | (have w37 := z_wx e36 (by omega)) | (have w37 := z_wr e36)
    refine T_leq (fun x38 e39 => ?_)
    first | (have w40 := z_wx e39 (by omega)) | (have w40 := z_wr e39)
    refine T_ite (fun h41 => ?_) (fun h41 => ?_)
    · exact sj_X12_nearest_309K_J140 hfu r0 s c f a1 a4 a5 x38 (by omega) (by omega) (by omega) (by omega) (by first | exact p0 | exact y_K.B p6 (by omega) (by omega)) (by omega) p3 (by first | exact p4 | exact y_DD.z (by omega) (by omega)) p5 (by first | exact p6 | exact y_K.b0 (by omega) | exact y_K.k0 (by omega) | exact y_K.bk (by omega)) (by first | exact p7 | exact y_KM.z (by omega)) M (by omega) (fun s' v2 v3 v5 c' f' w2 w3 w5 z0 z1 z2 z3 z4 z5 z6 pg => hr s' v2 v3 v5 c' f' w2 w3 w5 z0 z1 z2 z3 z4 z5 z6 (by omega)) hk
    · refine T_ite (fun h42 => ?_) (fun h42 => ?_)
      · exact sj_X12_nearest_309K_J140 hfu r0 s c f a1 a4 a5 x38 (by omega) (by omega) (by omega) (by omega) (by first | exact p0 | exact y_K.B p6 (by omega) (by omega)) (by omega) p3 (by first | exact p4 | exact y_DD.z (by omega) (by omega)) p5 (by first | exact p6 | exact y_K.b0 (by omega) | exact y_K.k0 (by omega) | exact y_K.bk (by omega)) (by first | exact p7 | exact y_KM.z (by omega)) M (by omega) (fun s' v2 v3 v5 c' f' w2 w3 w5 z0 z1 z2 z3 z4 z5 z6 pg => hr s' v2 v3 v5 c' f' w2 w3 w5 z0 z1 z2 z3 z4 z5 z6 (by omega)) hk
      · exact sj_X12_nearest_309K_J150 hfu r0 s c f a1 a2 a3 a4 a5 (by omega) (by omega) (by omega) (by omega) (by omega) (by first | exact p0 | exact y_K.B p6 (by omega) (by omega)) (by omega) p3 (by first | exact p4 | exact y_DD.z (by omega) (by omega)) p5 (by first | exact p6 | exact y_K.b0 (by omega) | exact y_K.k0 (by omega) | exact y_K.bk (by omega)) (by first | exact p7 | exact y_KM.z (by omega)) M (by omega) (fun s' v2 v3 v5 c' f' w2 w3 w5 z0 z1 z2 z3 z4 z5 z6 pg => hr s' v2 v3 v5 c' f' w2 w3 w5 z0 z1 z2 z3 z4 z5 z6 (by omega)) hk
  · exact sj_X12_nearest_309K_J150 hfu r0 s c f a1 a2 a3 a4 a5 (by omega) (by omega) (by omega) (by omega) (by omega) (by first | exact p0 | exact y_K.B p6 (by omega) (by omega)) (by omega) p3 (by first | exact p4 | exact y_DD.z (by omega) (by omega)) p5 (by first | exact p6 | exact y_K.b0 (by omega) | exact y_K.k0 (by omega) | exact y_K.bk (by omega)) (by first | exact p7 | exact y_KM.z (by omega)) M (by omega) (fun s' v2 v3 v5 c' f' w2 w3 w5 z0 z1 z2 z3 z4 z5 z6 pg => hr s' v2 v3 v5 c' f' w2 w3 w5 z0 z1 z2 z3 z4 z5 z6 (by omega)) hk
theorem sl_X12_nearest_309K_L55 {fu : Nat} (hfu : 8589934592 ≤ fu) (r0 : z_M) (a1 : Int) (a4 : Int) (b1 : -2147483648 ≤ a1 ∧ a1 ≤ 2147483647) (b4 : 0 ≤ a4 ∧ a4 ≤ 199) {k : z_M → Int → Int → z_O} (hk : ∀ (s' : z_M) (v2 : Int) (v3 : Int), z_CI s' → z_Fr R_X12_nearest_309 r0 s' → (-2147483648 ≤ v2 ∧ v2 ≤ 2147483647) → (-2147483648 ≤ v3 ∧ v3 ≤ 2147483647) → (y_BK s') → (y_TA s') → (y_DD s') → (y_B s') → (y_K s') → (y_KM s') → z_T (k s' v2 v3) (P_X12_nearest_309K r0)) : ∀ (F : Nat) (s : z_M) (a2 : Int) (a3 : Int) (a5 : Int), z_CI s → z_Fr R_X12_nearest_309 r0 s → (-2147483648 ≤ a2 ∧ a2 ≤ 2147483647) → (-2147483648 ≤ a3 ∧ a3 ≤ 2147483647) → (0 ≤ a5 ∧ a5 ≤ 2) → (y_BK s) → (a4 < s 309 58) → (y_TA s) → (y_DD s) → (y_B s) → (y_K s) → (y_KM s) → (2147483647 - a5 < (F : Int)) → z_T (fX12_nearest_L55 fu 309 a1 a4 F s a2 a3 a5 k) (P_X12_nearest_309K r0) := by
  intro F
  induction F with
  | zero =>
    intro s a2 a3 a5 c f b2 b3 b5 i0 i1 i2 i3 i4 i5 i6 hm
    have u36 := CI_b c (k := 309) (j := 20) bd_309_20
    have u37 := CI_b c (k := 309) (j := 36) bd_309_36
    have u38 := CI_b c (k := 309) (j := 43) bd_309_43
    have u39 := CI_b c (k := 309) (j := 44) bd_309_44
    have u40 := CI_b c (k := 309) (j := 58) bd_309_58
    have u41 := CI_b c (k := 316) (j := 0) bd_316_0
    have u42 := CI_b c (k := 329) (j := 0) bd_329_0
    have u43 := CI_b c (k := 329) (j := 1) bd_329_1
    exfalso; omega
  | succ F ih =>
    intro s a2 a3 a5 c f b2 b3 b5 i0 i1 i2 i3 i4 i5 i6 hm
    refine T_of (fX12_nearest_L55.eq_2 ..) ?_
    have u1 := CI_b c (k := 309) (j := 20) bd_309_20
    have u2 := CI_b c (k := 309) (j := 36) bd_309_36
    have u3 := CI_b c (k := 309) (j := 43) bd_309_43
    have u4 := CI_b c (k := 309) (j := 44) bd_309_44
    have u5 := CI_b c (k := 309) (j := 58) bd_309_58
    have u6 := CI_b c (k := 316) (j := 0) bd_316_0
    have u7 := CI_b c (k := 329) (j := 0) bd_329_0
    have u8 := CI_b c (k := 329) (j := 1) bd_329_1
    have t9 : s 309 20 = r0 309 20 := f 309 20 (by decide)
    have t10 : s 316 0 = r0 316 0 := f 316 0 (by decide)
    have t11 : s 329 0 = r0 329 0 := f 329 0 (by decide)
    have t12 : s 329 1 = r0 329 1 := f 329 1 (by decide)
    refine T_ite (fun h13 => ?_) (fun h13 => ?_)
    · exact hk s a2 a3 c f (by omega) (by omega) (by first | exact i0 | exact y_K.B i5 (by omega) (by omega)) i2 (by first | exact i3 | exact y_DD.z (by omega) (by omega)) i4 (by first | exact i5 | exact y_K.b0 (by omega) | exact y_K.k0 (by omega) | exact y_K.bk (by omega)) (by first | exact i6 | exact y_KM.z (by omega))
    · refine T_if1 (by decide +kernel) ?_
      refine T_useI (sf_X12_lettersIn_309 hfu s c a4 a5 (by omega) (by omega) i4 (by first | exact i0 | exact y_K.B i5 (by omega) (by omega)) (by omega)) (fun v19 s14 hq => ?_)
      obtain ⟨c15, f16, ⟨x18, rfl, b20, b21, o22, o23⟩⟩ := hq
      refine T_vI ?_
      have q24 := z_Fr.eq (fun a b h => h) f16
      subst q24
      refine T_ite (fun h25 => ?_) (fun h25 => ?_)
      · refine T_if1 (by decide +kernel) ?_
        refine T_useI (sf_X12_nextBlock_309 hfu s c a4 a5 (by omega) (by omega) i4 (by first | exact i0 | exact y_K.B i5 (by omega) (by omega)) (by omega)) (fun v31 s26 hq => ?_)
        obtain ⟨c27, f28, ⟨x30, rfl, b32, b33, o34⟩⟩ := hq
        refine T_vI ?_
        have q35 := z_Fr.eq (fun a b h => h) f28
        subst q35
        exact sj_X12_nearest_309K_J88 hfu r0 s c f a1 a2 a3 a4 a5 x18 x30 (by omega) (by omega) (by omega) (by omega) (by omega) (by omega) (by omega) (by first | exact i0 | exact y_K.B i5 (by omega) (by omega)) (by omega) (by omega) i2 (by first | exact i3 | exact y_DD.z (by omega) (by omega)) i4 (by first | exact i5 | exact y_K.b0 (by omega) | exact y_K.k0 (by omega) | exact y_K.bk (by omega)) (by first | exact i6 | exact y_KM.z (by omega)) (2147483647 - a5) (by omega) (fun s' v2 v3 v5 c' f' w2 w3 w5 z0 z1 z2 z3 z4 z5 z6 pg => ih s' v2 v3 v5 c' f' w2 w3 w5 z0 z1 z2 z3 z4 z5 z6 (by omega)) hk
      · exact sj_X12_nearest_309K_J88 hfu r0 s c f a1 a2 a3 a4 a5 x18 (-1) (by omega) (by omega) (by omega) (by omega) (by omega) (by omega) (by omega) (by first | exact i0 | exact y_K.B i5 (by omega) (by omega)) (by omega) (by omega) i2 (by first | exact i3 | exact y_DD.z (by omega) (by omega)) i4 (by first | exact i5 | exact y_K.b0 (by omega) | exact y_K.k0 (by omega) | exact y_K.bk (by omega)) (by first | exact i6 | exact y_KM.z (by omega)) (2147483647 - a5) (by omega) (fun s' v2 v3 v5 c' f' w2 w3 w5 z0 z1 z2 z3 z4 z5 z6 pg => ih s' v2 v3 v5 c' f' w2 w3 w5 z0 z1 z2 z3 z4 z5 z6 (by omega)) hk
theorem sl_X12_nearest_309K_L43 {fu : Nat} (hfu : 8589934592 ≤ fu) (r0 : z_M) (a1 : Int) (b1 : -2147483648 ≤ a1 ∧ a1 ≤ 2147483647) {k : z_M → Int → Int → z_O} (hk : ∀ (s' : z_M) (v2 : Int) (v3 : Int), z_CI s' → z_Fr R_X12_nearest_309 r0 s' → (-2147483648 ≤ v2 ∧ v2 ≤ 2147483647) → (-2147483648 ≤ v3 ∧ v3 ≤ 2147483647) → (y_TA s') → (y_DD s') → (y_B s') → (y_K s') → (y_KM s') → z_T (k s' v2 v3) (P_X12_nearest_309K r0)) : ∀ (F : Nat) (s : z_M) (a2 : Int) (a3 : Int) (a4 : Int), z_CI s → z_Fr R_X12_nearest_309 r0 s → (-2147483648 ≤ a2 ∧ a2 ≤ 2147483647) → (-2147483648 ≤ a3 ∧ a3 ≤ 2147483647) → (0 ≤ a4 ∧ a4 ≤ 200) → (y_BK s) → (y_TA s) → (y_DD s) → (y_B s) → (y_K s) → (y_KM s) → (2147483647 - a4 < (F : Int)) → z_T (fX12_nearest_L43 fu 309 a1 F s a2 a3 a4 k) (P_X12_nearest_309K r0) := by
  intro F
  induction F with
  | zero =>
    intro s a2 a3 a4 c f b2 b3 b4 i0 i1 i2 i3 i4 i5 hm
    have u45 := CI_b c (k := 309) (j := 20) bd_309_20
    have u46 := CI_b c (k := 309) (j := 36) bd_309_36
    have u47 := CI_b c (k := 309) (j := 43) bd_309_43
    have u48 := CI_b c (k := 309) (j := 44) bd_309_44
    have u49 := CI_b c (k := 309) (j := 58) bd_309_58
    have u50 := CI_b c (k := 316) (j := 0) bd_316_0
    have u51 := CI_b c (k := 329) (j := 0) bd_329_0
    have u52 := CI_b c (k := 329) (j := 1) bd_329_1
    exfalso; omega
  | succ F ih =>
    intro s a2 a3 a4 c f b2 b3 b4 i0 i1 i2 i3 i4 i5 hm
    refine T_of (fX12_nearest_L43.eq_2 ..) ?_
    have u1 := CI_b c (k := 309) (j := 20) bd_309_20
    have u2 := CI_b c (k := 309) (j := 36) bd_309_36
    have u3 := CI_b c (k := 309) (j := 43) bd_309_43
    have u4 := CI_b c (k := 309) (j := 44) bd_309_44
    have u5 := CI_b c (k := 309) (j := 58) bd_309_58
    have u6 := CI_b c (k := 316) (j := 0) bd_316_0
    have u7 := CI_b c (k := 329) (j := 0) bd_329_0
    have u8 := CI_b c (k := 329) (j := 1) bd_329_1
    have t9 : s 309 20 = r0 309 20 := f 309 20 (by decide)
    have t10 : s 316 0 = r0 316 0 := f 316 0 (by decide)
    have t11 : s 329 0 = r0 329 0 := f 329 0 (by decide)
    have t12 : s 329 1 = r0 329 1 := f 329 1 (by decide)
    refine T_if1 (by decide +kernel) ?_
    refine T_leq (fun x13 e14 => ?_)
    have u15 := CI_b c (k := 309) (j := 58) bd_309_58
    refine T_ite (fun h16 => ?_) (fun h16 => ?_)
    · exact hk s a2 a3 c f (by omega) (by omega) i1 (by first | exact i2 | exact y_DD.z (by omega) (by omega)) i3 (by first | exact i4 | exact y_K.b0 (by omega) | exact y_K.k0 (by omega) | exact y_K.bk (by omega)) (by first | exact i5 | exact y_KM.z (by omega))
    · refine sl_X12_nearest_309K_L55 hfu r0 a1 a4 (by omega) (by omega) (fun s17 y20 y21 c18 f19 b22 b23 g24 g25 g26 g27 g28 g29 => ?_) fu s a2 a3 0 c f (by omega) (by omega) (by omega) (by first | exact i0 | exact y_K.B i4 (by omega) (by omega)) (by omega) i1 (by first | exact i2 | exact y_DD.z (by omega) (by omega)) i3 (by first | exact i4 | exact y_K.b0 (by omega) | exact y_K.k0 (by omega) | exact y_K.bk (by omega)) (by first | exact i5 | exact y_KM.z (by omega)) (by omega)
      have u30 := CI_b c18 (k := 309) (j := 20) bd_309_20
      have u31 := CI_b c18 (k := 309) (j := 36) bd_309_36
      have u32 := CI_b c18 (k := 309) (j := 43) bd_309_43
      have u33 := CI_b c18 (k := 309) (j := 44) bd_309_44
      have u34 := CI_b c18 (k := 309) (j := 58) bd_309_58
      have u35 := CI_b c18 (k := 316) (j := 0) bd_316_0
      have u36 := CI_b c18 (k := 329) (j := 0) bd_329_0
      have u37 := CI_b c18 (k := 329) (j := 1) bd_329_1
      have t38 : s17 309 20 = r0 309 20 := f19 309 20 (by decide)
      have t39 : s17 316 0 = r0 316 0 := f19 316 0 (by decide)
      have t40 : s17 329 0 = r0 329 0 := f19 329 0 (by decide)
      have t41 : s17 329 1 = r0 329 1 := f19 329 1 (by decide)
      refine T_leq (fun x42 e43 => ?_)
      first | (have w44 := z_wx e43 (by omega)) | (have w44 := z_wr e43)
      exact ih s17 y20 y21 x42 c18 f19 (by omega) (by omega) (by omega) (by first | exact g24 | exact y_K.B g28 (by omega) (by omega)) g25 (by first | exact g26 | exact y_DD.z (by omega) (by omega)) g27 (by first | exact g28 | exact y_K.b0 (by omega) | exact y_K.k0 (by omega) | exact y_K.bk (by omega)) (by first | exact g29 | exact y_KM.z (by omega)) (by omega)
theorem sj_X12_nearest_309K_J171 {fu : Nat} (hfu : 8589934592 ≤ fu) (r0 s : z_M) (c : z_CI s) (f : z_Fr R_X12_nearest_309 r0 s) (t0 : Int) (d0 : -2147483648 ≤ t0 ∧ t0 ≤ 2147483647) (p0 : y_TA s) (p1 : y_DD s) (p2 : y_B s) (p3 : y_K s) (p4 : y_KM s) : z_T (fX12_nearest_J171 fu s t0) (P_X12_nearest_309K r0) := by
  refine T_of (fX12_nearest_J171.eq_1 ..) ?_
  have u1 := CI_b c (k := 309) (j := 20) bd_309_20
  have u2 := CI_b c (k := 309) (j := 36) bd_309_36
  have u3 := CI_b c (k := 309) (j := 43) bd_309_43
  have u4 := CI_b c (k := 309) (j := 44) bd_309_44
  have u5 := CI_b c (k := 309) (j := 58) bd_309_58
  have u6 := CI_b c (k := 316) (j := 0) bd_316_0
  have u7 := CI_b c (k := 329) (j := 0) bd_329_0
  have u8 := CI_b c (k := 329) (j := 1) bd_329_1
  have t9 : s 309 20 = r0 309 20 := f 309 20 (by decide)
  have t10 : s 316 0 = r0 316 0 := f 316 0 (by decide)
  have t11 : s 329 0 = r0 329 0 := f 329 0 (by decide)
  have t12 : s 329 1 = r0 329 1 := f 329 1 (by decide)
  exact T_ret ⟨c, f, p0, (by first | exact p1 | exact y_DD.z (by omega) (by omega)), p2, (by first | exact p3 | exact y_K.b0 (by omega) | exact y_K.k0 (by omega) | exact y_K.bk (by omega)), (by first | exact p4 | exact y_KM.z (by omega)), ⟨t0, rfl, by omega, by omega⟩⟩
theorem sj_X12_nearest_309K_J20 {fu : Nat} (hfu : 8589934592 ≤ fu) (r0 s : z_M) (c : z_CI s) (f : z_Fr R_X12_nearest_309 r0 s) (a1 : Int) (t1 : Int) (b1 : -2147483648 ≤ a1 ∧ a1 ≤ 2147483647) (d1 : 0 ≤ t1 ∧ t1 ≤ 1) (p0 : y_TA s) (p1 : y_DD s) (p2 : y_B s) (p3 : y_K s) (p4 : y_KM s) : z_T (fX12_nearest_J20 fu s 309 a1 309 t1) (P_X12_nearest_309K r0) := by
  refine T_of (fX12_nearest_J20.eq_1 ..) ?_
  have u1 := CI_b c (k := 309) (j := 20) bd_309_20
  have u2 := CI_b c (k := 309) (j := 36) bd_309_36
  have u3 := CI_b c (k := 309) (j := 43) bd_309_43
  have u4 := CI_b c (k := 309) (j := 44) bd_309_44
  have u5 := CI_b c (k := 309) (j := 58) bd_309_58
  have u6 := CI_b c (k := 316) (j := 0) bd_316_0
  have u7 := CI_b c (k := 329) (j := 0) bd_329_0
  have u8 := CI_b c (k := 329) (j := 1) bd_329_1
  have t9 : s 309 20 = r0 309 20 := f 309 20 (by decide)
  have t10 : s 316 0 = r0 316 0 := f 316 0 (by decide)
  have t11 : s 329 0 = r0 329 0 := f 329 0 (by decide)
  have t12 : s 329 1 = r0 329 1 := f 329 1 (by decide)
  refine T_if1 (by decide +kernel) ?_
  refine T_useI (sf_X12_bad_309 hfu s c t1 1 1 (by omega) (by omega) (by omega) (by omega)) (fun v18 s13 hq => ?_)
  obtain ⟨c14, f15, o19, ⟨x17, rfl, b20, b21, o22, o23⟩⟩ := hq
  refine T_vI ?_
  have f16 := z_Fr.tr (R := R_X12_nearest_309) f f15 rs_X12_bad_309__X12_nearest_309
  have t24 : s13 309 20 = s 309 20 := f15 309 20 (by decide)
  have t25 : s13 309 36 = s 309 36 := f15 309 36 (by decide)
  have t26 : s13 309 43 = s 309 43 := f15 309 43 (by decide)
  have t27 : s13 309 44 = s 309 44 := f15 309 44 (by decide)
  have t28 : s13 309 58 = s 309 58 := f15 309 58 (by decide)
  have t29 : s13 316 0 = s 316 0 := f15 316 0 (by decide)
  have t30 : s13 329 0 = s 329 0 := f15 329 0 (by decide)
  have t31 : s13 329 1 = s 329 1 := f15 329 1 (by decide)
  have r32 := y_TA.fr p0 (fun a b h => f15 a b (nz_X12_bad_309__316_328 a b h)) (fun a b h => f15 a b (nz_X12_bad_309__346_358 a b h)) (fun a b h => f15 a b (nz_X12_bad_309__361_373 a b h))
  have r33 := y_DD.fr p1 (f15 329 0 (by decide)) (f15 329 1 (by decide)) (fun b => f15 359 b (nr_X12_bad_309__359 b)) (fun b => f15 374 b (nr_X12_bad_309__374 b))
  have r34 := y_B.fr p2 (f15 309 20 (by decide)) (f15 316 0 (by decide)) (fun b => f15 3220 b (nr_X12_bad_309__3220 b)) (fun b => f15 3221 b (nr_X12_bad_309__3221 b)) (fun b => f15 3222 b (nr_X12_bad_309__3222 b)) (fun b => f15 361 b (nr_X12_bad_309__361 b))
  have r35 := y_K.fr p3 (by omega) (by omega) (f15 309 44 (by decide)) (f15 309 20 (by decide)) (f15 309 58 (by decide)) (fun b => f15 3438 b (nr_X12_bad_309__3438 b)) (fun b => f15 3220 b (nr_X12_bad_309__3220 b)) (fun a b h => f15 a b (nz_X12_bad_309__3452_3651 a b h))
  have r36 := y_KM.fr p4 (f15 309 20 (by decide)) (f15 309 36 (by decide)) (f15 309 38 (by decide)) (f15 309 39 (by decide)) (fun b => f15 312 b (nr_X12_bad_309__312 b)) (fun b => f15 331 b (nr_X12_bad_309__331 b)) (fun b => f15 346 b (nr_X12_bad_309__346 b)) (fun b => f15 361 b (nr_X12_bad_309__361 b)) (fun b => f15 391 b (nr_X12_bad_309__391 b)) (fun a b h => f15 a b (nz_X12_bad_309__407_606 a b h)) (fun a b h => f15 a b (nz_X12_bad_309__3220_3223 a b h)) (fun a b h => f15 a b (nz_X12_bad_309__3235_3437 a b h))
  refine T_ite (fun h37 => ?_) (fun h37 => ?_)
  · refine T_if1 (by decide +kernel) ?_
    refine T_useN (sf_X12_laysAll_309K hfu s13 c14 r34 (by first | exact r35 | exact y_K.b0 (by omega) | exact y_K.k0 (by omega) | exact y_K.bk (by omega)) (by first | exact r36 | exact y_KM.z (by omega))) (fun v43 s38 hq => ?_)
    obtain ⟨c39, f40, o44, o45, o46, o47, o48, o49, o50, rfl⟩ := hq
    refine T_vN ?_
    have f41 := z_Fr.tr (R := R_X12_nearest_309) f16 f40 rs_X12_laysAll_309__X12_nearest_309
    have t53 : s38 309 20 = s 309 20 := (f40 309 20 (by decide)).trans t24
    have t54 : s38 316 0 = s 316 0 := (f40 316 0 (by decide)).trans t29
    have t55 : s38 329 0 = s 329 0 := (f40 329 0 (by decide)).trans t30
    have t56 : s38 329 1 = s 329 1 := (f40 329 1 (by decide)).trans t31
    have u57 := CI_b c39 (k := 309) (j := 36) bd_309_36
    have u58 := CI_b c39 (k := 309) (j := 43) bd_309_43
    have u59 := CI_b c39 (k := 309) (j := 44) bd_309_44
    have u60 := CI_b c39 (k := 309) (j := 58) bd_309_58
    have r61 := y_TA.fr r32 (fun a b h => f40 a b (nz_X12_laysAll_309__316_328 a b h)) (fun a b h => f40 a b (nz_X12_laysAll_309__346_358 a b h)) (fun a b h => f40 a b (nz_X12_laysAll_309__361_373 a b h))
    have r62 := y_DD.fr r33 (f40 329 0 (by decide)) (f40 329 1 (by decide)) (fun b => f40 359 b (nr_X12_laysAll_309__359 b)) (fun b => f40 374 b (nr_X12_laysAll_309__374 b))
    have r63 := y_B.fr r34 (f40 309 20 (by decide)) (f40 316 0 (by decide)) (fun b => f40 3220 b (nr_X12_laysAll_309__3220 b)) (fun b => f40 3221 b (nr_X12_laysAll_309__3221 b)) (fun b => f40 3222 b (nr_X12_laysAll_309__3222 b)) (fun b => f40 361 b (nr_X12_laysAll_309__361 b))
    clear t24
    clear t29
    clear t30
    clear t31
    refine sl_X12_nearest_309K_L43 hfu r0 a1 (by omega) (fun s64 y67 y68 c65 f66 b69 b70 g71 g72 g73 g74 g75 => ?_) fu s38 (-1) 999 0 c39 f41 (by omega) (by omega) (by omega) (by first | exact o46 | exact y_K.B o44 (by omega) (by omega)) r61 (by first | exact r62 | exact y_DD.z (by omega) (by omega)) r63 (by first | exact o44 | exact y_K.b0 (by omega) | exact y_K.k0 (by omega) | exact y_K.bk (by omega) | exact y_K.mk o45 (by omega) o46) (by first | exact o50 | exact y_KM.z (by omega)) (by omega)
    have u76 := CI_b c65 (k := 309) (j := 20) bd_309_20
    have u77 := CI_b c65 (k := 309) (j := 36) bd_309_36
    have u78 := CI_b c65 (k := 309) (j := 43) bd_309_43
    have u79 := CI_b c65 (k := 309) (j := 44) bd_309_44
    have u80 := CI_b c65 (k := 309) (j := 58) bd_309_58
    have u81 := CI_b c65 (k := 316) (j := 0) bd_316_0
    have u82 := CI_b c65 (k := 329) (j := 0) bd_329_0
    have u83 := CI_b c65 (k := 329) (j := 1) bd_329_1
    have t84 : s64 309 20 = r0 309 20 := f66 309 20 (by decide)
    have t85 : s64 316 0 = r0 316 0 := f66 316 0 (by decide)
    have t86 : s64 329 0 = r0 329 0 := f66 329 0 (by decide)
    have t87 : s64 329 1 = r0 329 1 := f66 329 1 (by decide)
    refine T_ite (fun h88 => ?_) (fun h88 => ?_)
    · exact sj_X12_nearest_309K_J171 hfu r0 s64 c65 f66 y67 (by omega) g71 (by first | exact g72 | exact y_DD.z (by omega) (by omega)) g73 (by first | exact g74 | exact y_K.b0 (by omega) | exact y_K.k0 (by omega) | exact y_K.bk (by omega)) (by first | exact g75 | exact y_KM.z (by omega))
    · exact sj_X12_nearest_309K_J171 hfu r0 s64 c65 f66 y68 (by omega) g71 (by first | exact g72 | exact y_DD.z (by omega) (by omega)) g73 (by first | exact g74 | exact y_K.b0 (by omega) | exact y_K.k0 (by omega) | exact y_K.bk (by omega)) (by first | exact g75 | exact y_KM.z (by omega))
  · exact T_ret ⟨c14, f16, r32, (by first | exact r33 | exact y_DD.z (by omega) (by omega)), r34, (by first | exact r35 | exact y_K.b0 (by omega) | exact y_K.k0 (by omega) | exact y_K.bk (by omega)), (by first | exact r36 | exact y_KM.z (by omega)), ⟨0, rfl, by omega, by omega⟩⟩
theorem sf_X12_nearest_309K {fu : Nat} (hfu : 8589934592 ≤ fu) (r0 : z_M) (c0 : z_CI r0) (a1 : Int) (b1 : -2147483648 ≤ a1 ∧ a1 ≤ 2147483647) (p0 : y_TA r0) (p1 : y_DD r0) (p2 : y_B r0) (p3 : y_K r0) (p4 : y_KM r0) : z_T (fX12_nearest fu r0 309 a1) (P_X12_nearest_309K r0) := by
  refine T_of (fX12_nearest.eq_1 ..) ?_
  have u1 := CI_b c0 (k := 309) (j := 20) bd_309_20
  have u2 := CI_b c0 (k := 309) (j := 36) bd_309_36
  have u3 := CI_b c0 (k := 309) (j := 43) bd_309_43
  have u4 := CI_b c0 (k := 309) (j := 44) bd_309_44
  have u5 := CI_b c0 (k := 309) (j := 58) bd_309_58
  have u6 := CI_b c0 (k := 316) (j := 0) bd_316_0
  have u7 := CI_b c0 (k := 329) (j := 0) bd_329_0
  have u8 := CI_b c0 (k := 329) (j := 1) bd_329_1
  refine T_if1 (by decide +kernel) ?_
  refine T_upg c0 bd_309_0 (by omega) (fun s9 c10 g12 g13 e14 => ?_)
  have f11 := z_Fr.upf (R := R_X12_nearest_309) z_Fr.rf g12 g13 (Or.inr (Or.inr (⟨rfl, by decide⟩)))
  have t15 : s9 309 20 = r0 309 20 := g13 20 (by decide)
  have t16 : s9 309 36 = r0 309 36 := g13 36 (by decide)
  have t17 : s9 309 43 = r0 309 43 := g13 43 (by decide)
  have t18 : s9 309 44 = r0 309 44 := g13 44 (by decide)
  have t19 : s9 309 58 = r0 309 58 := g13 58 (by decide)
  have t20 : s9 316 0 = r0 316 0 := g12 316 0 (by decide)
  have t21 : s9 329 0 = r0 329 0 := g12 329 0 (by decide)
  have t22 : s9 329 1 = r0 329 1 := g12 329 1 (by decide)
  have r23 := y_TA.fr p0 (fun a b h => g12 a b (by omega)) (fun a b h => g12 a b (by omega)) (fun a b h => g12 a b (by omega))
  have r24 := y_DD.fr p1 (g12 329 0 (by decide)) (g12 329 1 (by decide)) (fun b => g12 359 b (by decide)) (fun b => g12 374 b (by decide))
  have r25 := y_B.fr p2 (g13 20 (by decide)) (g12 316 0 (by decide)) (fun b => g12 3220 b (by decide)) (fun b => g12 3221 b (by decide)) (fun b => g12 3222 b (by decide)) (fun b => g12 361 b (by decide))
  have r26 := y_K.fr p3 (by omega) (by omega) (g13 44 (by decide)) (g13 20 (by decide)) (g13 58 (by decide)) (fun b => g12 3438 b (by decide)) (fun b => g12 3220 b (by decide)) (fun a b h => g12 a b (by omega))
  have r27 := y_KM.fr p4 (g13 20 (by decide)) (g13 36 (by decide)) (g13 38 (by decide)) (g13 39 (by decide)) (fun b => g12 312 b (by decide)) (fun b => g12 331 b (by decide)) (fun b => g12 346 b (by decide)) (fun b => g12 361 b (by decide)) (fun b => g12 391 b (by decide)) (fun a b h => g12 a b (by omega)) (fun a b h => g12 a b (by omega)) (fun a b h => g12 a b (by omega))
  refine T_useI (sf_X12_in hfu s9 c10 a1 0 1 (by omega) (by omega) (by omega)) (fun v33 s28 hq => ?_)
  obtain ⟨c29, f30, ⟨x32, rfl, b34, b35, o36⟩⟩ := hq
  refine T_vI ?_
  have q37 := z_Fr.eq (fun a b h => h) f30
  subst q37
  refine T_ite (fun h38 => ?_) (fun h38 => ?_)
  · exact sj_X12_nearest_309K_J20 hfu r0 s9 c10 f11 a1 0 (by omega) (by omega) r23 (by first | exact r24 | exact y_DD.z (by omega) (by omega)) r25 (by first | exact r26 | exact y_K.b0 (by omega) | exact y_K.k0 (by omega) | exact y_K.bk (by omega)) (by first | exact r27 | exact y_KM.z (by omega))
  · exact sj_X12_nearest_309K_J20 hfu r0 s9 c10 f11 a1 1 (by omega) (by omega) r23 (by first | exact r24 | exact y_DD.z (by omega) (by omega)) r25 (by first | exact r26 | exact y_K.b0 (by omega) | exact y_K.k0 (by omega) | exact y_K.bk (by omega)) (by first | exact r27 | exact y_KM.z (by omega))
