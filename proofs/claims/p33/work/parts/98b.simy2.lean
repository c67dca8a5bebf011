/-! READING, 6: the reference's readers (by program, wip/tool/mksim.py) -/
theorem sf_X12_block_309Y {fu : Nat} (hfu : 8589934592 ≤ fu) (r0 : z_M) (c0 : z_CI r0) (a1 : Int) (a2 : Int) (b1 : -2147483648 ≤ a1 ∧ a1 ≤ 2147483647) (b2 : -2147483648 ≤ a2 ∧ a2 ≤ 2147483647) (p0 : y_TA r0) (p1 : y_DD r0) (p2 : y_B r0) (p3 : y_K r0) (p4 : y_KM r0) (p5 : y_YM r0) : z_T (fX12_block fu r0 309 a1 a2) (P_X12_block_309Y r0) := by
  refine T_of (fX12_block.eq_1 ..) ?_
  have u1 := CI_b c0 (k := 309) (j := 20) bd_309_20
  have u2 := CI_b c0 (k := 309) (j := 36) bd_309_36
  have u3 := CI_b c0 (k := 309) (j := 43) bd_309_43
  have u4 := CI_b c0 (k := 309) (j := 44) bd_309_44
  have u5 := CI_b c0 (k := 309) (j := 58) bd_309_58
  have u6 := CI_b c0 (k := 316) (j := 0) bd_316_0
  have u7 := CI_b c0 (k := 329) (j := 0) bd_329_0
  have u8 := CI_b c0 (k := 329) (j := 1) bd_329_1
  refine T_if1 (by decide +kernel) ?_
  refine T_upg c0 bd_309_0 (by omega) (fun s9 c10 g12 g13 e14 => ?_)
  have f11 := z_Fr.upf (R := R_X12_block_309) z_Fr.rf g12 g13 (Or.inr (Or.inr (⟨rfl, by decide⟩)))
  have t15 : s9 309 20 = r0 309 20 := g13 20 (by decide)
  have t16 : s9 309 36 = r0 309 36 := g13 36 (by decide)
  have t17 : s9 309 43 = r0 309 43 := g13 43 (by decide)
  have t18 : s9 309 44 = r0 309 44 := g13 44 (by decide)
  have t19 : s9 309 58 = r0 309 58 := g13 58 (by decide)
  have t20 : s9 316 0 = r0 316 0 := g12 316 0 (by decide)
  have t21 : s9 329 0 = r0 329 0 := g12 329 0 (by decide)
  have t22 : s9 329 1 = r0 329 1 := g12 329 1 (by decide)
  have r23 := y_TA.fr p0 (fun a b h => g12 a b (by omega)) (fun a b h => g12 a b (by omega)) (fun a b h => g12 a b (by omega))
  have r24 := y_DD.fr p1 (g12 329 0 (by decide)) (g12 329 1 (by decide)) (fun b => g12 359 b (by decide)) (fun b => g12 374 b (by decide))
  have r25 := y_B.fr p2 (g13 20 (by decide)) (g12 316 0 (by decide)) (fun b => g12 3220 b (by decide)) (fun b => g12 3221 b (by decide)) (fun b => g12 3222 b (by decide)) (fun b => g12 361 b (by decide))
  have r26 := y_K.fr p3 (by omega) (by omega) (g13 44 (by decide)) (g13 20 (by decide)) (g13 58 (by decide)) (fun b => g12 3438 b (by decide)) (fun b => g12 3220 b (by decide)) (fun a b h => g12 a b (by omega))
  have r27 := y_KM.fr p4 (g13 20 (by decide)) (g13 36 (by decide)) (g13 38 (by decide)) (g13 39 (by decide)) (fun b => g12 312 b (by decide)) (fun b => g12 331 b (by decide)) (fun b => g12 346 b (by decide)) (fun b => g12 361 b (by decide)) (fun b => g12 391 b (by decide)) (fun a b h => g12 a b (by omega)) (fun a b h => g12 a b (by omega)) (fun a b h => g12 a b (by omega))
  have r28 := y_YM.fr p5 (by omega) (g13 44 (by decide)) (g13 20 (by decide)) (g13 58 (by decide)) (fun b => g12 312 b (by decide)) (fun b => g12 331 b (by decide)) (fun b => g12 346 b (by decide)) (fun b => g12 361 b (by decide)) (fun b => g12 391 b (by decide)) (fun a b h => g12 a b (by omega)) (fun a b h => g12 a b (by omega)) (fun b => g12 3438 b (by decide)) (fun a b h => g12 a b (by omega)) (fun a b h => g12 a b (by omega))
  refine T_if1 (by decide +kernel) ?_
  refine T_useN (sf_X12_laysAll_309Y hfu s9 c10 r25 (by first | exact r26 | exact y_K.b0 (by omega) | exact y_K.k0 (by omega) | exact y_K.bk (by omega)) (by first | exact r27 | exact y_KM.z (by omega)) (by first | exact r28 | exact y_YM.b0 (by omega) | exact y_YM.k0 (by omega) | exact y_YM.bk (by omega))) (fun v34 s29 hq => ?_)
  obtain ⟨c30, f31, o35, o36, o37, o38, o39, o40, o41, o42, rfl⟩ := hq
  refine T_vN ?_
  have f32 := z_Fr.tr (R := R_X12_block_309) f11 f31 rs_X12_laysAll_309__X12_block_309
  have t45 : s29 309 20 = r0 309 20 := (f31 309 20 (by decide)).trans t15
  have t46 : s29 316 0 = r0 316 0 := (f31 316 0 (by decide)).trans t20
  have t47 : s29 329 0 = r0 329 0 := (f31 329 0 (by decide)).trans t21
  have t48 : s29 329 1 = r0 329 1 := (f31 329 1 (by decide)).trans t22
  have u49 := CI_b c30 (k := 309) (j := 36) bd_309_36
  have u50 := CI_b c30 (k := 309) (j := 43) bd_309_43
  have u51 := CI_b c30 (k := 309) (j := 44) bd_309_44
  have u52 := CI_b c30 (k := 309) (j := 58) bd_309_58
  have r53 := y_TA.fr r23 (fun a b h => f31 a b (nz_X12_laysAll_309__316_328 a b h)) (fun a b h => f31 a b (nz_X12_laysAll_309__346_358 a b h)) (fun a b h => f31 a b (nz_X12_laysAll_309__361_373 a b h))
  have r54 := y_DD.fr r24 (f31 329 0 (by decide)) (f31 329 1 (by decide)) (fun b => f31 359 b (nr_X12_laysAll_309__359 b)) (fun b => f31 374 b (nr_X12_laysAll_309__374 b))
  have r55 := y_B.fr r25 (f31 309 20 (by decide)) (f31 316 0 (by decide)) (fun b => f31 3220 b (nr_X12_laysAll_309__3220 b)) (fun b => f31 3221 b (nr_X12_laysAll_309__3221 b)) (fun b => f31 3222 b (nr_X12_laysAll_309__3222 b)) (fun b => f31 361 b (nr_X12_laysAll_309__361 b))
  clear t15
  clear t20
  clear t21
  clear t22
  refine T_if1 (by decide +kernel) ?_
  refine T_leq (fun x56 e57 => ?_)
  have u58 := CI_b c30 (k := 309) (j := 58) bd_309_58
  refine T_leq (fun x59 e60 => ?_)
  first | (have w61 := z_wx e60 (by omega)) | (have w61 := z_wr e60)
  refine T_useI (sf_X12_in hfu s29 c30 a1 0 x59 (by omega) (by omega) (by omega)) (fun v67 s62 hq => ?_)
  obtain ⟨c63, f64, ⟨x66, rfl, b68, b69, o70⟩⟩ := hq
  refine T_vI ?_
  have q71 := z_Fr.eq (fun a b h => h) f64
  subst q71
  refine T_ite (fun h72 => ?_) (fun h72 => ?_)
  · exact sj_X12_block_309Y_J29 hfu r0 s29 c30 f32 a1 a2 0 (by omega) (by omega) (by omega) (by omega) r53 (by first | exact r54 | exact y_DD.z (by omega) (by omega)) r55 (by first | exact o35 | exact y_K.b0 (by omega) | exact y_K.k0 (by omega) | exact y_K.bk (by omega) | exact y_K.mk o36 (by omega) o37) (by first | exact o41 | exact y_KM.z (by omega)) (by first | exact o42 | exact y_YM.b0 (by omega) | exact y_YM.k0 (by omega) | exact y_YM.bk (by omega))
  · exact sj_X12_block_309Y_J29 hfu r0 s29 c30 f32 a1 a2 1 (by omega) (by omega) (by omega) (by omega) r53 (by first | exact r54 | exact y_DD.z (by omega) (by omega)) r55 (by first | exact o35 | exact y_K.b0 (by omega) | exact y_K.k0 (by omega) | exact y_K.bk (by omega) | exact y_K.mk o36 (by omega) o37) (by first | exact o41 | exact y_KM.z (by omega)) (by first | exact o42 | exact y_YM.b0 (by omega) | exact y_YM.k0 (by omega) | exact y_YM.bk (by omega))
abbrev P_X12_reading_309Y (r0 : z_M) : z_V → z_M → Prop := fun v s' => z_CI s' ∧ z_Fr R_X12_reading_309 r0 s' ∧ (y_TA s') ∧ (y_DD s') ∧ (y_B s') ∧ (y_K s') ∧ (y_KM s') ∧ (y_YM s') ∧ (∃ x, v = vI x ∧ -2147483648 ≤ x ∧ x ≤ 2147483647)
theorem sj_X12_reading_309Y_J70 {fu : Nat} (hfu : 8589934592 ≤ fu) (r0 s : z_M) (c : z_CI s) (f : z_Fr R_X12_reading_309 r0 s) (p0 : y_TA s) (p1 : y_DD s) (p2 : y_B s) (p3 : y_K s) (p4 : y_KM s) (p5 : y_YM s) : z_T (fX12_reading_J70 fu s) (P_X12_reading_309Y r0) := by
  refine T_of (fX12_reading_J70.eq_1 ..) ?_
  have u1 := CI_b c (k := 309) (j := 20) bd_309_20
  have u2 := CI_b c (k := 309) (j := 36) bd_309_36
  have u3 := CI_b c (k := 309) (j := 43) bd_309_43
  have u4 := CI_b c (k := 309) (j := 44) bd_309_44
  have u5 := CI_b c (k := 309) (j := 58) bd_309_58
  have u6 := CI_b c (k := 316) (j := 0) bd_316_0
  have u7 := CI_b c (k := 329) (j := 0) bd_329_0
  have u8 := CI_b c (k := 329) (j := 1) bd_329_1
  have t9 : s 309 20 = r0 309 20 := f 309 20 (by decide)
  have t10 : s 316 0 = r0 316 0 := f 316 0 (by decide)
  have t11 : s 329 0 = r0 329 0 := f 329 0 (by decide)
  have t12 : s 329 1 = r0 329 1 := f 329 1 (by decide)
  exact T_ret ⟨c, f, p0, (by first | exact p1 | exact y_DD.z (by omega) (by omega)), p2, (by first | exact p3 | exact y_K.b0 (by omega) | exact y_K.k0 (by omega) | exact y_K.bk (by omega)), (by first | exact p4 | exact y_KM.z (by omega)), (by first | exact p5 | exact y_YM.b0 (by omega) | exact y_YM.k0 (by omega) | exact y_YM.bk (by omega)), ⟨0, rfl, by omega, by omega⟩⟩
theorem sj_X12_reading_309Y_J123 {fu : Nat} (hfu : 8589934592 ≤ fu) (r0 s : z_M) (c : z_CI s) (f : z_Fr R_X12_reading_309 r0 s) (t0 : Int) (d0 : -2147483648 ≤ t0 ∧ t0 ≤ 2147483647) (p0 : y_TA s) (p1 : y_DD s) (p2 : y_B s) (p3 : y_K s) (p4 : y_KM s) (p5 : y_YM s) : z_T (fX12_reading_J123 fu s t0) (P_X12_reading_309Y r0) := by
  refine T_of (fX12_reading_J123.eq_1 ..) ?_
  have u1 := CI_b c (k := 309) (j := 20) bd_309_20
  have u2 := CI_b c (k := 309) (j := 36) bd_309_36
  have u3 := CI_b c (k := 309) (j := 43) bd_309_43
  have u4 := CI_b c (k := 309) (j := 44) bd_309_44
  have u5 := CI_b c (k := 309) (j := 58) bd_309_58
  have u6 := CI_b c (k := 316) (j := 0) bd_316_0
  have u7 := CI_b c (k := 329) (j := 0) bd_329_0
  have u8 := CI_b c (k := 329) (j := 1) bd_329_1
  have t9 : s 309 20 = r0 309 20 := f 309 20 (by decide)
  have t10 : s 316 0 = r0 316 0 := f 316 0 (by decide)
  have t11 : s 329 0 = r0 329 0 := f 329 0 (by decide)
  have t12 : s 329 1 = r0 329 1 := f 329 1 (by decide)
  exact T_ret ⟨c, f, p0, (by first | exact p1 | exact y_DD.z (by omega) (by omega)), p2, (by first | exact p3 | exact y_K.b0 (by omega) | exact y_K.k0 (by omega) | exact y_K.bk (by omega)), (by first | exact p4 | exact y_KM.z (by omega)), (by first | exact p5 | exact y_YM.b0 (by omega) | exact y_YM.k0 (by omega) | exact y_YM.bk (by omega)), ⟨t0, rfl, by omega, by omega⟩⟩
theorem sj_X12_reading_309Y_J100 {fu : Nat} (hfu : 8589934592 ≤ fu) (r0 s : z_M) (c : z_CI s) (f : z_Fr R_X12_reading_309 r0 s) (t0 : Int) (d0 : -2147483648 ≤ t0 ∧ t0 ≤ 2147483647) (p0 : y_TA s) (p1 : y_DD s) (p2 : y_B s) (p3 : y_K s) (p4 : y_KM s) (p5 : y_YM s) : z_T (fX12_reading_J100 fu s t0) (P_X12_reading_309Y r0) := by
  refine T_of (fX12_reading_J100.eq_1 ..) ?_
  have u1 := CI_b c (k := 309) (j := 20) bd_309_20
  have u2 := CI_b c (k := 309) (j := 36) bd_309_36
  have u3 := CI_b c (k := 309) (j := 43) bd_309_43
  have u4 := CI_b c (k := 309) (j := 44) bd_309_44
  have u5 := CI_b c (k := 309) (j := 58) bd_309_58
  have u6 := CI_b c (k := 316) (j := 0) bd_316_0
  have u7 := CI_b c (k := 329) (j := 0) bd_329_0
  have u8 := CI_b c (k := 329) (j := 1) bd_329_1
  have t9 : s 309 20 = r0 309 20 := f 309 20 (by decide)
  have t10 : s 316 0 = r0 316 0 := f 316 0 (by decide)
  have t11 : s 329 0 = r0 329 0 := f 329 0 (by decide)
  have t12 : s 329 1 = r0 329 1 := f 329 1 (by decide)
  exact T_ret ⟨c, f, p0, (by first | exact p1 | exact y_DD.z (by omega) (by omega)), p2, (by first | exact p3 | exact y_K.b0 (by omega) | exact y_K.k0 (by omega) | exact y_K.bk (by omega)), (by first | exact p4 | exact y_KM.z (by omega)), (by first | exact p5 | exact y_YM.b0 (by omega) | exact y_YM.k0 (by omega) | exact y_YM.bk (by omega)), ⟨t0, rfl, by omega, by omega⟩⟩
theorem sj_X12_reading_309Y_J62 {fu : Nat} (hfu : 8589934592 ≤ fu) (r0 s : z_M) (c : z_CI s) (f : z_Fr R_X12_reading_309 r0 s) (a1 : Int) (a2 : Int) (a3 : Int) (a4 : Int) (t1 : Int) (b1 : -2147483648 ≤ a1 ∧ a1 ≤ 2147483647) (b2 : -2147483648 ≤ a2 ∧ a2 ≤ 2147483647) (b3 : -2147483648 ≤ a3 ∧ a3 ≤ 2147483647) (b4 : -2147483648 ≤ a4 ∧ a4 ≤ 2147483647) (d1 : 0 ≤ t1 ∧ t1 ≤ 1) (p0 : 0 ≤ a1 ∧ a1 < s 309 58) (p1 : t1 = 1 ∨ (0 ≤ a2 ∧ a2 ≤ 1)) (p2 : y_BK s) (p3 : y_TA s) (p4 : y_DD s) (p5 : y_B s) (p6 : y_K s) (p7 : y_KM s) (p8 : y_YM s) : z_T (fX12_reading_J62 fu s 309 a1 a2 a3 a4 309 t1) (P_X12_reading_309Y r0) := by
  refine T_of (fX12_reading_J62.eq_1 ..) ?_
  have u1 := CI_b c (k := 309) (j := 20) bd_309_20
  have u2 := CI_b c (k := 309) (j := 36) bd_309_36
  have u3 := CI_b c (k := 309) (j := 43) bd_309_43
  have u4 := CI_b c (k := 309) (j := 44) bd_309_44
  have u5 := CI_b c (k := 309) (j := 58) bd_309_58
  have u6 := CI_b c (k := 316) (j := 0) bd_316_0
  have u7 := CI_b c (k := 329) (j := 0) bd_329_0
  have u8 := CI_b c (k := 329) (j := 1) bd_329_1
  have t9 : s 309 20 = r0 309 20 := f 309 20 (by decide)
  have t10 : s 316 0 = r0 316 0 := f 316 0 (by decide)
  have t11 : s 329 0 = r0 329 0 := f 329 0 (by decide)
  have t12 : s 329 1 = r0 329 1 := f 329 1 (by decide)
  refine T_if1 (by decide +kernel) ?_
  refine T_useI (sf_X12_bad_309 hfu s c t1 2 1 (by omega) (by omega) (by omega) (by omega)) (fun v18 s13 hq => ?_)
  obtain ⟨c14, f15, o19, ⟨x17, rfl, b20, b21, o22, o23⟩⟩ := hq
  refine T_vI ?_
  have f16 := z_Fr.tr (R := R_X12_reading_309) f f15 rs_X12_bad_309__X12_reading_309
  have t24 : s13 309 20 = s 309 20 := f15 309 20 (by decide)
  have t25 : s13 309 36 = s 309 36 := f15 309 36 (by decide)
  have t26 : s13 309 43 = s 309 43 := f15 309 43 (by decide)
  have t27 : s13 309 44 = s 309 44 := f15 309 44 (by decide)
  have t28 : s13 309 58 = s 309 58 := f15 309 58 (by decide)
  have t29 : s13 316 0 = s 316 0 := f15 316 0 (by decide)
  have t30 : s13 329 0 = s 329 0 := f15 329 0 (by decide)
  have t31 : s13 329 1 = s 329 1 := f15 329 1 (by decide)
  have r32 := y_BK.fr p2 (by omega) (f15 309 20 (by decide)) (f15 309 58 (by decide)) (fun b => f15 3220 b (nr_X12_bad_309__3220 b)) (fun a b h => f15 a b (nz_X12_bad_309__3452_3651 a b h))
  have r33 := y_TA.fr p3 (fun a b h => f15 a b (nz_X12_bad_309__316_328 a b h)) (fun a b h => f15 a b (nz_X12_bad_309__346_358 a b h)) (fun a b h => f15 a b (nz_X12_bad_309__361_373 a b h))
  have r34 := y_DD.fr p4 (f15 329 0 (by decide)) (f15 329 1 (by decide)) (fun b => f15 359 b (nr_X12_bad_309__359 b)) (fun b => f15 374 b (nr_X12_bad_309__374 b))
  have r35 := y_B.fr p5 (f15 309 20 (by decide)) (f15 316 0 (by decide)) (fun b => f15 3220 b (nr_X12_bad_309__3220 b)) (fun b => f15 3221 b (nr_X12_bad_309__3221 b)) (fun b => f15 3222 b (nr_X12_bad_309__3222 b)) (fun b => f15 361 b (nr_X12_bad_309__361 b))
  have r36 := y_K.fr p6 (by omega) (by omega) (f15 309 44 (by decide)) (f15 309 20 (by decide)) (f15 309 58 (by decide)) (fun b => f15 3438 b (nr_X12_bad_309__3438 b)) (fun b => f15 3220 b (nr_X12_bad_309__3220 b)) (fun a b h => f15 a b (nz_X12_bad_309__3452_3651 a b h))
  have r37 := y_KM.fr p7 (f15 309 20 (by decide)) (f15 309 36 (by decide)) (f15 309 38 (by decide)) (f15 309 39 (by decide)) (fun b => f15 312 b (nr_X12_bad_309__312 b)) (fun b => f15 331 b (nr_X12_bad_309__331 b)) (fun b => f15 346 b (nr_X12_bad_309__346 b)) (fun b => f15 361 b (nr_X12_bad_309__361 b)) (fun b => f15 391 b (nr_X12_bad_309__391 b)) (fun a b h => f15 a b (nz_X12_bad_309__407_606 a b h)) (fun a b h => f15 a b (nz_X12_bad_309__3220_3223 a b h)) (fun a b h => f15 a b (nz_X12_bad_309__3235_3437 a b h))
  have r38 := y_YM.fr p8 (by omega) (f15 309 44 (by decide)) (f15 309 20 (by decide)) (f15 309 58 (by decide)) (fun b => f15 312 b (nr_X12_bad_309__312 b)) (fun b => f15 331 b (nr_X12_bad_309__331 b)) (fun b => f15 346 b (nr_X12_bad_309__346 b)) (fun b => f15 361 b (nr_X12_bad_309__361 b)) (fun b => f15 391 b (nr_X12_bad_309__391 b)) (fun a b h => f15 a b (nz_X12_bad_309__407_606 a b h)) (fun a b h => f15 a b (nz_X12_bad_309__3220_3223 a b h)) (fun b => f15 3438 b (nr_X12_bad_309__3438 b)) (fun a b h => f15 a b (nz_X12_bad_309__3441_3450 a b h)) (fun a b h => f15 a b (nz_X12_bad_309__3452_3651 a b h))
  refine T_ite (fun h39 => ?_) (fun h39 => ?_)
  · refine T_if1 (by decide +kernel) ?_
    refine T_useI (sf_X12_lettersIn_309 hfu s13 c14 a1 a2 (by omega) (by omega) r35 (by first | exact r32 | exact y_K.B r36 (by omega) (by omega)) (by omega)) (fun v45 s40 hq => ?_)
    obtain ⟨c41, f42, ⟨x44, rfl, b46, b47, o48, o49⟩⟩ := hq
    refine T_vI ?_
    have q50 := z_Fr.eq (fun a b h => h) f42
    subst q50
    refine T_leq (fun x51 e52 => ?_)
    first | (have w53 := z_wx e52 (by omega)) | (have w53 := z_wr e52)
    refine T_useI (sf_X12_in hfu s13 c14 a3 0 x51 (by omega) (by omega) (by omega)) (fun v59 s54 hq => ?_)
    obtain ⟨c55, f56, ⟨x58, rfl, b60, b61, o62⟩⟩ := hq
    refine T_vI ?_
    have q63 := z_Fr.eq (fun a b h => h) f56
    subst q63
    refine T_ite (fun h64 => ?_) (fun h64 => ?_)
    · refine T_ite (fun h65 => ?_) (fun h65 => ?_)
      · refine T_if1 (by decide +kernel) ?_
        refine T_useI (sf_X12_letterPlace_309 hfu s13 c14 a1 a2 a3 (by omega) (by omega) (by omega) r35 (by first | exact r32 | exact y_K.B r36 (by omega) (by omega)) (by omega) (by omega)) (fun v71 s66 hq => ?_)
        obtain ⟨c67, f68, ⟨x70, rfl, b72, b73⟩⟩ := hq
        refine T_vI ?_
        have q74 := z_Fr.eq (fun a b h => h) f68
        subst q74
        exact sj_X12_reading_309Y_J123 hfu r0 s13 c14 f16 x70 (by omega) r33 (by first | exact r34 | exact y_DD.z (by omega) (by omega)) r35 (by first | exact r36 | exact y_K.b0 (by omega) | exact y_K.k0 (by omega) | exact y_K.bk (by omega)) (by first | exact r37 | exact y_KM.z (by omega)) (by first | exact r38 | exact y_YM.b0 (by omega) | exact y_YM.k0 (by omega) | exact y_YM.bk (by omega))
      · refine T_if1 (by decide +kernel) ?_
        refine T_useI (sf_X12_letterAt_309 hfu s13 c14 a1 a2 a3 (by omega) (by omega) (by omega) r35 (by first | exact r32 | exact y_K.B r36 (by omega) (by omega)) (by omega) (by omega) (by omega)) (fun v80 s75 hq => ?_)
        obtain ⟨c76, f77, ⟨x79, rfl, b81, b82⟩⟩ := hq
        refine T_vI ?_
        have q83 := z_Fr.eq (fun a b h => h) f77
        subst q83
        exact sj_X12_reading_309Y_J123 hfu r0 s13 c14 f16 x79 (by omega) r33 (by first | exact r34 | exact y_DD.z (by omega) (by omega)) r35 (by first | exact r36 | exact y_K.b0 (by omega) | exact y_K.k0 (by omega) | exact y_K.bk (by omega)) (by first | exact r37 | exact y_KM.z (by omega)) (by first | exact r38 | exact y_YM.b0 (by omega) | exact y_YM.k0 (by omega) | exact y_YM.bk (by omega))
    · refine T_ite (fun h84 => ?_) (fun h84 => ?_)
      · exact sj_X12_reading_309Y_J100 hfu r0 s13 c14 f16 (-1000) (by omega) r33 (by first | exact r34 | exact y_DD.z (by omega) (by omega)) r35 (by first | exact r36 | exact y_K.b0 (by omega) | exact y_K.k0 (by omega) | exact y_K.bk (by omega)) (by first | exact r37 | exact y_KM.z (by omega)) (by first | exact r38 | exact y_YM.b0 (by omega) | exact y_YM.k0 (by omega) | exact y_YM.bk (by omega))
      · exact sj_X12_reading_309Y_J100 hfu r0 s13 c14 f16 (-1) (by omega) r33 (by first | exact r34 | exact y_DD.z (by omega) (by omega)) r35 (by first | exact r36 | exact y_K.b0 (by omega) | exact y_K.k0 (by omega) | exact y_K.bk (by omega)) (by first | exact r37 | exact y_KM.z (by omega)) (by first | exact r38 | exact y_YM.b0 (by omega) | exact y_YM.k0 (by omega) | exact y_YM.bk (by omega))
  · exact sj_X12_reading_309Y_J70 hfu r0 s13 c14 f16 r33 (by first | exact r34 | exact y_DD.z (by omega) (by omega)) r35 (by first | exact r36 | exact y_K.b0 (by omega) | exact y_K.k0 (by omega) | exact y_K.bk (by omega)) (by first | exact r37 | exact y_KM.z (by omega)) (by first | exact r38 | exact y_YM.b0 (by omega) | exact y_YM.k0 (by omega) | exact y_YM.bk (by omega))
theorem sj_X12_reading_309Y_J57 {fu : Nat} (hfu : 8589934592 ≤ fu) (r0 s : z_M) (c : z_CI s) (f : z_Fr R_X12_reading_309 r0 s) (a1 : Int) (a2 : Int) (a3 : Int) (a4 : Int) (b1 : -2147483648 ≤ a1 ∧ a1 ≤ 2147483647) (b2 : -2147483648 ≤ a2 ∧ a2 ≤ 2147483647) (b3 : -2147483648 ≤ a3 ∧ a3 ≤ 2147483647) (b4 : -2147483648 ≤ a4 ∧ a4 ≤ 2147483647) (p0 : 0 ≤ a1 ∧ a1 < s 309 58) (p1 : y_BK s) (p2 : y_TA s) (p3 : y_DD s) (p4 : y_B s) (p5 : y_K s) (p6 : y_KM s) (p7 : y_YM s) : z_T (fX12_reading_J57 fu s 309 a1 a2 a3 a4 309) (P_X12_reading_309Y r0) := by
  refine T_of (fX12_reading_J57.eq_1 ..) ?_
  have u1 := CI_b c (k := 309) (j := 20) bd_309_20
  have u2 := CI_b c (k := 309) (j := 36) bd_309_36
  have u3 := CI_b c (k := 309) (j := 43) bd_309_43
  have u4 := CI_b c (k := 309) (j := 44) bd_309_44
  have u5 := CI_b c (k := 309) (j := 58) bd_309_58
  have u6 := CI_b c (k := 316) (j := 0) bd_316_0
  have u7 := CI_b c (k := 329) (j := 0) bd_329_0
  have u8 := CI_b c (k := 329) (j := 1) bd_329_1
  have t9 : s 309 20 = r0 309 20 := f 309 20 (by decide)
  have t10 : s 316 0 = r0 316 0 := f 316 0 (by decide)
  have t11 : s 329 0 = r0 329 0 := f 329 0 (by decide)
  have t12 : s 329 1 = r0 329 1 := f 329 1 (by decide)
  exact sj_X12_reading_309Y_J62 hfu r0 s c f a1 a2 a3 a4 1 (by omega) (by omega) (by omega) (by omega) (by omega) (by omega) (by omega) (by first | exact p1 | exact y_K.B p5 (by omega) (by omega)) p2 (by first | exact p3 | exact y_DD.z (by omega) (by omega)) p4 (by first | exact p5 | exact y_K.b0 (by omega) | exact y_K.k0 (by omega) | exact y_K.bk (by omega)) (by first | exact p6 | exact y_KM.z (by omega)) (by first | exact p7 | exact y_YM.b0 (by omega) | exact y_YM.k0 (by omega) | exact y_YM.bk (by omega))
theorem sj_X12_reading_309Y_J29 {fu : Nat} (hfu : 8589934592 ≤ fu) (r0 s : z_M) (c : z_CI s) (f : z_Fr R_X12_reading_309 r0 s) (a1 : Int) (a2 : Int) (a3 : Int) (a4 : Int) (t1 : Int) (b1 : -2147483648 ≤ a1 ∧ a1 ≤ 2147483647) (b2 : -2147483648 ≤ a2 ∧ a2 ≤ 2147483647) (b3 : -2147483648 ≤ a3 ∧ a3 ≤ 2147483647) (b4 : -2147483648 ≤ a4 ∧ a4 ≤ 2147483647) (d1 : 0 ≤ t1 ∧ t1 ≤ 1) (p0 : t1 = 1 ∨ (0 ≤ a1 ∧ a1 < s 309 58)) (p1 : y_BK s) (p2 : y_TA s) (p3 : y_DD s) (p4 : y_B s) (p5 : y_K s) (p6 : y_KM s) (p7 : y_YM s) : z_T (fX12_reading_J29 fu s 309 a1 a2 a3 a4 309 t1) (P_X12_reading_309Y r0) := by
  refine T_of (fX12_reading_J29.eq_1 ..) ?_
  have u1 := CI_b c (k := 309) (j := 20) bd_309_20
  have u2 := CI_b c (k := 309) (j := 36) bd_309_36
  have u3 := CI_b c (k := 309) (j := 43) bd_309_43
  have u4 := CI_b c (k := 309) (j := 44) bd_309_44
  have u5 := CI_b c (k := 309) (j := 58) bd_309_58
  have u6 := CI_b c (k := 316) (j := 0) bd_316_0
  have u7 := CI_b c (k := 329) (j := 0) bd_329_0
  have u8 := CI_b c (k := 329) (j := 1) bd_329_1
  have t9 : s 309 20 = r0 309 20 := f 309 20 (by decide)
  have t10 : s 316 0 = r0 316 0 := f 316 0 (by decide)
  have t11 : s 329 0 = r0 329 0 := f 329 0 (by decide)
  have t12 : s 329 1 = r0 329 1 := f 329 1 (by decide)
  refine T_if1 (by decide +kernel) ?_
  refine T_useI (sf_X12_bad_309 hfu s c t1 1 0 (by omega) (by omega) (by omega) (by omega)) (fun v18 s13 hq => ?_)
  obtain ⟨c14, f15, o19, ⟨x17, rfl, b20, b21, o22, o23⟩⟩ := hq
  refine T_vI ?_
  have f16 := z_Fr.tr (R := R_X12_reading_309) f f15 rs_X12_bad_309__X12_reading_309
  have t24 : s13 309 20 = s 309 20 := f15 309 20 (by decide)
  have t25 : s13 309 36 = s 309 36 := f15 309 36 (by decide)
  have t26 : s13 309 43 = s 309 43 := f15 309 43 (by decide)
  have t27 : s13 309 44 = s 309 44 := f15 309 44 (by decide)
  have t28 : s13 309 58 = s 309 58 := f15 309 58 (by decide)
  have t29 : s13 316 0 = s 316 0 := f15 316 0 (by decide)
  have t30 : s13 329 0 = s 329 0 := f15 329 0 (by decide)
  have t31 : s13 329 1 = s 329 1 := f15 329 1 (by decide)
  have r32 := y_BK.fr p1 (by omega) (f15 309 20 (by decide)) (f15 309 58 (by decide)) (fun b => f15 3220 b (nr_X12_bad_309__3220 b)) (fun a b h => f15 a b (nz_X12_bad_309__3452_3651 a b h))
  have r33 := y_TA.fr p2 (fun a b h => f15 a b (nz_X12_bad_309__316_328 a b h)) (fun a b h => f15 a b (nz_X12_bad_309__346_358 a b h)) (fun a b h => f15 a b (nz_X12_bad_309__361_373 a b h))
  have r34 := y_DD.fr p3 (f15 329 0 (by decide)) (f15 329 1 (by decide)) (fun b => f15 359 b (nr_X12_bad_309__359 b)) (fun b => f15 374 b (nr_X12_bad_309__374 b))
  have r35 := y_B.fr p4 (f15 309 20 (by decide)) (f15 316 0 (by decide)) (fun b => f15 3220 b (nr_X12_bad_309__3220 b)) (fun b => f15 3221 b (nr_X12_bad_309__3221 b)) (fun b => f15 3222 b (nr_X12_bad_309__3222 b)) (fun b => f15 361 b (nr_X12_bad_309__361 b))
  have r36 := y_K.fr p5 (by omega) (by omega) (f15 309 44 (by decide)) (f15 309 20 (by decide)) (f15 309 58 (by decide)) (fun b => f15 3438 b (nr_X12_bad_309__3438 b)) (fun b => f15 3220 b (nr_X12_bad_309__3220 b)) (fun a b h => f15 a b (nz_X12_bad_309__3452_3651 a b h))
  have r37 := y_KM.fr p6 (f15 309 20 (by decide)) (f15 309 36 (by decide)) (f15 309 38 (by decide)) (f15 309 39 (by decide)) (fun b => f15 312 b (nr_X12_bad_309__312 b)) (fun b => f15 331 b (nr_X12_bad_309__331 b)) (fun b => f15 346 b (nr_X12_bad_309__346 b)) (fun b => f15 361 b (nr_X12_bad_309__361 b)) (fun b => f15 391 b (nr_X12_bad_309__391 b)) (fun a b h => f15 a b (nz_X12_bad_309__407_606 a b h)) (fun a b h => f15 a b (nz_X12_bad_309__3220_3223 a b h)) (fun a b h => f15 a b (nz_X12_bad_309__3235_3437 a b h))
  have r38 := y_YM.fr p7 (by omega) (f15 309 44 (by decide)) (f15 309 20 (by decide)) (f15 309 58 (by decide)) (fun b => f15 312 b (nr_X12_bad_309__312 b)) (fun b => f15 331 b (nr_X12_bad_309__331 b)) (fun b => f15 346 b (nr_X12_bad_309__346 b)) (fun b => f15 361 b (nr_X12_bad_309__361 b)) (fun b => f15 391 b (nr_X12_bad_309__391 b)) (fun a b h => f15 a b (nz_X12_bad_309__407_606 a b h)) (fun a b h => f15 a b (nz_X12_bad_309__3220_3223 a b h)) (fun b => f15 3438 b (nr_X12_bad_309__3438 b)) (fun a b h => f15 a b (nz_X12_bad_309__3441_3450 a b h)) (fun a b h => f15 a b (nz_X12_bad_309__3452_3651 a b h))
  refine T_ite (fun h39 => ?_) (fun h39 => ?_)
  · exact sj_X12_reading_309Y_J70 hfu r0 s13 c14 f16 r33 (by first | exact r34 | exact y_DD.z (by omega) (by omega)) r35 (by first | exact r36 | exact y_K.b0 (by omega) | exact y_K.k0 (by omega) | exact y_K.bk (by omega)) (by first | exact r37 | exact y_KM.z (by omega)) (by first | exact r38 | exact y_YM.b0 (by omega) | exact y_YM.k0 (by omega) | exact y_YM.bk (by omega))
  · refine T_useI (sf_X12_in hfu s13 c14 a2 0 1 (by omega) (by omega) (by omega)) (fun v45 s40 hq => ?_)
    obtain ⟨c41, f42, ⟨x44, rfl, b46, b47, o48⟩⟩ := hq
    refine T_vI ?_
    have q49 := z_Fr.eq (fun a b h => h) f42
    subst q49
    refine T_ite (fun h50 => ?_) (fun h50 => ?_)
    · exact sj_X12_reading_309Y_J57 hfu r0 s13 c14 f16 a1 a2 a3 a4 (by omega) (by omega) (by omega) (by omega) (by omega) (by first | exact r32 | exact y_K.B r36 (by omega) (by omega)) r33 (by first | exact r34 | exact y_DD.z (by omega) (by omega)) r35 (by first | exact r36 | exact y_K.b0 (by omega) | exact y_K.k0 (by omega) | exact y_K.bk (by omega)) (by first | exact r37 | exact y_KM.z (by omega)) (by first | exact r38 | exact y_YM.b0 (by omega) | exact y_YM.k0 (by omega) | exact y_YM.bk (by omega))
    · refine T_useI (sf_X12_in hfu s13 c14 a4 0 1 (by omega) (by omega) (by omega)) (fun v56 s51 hq => ?_)
      obtain ⟨c52, f53, ⟨x55, rfl, b57, b58, o59⟩⟩ := hq
      refine T_vI ?_
      have q60 := z_Fr.eq (fun a b h => h) f53
      subst q60
      refine T_ite (fun h61 => ?_) (fun h61 => ?_)
      · exact sj_X12_reading_309Y_J62 hfu r0 s13 c14 f16 a1 a2 a3 a4 0 (by omega) (by omega) (by omega) (by omega) (by omega) (by omega) (by omega) (by first | exact r32 | exact y_K.B r36 (by omega) (by omega)) r33 (by first | exact r34 | exact y_DD.z (by omega) (by omega)) r35 (by first | exact r36 | exact y_K.b0 (by omega) | exact y_K.k0 (by omega) | exact y_K.bk (by omega)) (by first | exact r37 | exact y_KM.z (by omega)) (by first | exact r38 | exact y_YM.b0 (by omega) | exact y_YM.k0 (by omega) | exact y_YM.bk (by omega))
      · exact sj_X12_reading_309Y_J57 hfu r0 s13 c14 f16 a1 a2 a3 a4 (by omega) (by omega) (by omega) (by omega) (by omega) (by first | exact r32 | exact y_K.B r36 (by omega) (by omega)) r33 (by first | exact r34 | exact y_DD.z (by omega) (by omega)) r35 (by first | exact r36 | exact y_K.b0 (by omega) | exact y_K.k0 (by omega) | exact y_K.bk (by omega)) (by first | exact r37 | exact y_KM.z (by omega)) (by first | exact r38 | exact y_YM.b0 (by omega) | exact y_YM.k0 (by omega) | exact y_YM.bk (by omega))
theorem sf_X12_reading_309Y {fu : Nat} (hfu : 8589934592 ≤ fu) (r0 : z_M) (c0 : z_CI r0) (a1 : Int) (a2 : Int) (a3 : Int) (a4 : Int) (b1 : -2147483648 ≤ a1 ∧ a1 ≤ 2147483647) (b2 : -2147483648 ≤ a2 ∧ a2 ≤ 2147483647) (b3 : -2147483648 ≤ a3 ∧ a3 ≤ 2147483647) (b4 : -2147483648 ≤ a4 ∧ a4 ≤ 2147483647) (p0 : y_TA r0) (p1 : y_DD r0) (p2 : y_B r0) (p3 : y_K r0) (p4 : y_KM r0) (p5 : y_YM r0) : z_T (fX12_reading fu r0 309 a1 a2 a3 a4) (P_X12_reading_309Y r0) := by
  refine T_of (fX12_reading.eq_1 ..) ?_
  have u1 := CI_b c0 (k := 309) (j := 20) bd_309_20
  have u2 := CI_b c0 (k := 309) (j := 36) bd_309_36
  have u3 := CI_b c0 (k := 309) (j := 43) bd_309_43
  have u4 := CI_b c0 (k := 309) (j := 44) bd_309_44
  have u5 := CI_b c0 (k := 309) (j := 58) bd_309_58
  have u6 := CI_b c0 (k := 316) (j := 0) bd_316_0
  have u7 := CI_b c0 (k := 329) (j := 0) bd_329_0
  have u8 := CI_b c0 (k := 329) (j := 1) bd_329_1
  refine T_if1 (by decide +kernel) ?_
  refine T_upg c0 bd_309_0 (by omega) (fun s9 c10 g12 g13 e14 => ?_)
  have f11 := z_Fr.upf (R := R_X12_reading_309) z_Fr.rf g12 g13 (Or.inr (Or.inr (⟨rfl, by decide⟩)))
  have t15 : s9 309 20 = r0 309 20 := g13 20 (by decide)
  have t16 : s9 309 36 = r0 309 36 := g13 36 (by decide)
  have t17 : s9 309 43 = r0 309 43 := g13 43 (by decide)
  have t18 : s9 309 44 = r0 309 44 := g13 44 (by decide)
  have t19 : s9 309 58 = r0 309 58 := g13 58 (by decide)
  have t20 : s9 316 0 = r0 316 0 := g12 316 0 (by decide)
  have t21 : s9 329 0 = r0 329 0 := g12 329 0 (by decide)
  have t22 : s9 329 1 = r0 329 1 := g12 329 1 (by decide)
  have r23 := y_TA.fr p0 (fun a b h => g12 a b (by omega)) (fun a b h => g12 a b (by omega)) (fun a b h => g12 a b (by omega))
  have r24 := y_DD.fr p1 (g12 329 0 (by decide)) (g12 329 1 (by decide)) (fun b => g12 359 b (by decide)) (fun b => g12 374 b (by decide))
  have r25 := y_B.fr p2 (g13 20 (by decide)) (g12 316 0 (by decide)) (fun b => g12 3220 b (by decide)) (fun b => g12 3221 b (by decide)) (fun b => g12 3222 b (by decide)) (fun b => g12 361 b (by decide))
  have r26 := y_K.fr p3 (by omega) (by omega) (g13 44 (by decide)) (g13 20 (by decide)) (g13 58 (by decide)) (fun b => g12 3438 b (by decide)) (fun b => g12 3220 b (by decide)) (fun a b h => g12 a b (by omega))
  have r27 := y_KM.fr p4 (g13 20 (by decide)) (g13 36 (by decide)) (g13 38 (by decide)) (g13 39 (by decide)) (fun b => g12 312 b (by decide)) (fun b => g12 331 b (by decide)) (fun b => g12 346 b (by decide)) (fun b => g12 361 b (by decide)) (fun b => g12 391 b (by decide)) (fun a b h => g12 a b (by omega)) (fun a b h => g12 a b (by omega)) (fun a b h => g12 a b (by omega))
  have r28 := y_YM.fr p5 (by omega) (g13 44 (by decide)) (g13 20 (by decide)) (g13 58 (by decide)) (fun b => g12 312 b (by decide)) (fun b => g12 331 b (by decide)) (fun b => g12 346 b (by decide)) (fun b => g12 361 b (by decide)) (fun b => g12 391 b (by decide)) (fun a b h => g12 a b (by omega)) (fun a b h => g12 a b (by omega)) (fun b => g12 3438 b (by decide)) (fun a b h => g12 a b (by omega)) (fun a b h => g12 a b (by omega))
  refine T_if1 (by decide +kernel) ?_
  refine T_useN (sf_X12_laysAll_309Y hfu s9 c10 r25 (by first | exact r26 | exact y_K.b0 (by omega) | exact y_K.k0 (by omega) | exact y_K.bk (by omega)) (by first | exact r27 | exact y_KM.z (by omega)) (by first | exact r28 | exact y_YM.b0 (by omega) | exact y_YM.k0 (by omega) | exact y_YM.bk (by omega))) (fun v34 s29 hq => ?_)
  obtain ⟨c30, f31, o35, o36, o37, o38, o39, o40, o41, o42, rfl⟩ := hq
  refine T_vN ?_
  have f32 := z_Fr.tr (R := R_X12_reading_309) f11 f31 rs_X12_laysAll_309__X12_reading_309
  have t45 : s29 309 20 = r0 309 20 := (f31 309 20 (by decide)).trans t15
  have t46 : s29 316 0 = r0 316 0 := (f31 316 0 (by decide)).trans t20
  have t47 : s29 329 0 = r0 329 0 := (f31 329 0 (by decide)).trans t21
  have t48 : s29 329 1 = r0 329 1 := (f31 329 1 (by decide)).trans t22
  have u49 := CI_b c30 (k := 309) (j := 36) bd_309_36
  have u50 := CI_b c30 (k := 309) (j := 43) bd_309_43
  have u51 := CI_b c30 (k := 309) (j := 44) bd_309_44
  have u52 := CI_b c30 (k := 309) (j := 58) bd_309_58
  have r53 := y_TA.fr r23 (fun a b h => f31 a b (nz_X12_laysAll_309__316_328 a b h)) (fun a b h => f31 a b (nz_X12_laysAll_309__346_358 a b h)) (fun a b h => f31 a b (nz_X12_laysAll_309__361_373 a b h))
  have r54 := y_DD.fr r24 (f31 329 0 (by decide)) (f31 329 1 (by decide)) (fun b => f31 359 b (nr_X12_laysAll_309__359 b)) (fun b => f31 374 b (nr_X12_laysAll_309__374 b))
  have r55 := y_B.fr r25 (f31 309 20 (by decide)) (f31 316 0 (by decide)) (fun b => f31 3220 b (nr_X12_laysAll_309__3220 b)) (fun b => f31 3221 b (nr_X12_laysAll_309__3221 b)) (fun b => f31 3222 b (nr_X12_laysAll_309__3222 b)) (fun b => f31 361 b (nr_X12_laysAll_309__361 b))
  clear t15
  clear t20
  clear t21
  clear t22
  refine T_if1 (by decide +kernel) ?_
  refine T_leq (fun x56 e57 => ?_)
  have u58 := CI_b c30 (k := 309) (j := 58) bd_309_58
  refine T_leq (fun x59 e60 => ?_)
  first | (have w61 := z_wx e60 (by omega)) | (have w61 := z_wr e60)
  refine T_useI (sf_X12_in hfu s29 c30 a1 0 x59 (by omega) (by omega) (by omega)) (fun v67 s62 hq => ?_)
  obtain ⟨c63, f64, ⟨x66, rfl, b68, b69, o70⟩⟩ := hq
  refine T_vI ?_
  have q71 := z_Fr.eq (fun a b h => h) f64
  subst q71
  refine T_ite (fun h72 => ?_) (fun h72 => ?_)
  · exact sj_X12_reading_309Y_J29 hfu r0 s29 c30 f32 a1 a2 a3 a4 0 (by omega) (by omega) (by omega) (by omega) (by omega) (by omega) (by first | exact o37 | exact y_K.B o35 (by omega) (by omega)) r53 (by first | exact r54 | exact y_DD.z (by omega) (by omega)) r55 (by first | exact o35 | exact y_K.b0 (by omega) | exact y_K.k0 (by omega) | exact y_K.bk (by omega) | exact y_K.mk o36 (by omega) o37) (by first | exact o41 | exact y_KM.z (by omega)) (by first | exact o42 | exact y_YM.b0 (by omega) | exact y_YM.k0 (by omega) | exact y_YM.bk (by omega))
  · exact sj_X12_reading_309Y_J29 hfu r0 s29 c30 f32 a1 a2 a3 a4 1 (by omega) (by omega) (by omega) (by omega) (by omega) (by omega) (by first | exact o37 | exact y_K.B o35 (by omega) (by omega)) r53 (by first | exact r54 | exact y_DD.z (by omega) (by omega)) r55 (by first | exact o35 | exact y_K.b0 (by omega) | exact y_K.k0 (by omega) | exact y_K.bk (by omega) | exact y_K.mk o36 (by omega) o37) (by first | exact o41 | exact y_KM.z (by omega)) (by first | exact o42 | exact y_YM.b0 (by omega) | exact y_YM.k0 (by omega) | exact y_YM.bk (by omega))
abbrev P_X12_at_309Y (r0 : z_M) : z_V → z_M → Prop := fun v s' => z_CI s' ∧ z_Fr R_X12_at_309 r0 s' ∧ (y_TA s') ∧ (y_DD s') ∧ (y_B s') ∧ (y_K s') ∧ (y_KM s') ∧ (y_YM s') ∧ (∃ x, v = vI x ∧ -2147483648 ≤ x ∧ x ≤ 2147483647)
theorem sl_X12_at_309Y_L89 {fu : Nat} (hfu : 8589934592 ≤ fu) (r0 : z_M) (a1 : Int) (a2 : Int) (a3 : Int) (b1 : 0 ≤ a1 ∧ a1 ≤ 199) (b2 : -2147483648 ≤ a2 ∧ a2 ≤ 2147483647) (b3 : 0 ≤ a3 ∧ a3 ≤ 199) {k : z_M → z_O} (hk : ∀ (s' : z_M), z_CI s' → z_Fr R_X12_at_309 r0 s' → (y_L s' (s' 309 44)) → (a1 < s' 309 44) → (a3 < s' 309 20) → (y_TA s') → (y_DD s') → (y_B s') → (y_K s') → (y_KM s') → (y_YM s') → z_T (k s') (P_X12_at_309Y r0)) : ∀ (F : Nat) (s : z_M) (a4 : Int), z_CI s → z_Fr R_X12_at_309 r0 s → (0 ≤ a4 ∧ a4 ≤ 200) → (y_L s (s 309 44)) → (a1 < s 309 44) → (a3 < s 309 20) → (y_TA s) → (y_DD s) → (y_B s) → (y_K s) → (y_KM s) → (y_YM s) → (2147483647 - a4 < (F : Int)) → z_T (fX12_at_L89 fu 309 a1 a2 a3 F s a4 k) (P_X12_at_309Y r0) := by
  intro F
  induction F with
  | zero =>
    intro s a4 c f b4 i0 i1 i2 i3 i4 i5 i6 i7 i8 hm
    have u59 := CI_b c (k := 309) (j := 20) bd_309_20
    have u60 := CI_b c (k := 309) (j := 36) bd_309_36
    have u61 := CI_b c (k := 309) (j := 43) bd_309_43
    have u62 := CI_b c (k := 309) (j := 44) bd_309_44
    have u63 := CI_b c (k := 309) (j := 58) bd_309_58
    have u64 := CI_b c (k := 316) (j := 0) bd_316_0
    have u65 := CI_b c (k := 329) (j := 0) bd_329_0
    have u66 := CI_b c (k := 329) (j := 1) bd_329_1
    exfalso; omega
  | succ F ih =>
    intro s a4 c f b4 i0 i1 i2 i3 i4 i5 i6 i7 i8 hm
    refine T_of (fX12_at_L89.eq_2 ..) ?_
    have u1 := CI_b c (k := 309) (j := 20) bd_309_20
    have u2 := CI_b c (k := 309) (j := 36) bd_309_36
    have u3 := CI_b c (k := 309) (j := 43) bd_309_43
    have u4 := CI_b c (k := 309) (j := 44) bd_309_44
    have u5 := CI_b c (k := 309) (j := 58) bd_309_58
    have u6 := CI_b c (k := 316) (j := 0) bd_316_0
    have u7 := CI_b c (k := 329) (j := 0) bd_329_0
    have u8 := CI_b c (k := 329) (j := 1) bd_329_1
    have t9 : s 309 20 = r0 309 20 := f 309 20 (by decide)
    have t10 : s 316 0 = r0 316 0 := f 316 0 (by decide)
    have t11 : s 329 0 = r0 329 0 := f 329 0 (by decide)
    have t12 : s 329 1 = r0 329 1 := f 329 1 (by decide)
    have n13 := y_B.at i5 (u := a3) (by omega) (by omega)
    refine T_if1 (by decide +kernel) ?_
    refine T_let 3221 (by decide +kernel) ?_
    refine T_if1 (z_ixl (n := 200) (by decide +kernel) (by omega) (by omega)) ?_
    refine T_leq (fun x14 e15 => ?_)
    have u16 := CI_b c (k := 3221) (j := a3) (bdr_3221 a3)
    refine T_if1 (by decide +kernel) ?_
    refine T_let 3222 (by decide +kernel) ?_
    refine T_if1 (z_ixl (n := 200) (by decide +kernel) (by omega) (by omega)) ?_
    refine T_leq (fun x17 e18 => ?_)
    have u19 := CI_b c (k := 3222) (j := a3) (bdr_3222 a3)
    refine T_leq (fun x20 e21 => ?_)
    first | (have w22 := z_wx e21 (by omega)) | (have w22 := z_wr e21)
    refine T_ite (fun h23 => ?_) (fun h23 => ?_)
    · exact hk s c f (by first | exact y_L.cg i0 (by omega) | exact y_K.L i6 (by omega) (by omega)) (by omega) (by omega) i3 (by first | exact i4 | exact y_DD.z (by omega) (by omega)) i5 (by first | exact i6 | exact y_K.b0 (by omega) | exact y_K.k0 (by omega) | exact y_K.bk (by omega)) (by first | exact i7 | exact y_KM.z (by omega)) (by first | exact i8 | exact y_YM.b0 (by omega) | exact y_YM.k0 (by omega) | exact y_YM.bk (by omega))
    · refine T_if1 (by decide +kernel) ?_
      refine T_let 3443 (by decide +kernel) ?_
      refine T_if1 (z_ixl (n := 200) (by decide +kernel) (by omega) (by omega)) ?_
      refine T_leq (fun x24 e25 => ?_)
      have u26 := CI_b c (k := 3443) (j := a4) (bdr_3443 a4)
      refine T_if1 (by decide +kernel) ?_
      refine T_let 3443 (by decide +kernel) ?_
      refine T_if1 (z_ixl (n := 200) (by decide +kernel) (by omega) (by omega)) ?_
      refine T_leq (fun x27 e28 => ?_)
      have q29 : x24 = x27 := e25.symm.trans e28
      subst q29
      refine T_if1 (by decide +kernel) ?_
      refine T_useI (sf_X12_signLong_309 hfu s c a4 (by omega)) (fun v35 s30 hq => ?_)
      obtain ⟨c31, f32, ⟨x34, rfl, b36, b37⟩⟩ := hq
      refine T_vI ?_
      have q38 := z_Fr.eq (fun a b h => h) f32
      subst q38
      refine T_leq (fun x39 e40 => ?_)
      first | (have w41 := z_wx e40 (by omega)) | (have w41 := z_wr e40)
      refine T_leq (fun x42 e43 => ?_)
      first | (have w44 := z_wx e43 (by omega)) | (have w44 := z_wr e43)
      refine T_useI (sf_X12_in hfu s c a2 x24 x42 (by omega) (by omega) (by omega)) (fun v50 s45 hq => ?_)
      obtain ⟨c46, f47, ⟨x49, rfl, b51, b52, o53⟩⟩ := hq
      refine T_vI ?_
      have q54 := z_Fr.eq (fun a b h => h) f47
      subst q54
      refine T_ite (fun h55 => ?_) (fun h55 => ?_)
      · refine T_leq (fun x56 e57 => ?_)
        first | (have w58 := z_wx e57 (by omega)) | (have w58 := z_wr e57)
        exact ih s x56 c f (by omega) (by first | exact y_L.cg i0 (by omega) | exact y_K.L i6 (by omega) (by omega)) (by omega) (by omega) i3 (by first | exact i4 | exact y_DD.z (by omega) (by omega)) i5 (by first | exact i6 | exact y_K.b0 (by omega) | exact y_K.k0 (by omega) | exact y_K.bk (by omega)) (by first | exact i7 | exact y_KM.z (by omega)) (by first | exact i8 | exact y_YM.b0 (by omega) | exact y_YM.k0 (by omega) | exact y_YM.bk (by omega)) (by omega)
      · exact T_ret ⟨c, f, i3, (by first | exact i4 | exact y_DD.z (by omega) (by omega)), i5, (by first | exact i6 | exact y_K.b0 (by omega) | exact y_K.k0 (by omega) | exact y_K.bk (by omega)), (by first | exact i7 | exact y_KM.z (by omega)), (by first | exact i8 | exact y_YM.b0 (by omega) | exact y_YM.k0 (by omega) | exact y_YM.bk (by omega)), ⟨a4, rfl, by omega, by omega⟩⟩
theorem sj_X12_at_309Y_J146 {fu : Nat} (hfu : 8589934592 ≤ fu) (r0 s : z_M) (c : z_CI s) (f : z_Fr R_X12_at_309 r0 s) (a1 : Int) (a2 : Int) (a3 : Int) (b1 : 0 ≤ a1 ∧ a1 ≤ 199) (b2 : -2147483648 ≤ a2 ∧ a2 ≤ 2147483647) (b3 : 0 ≤ a3 ∧ a3 ≤ 199) (p0 : y_L s (s 309 44)) (p1 : a1 < s 309 44) (p2 : a3 < s 309 20) (p3 : y_TA s) (p4 : y_DD s) (p5 : y_B s) (p6 : y_K s) (p7 : y_KM s) (p8 : y_YM s) (M : Int) (pm : 2147483647 - a3 ≤ M) {r : z_M → Int → z_O} {k : z_M → z_O} (hr : ∀ (s' : z_M) (v3 : Int), z_CI s' → z_Fr R_X12_at_309 r0 s' → (0 ≤ v3 ∧ v3 ≤ 200) → (y_L s' (s' 309 44)) → (a1 < s' 309 44) → (y_TA s') → (y_DD s') → (y_B s') → (y_K s') → (y_KM s') → (y_YM s') → (2147483647 - v3 < M) → z_T (r s' v3) (P_X12_at_309Y r0)) (hk : ∀ (s' : z_M), z_CI s' → z_Fr R_X12_at_309 r0 s' → (y_TA s') → (y_DD s') → (y_B s') → (y_K s') → (y_KM s') → (y_YM s') → z_T (k s') (P_X12_at_309Y r0)) : z_T (fX12_at_J146 fu s 309 a1 a2 a3 r k) (P_X12_at_309Y r0) := by
  refine T_of (fX12_at_J146.eq_1 ..) ?_
  have u1 := CI_b c (k := 309) (j := 20) bd_309_20
  have u2 := CI_b c (k := 309) (j := 36) bd_309_36
  have u3 := CI_b c (k := 309) (j := 43) bd_309_43
  have u4 := CI_b c (k := 309) (j := 44) bd_309_44
  have u5 := CI_b c (k := 309) (j := 58) bd_309_58
  have u6 := CI_b c (k := 316) (j := 0) bd_316_0
  have u7 := CI_b c (k := 329) (j := 0) bd_329_0
  have u8 := CI_b c (k := 329) (j := 1) bd_329_1
  have t9 : s 309 20 = r0 309 20 := f 309 20 (by decide)
  have t10 : s 316 0 = r0 316 0 := f 316 0 (by decide)
  have t11 : s 329 0 = r0 329 0 := f 329 0 (by decide)
  have t12 : s 329 1 = r0 329 1 := f 329 1 (by decide)
  refine T_leq (fun x13 e14 => ?_)
  first | (have w15 := z_wx e14 (by omega)) | (have w15 := z_wr e14)
  exact hr s x13 c f (by omega) (by first | exact y_L.cg p0 (by omega) | exact y_K.L p6 (by omega) (by omega)) (by omega) p3 (by first | exact p4 | exact y_DD.z (by omega) (by omega)) p5 (by first | exact p6 | exact y_K.b0 (by omega) | exact y_K.k0 (by omega) | exact y_K.bk (by omega)) (by first | exact p7 | exact y_KM.z (by omega)) (by first | exact p8 | exact y_YM.b0 (by omega) | exact y_YM.k0 (by omega) | exact y_YM.bk (by omega)) (by omega)
theorem sj_X12_at_309Y_J81 {fu : Nat} (hfu : 8589934592 ≤ fu) (r0 s : z_M) (c : z_CI s) (f : z_Fr R_X12_at_309 r0 s) (a1 : Int) (a2 : Int) (a3 : Int) (b1 : 0 ≤ a1 ∧ a1 ≤ 199) (b2 : -2147483648 ≤ a2 ∧ a2 ≤ 2147483647) (b3 : 0 ≤ a3 ∧ a3 ≤ 199) (p0 : y_L s (s 309 44)) (p1 : a1 < s 309 44) (p2 : a3 < s 309 20) (p3 : y_TA s) (p4 : y_DD s) (p5 : y_B s) (p6 : y_K s) (p7 : y_KM s) (p8 : y_YM s) (M : Int) (pm : 2147483647 - a3 ≤ M) {r : z_M → Int → z_O} {k : z_M → z_O} (hr : ∀ (s' : z_M) (v3 : Int), z_CI s' → z_Fr R_X12_at_309 r0 s' → (0 ≤ v3 ∧ v3 ≤ 200) → (y_L s' (s' 309 44)) → (a1 < s' 309 44) → (y_TA s') → (y_DD s') → (y_B s') → (y_K s') → (y_KM s') → (y_YM s') → (2147483647 - v3 < M) → z_T (r s' v3) (P_X12_at_309Y r0)) (hk : ∀ (s' : z_M), z_CI s' → z_Fr R_X12_at_309 r0 s' → (y_TA s') → (y_DD s') → (y_B s') → (y_K s') → (y_KM s') → (y_YM s') → z_T (k s') (P_X12_at_309Y r0)) : z_T (fX12_at_J81 fu s 309 a1 a2 a3 r k) (P_X12_at_309Y r0) := by
  refine T_of (fX12_at_J81.eq_1 ..) ?_
  have u1 := CI_b c (k := 309) (j := 20) bd_309_20
  have u2 := CI_b c (k := 309) (j := 36) bd_309_36
  have u3 := CI_b c (k := 309) (j := 43) bd_309_43
  have u4 := CI_b c (k := 309) (j := 44) bd_309_44
  have u5 := CI_b c (k := 309) (j := 58) bd_309_58
  have u6 := CI_b c (k := 316) (j := 0) bd_316_0
  have u7 := CI_b c (k := 329) (j := 0) bd_329_0
  have u8 := CI_b c (k := 329) (j := 1) bd_329_1
  have t9 : s 309 20 = r0 309 20 := f 309 20 (by decide)
  have t10 : s 316 0 = r0 316 0 := f 316 0 (by decide)
  have t11 : s 329 0 = r0 329 0 := f 329 0 (by decide)
  have t12 : s 329 1 = r0 329 1 := f 329 1 (by decide)
  refine T_if1 (by decide +kernel) ?_
  refine T_let 3221 (by decide +kernel) ?_
  refine T_if1 (z_ixl (n := 200) (by decide +kernel) (by omega) (by omega)) ?_
  refine T_leq (fun x13 e14 => ?_)
  have u15 := CI_b c (k := 3221) (j := a3) (bdr_3221 a3)
  refine sl_X12_at_309Y_L89 hfu r0 a1 a2 a3 (by omega) (by omega) (by omega) (fun s16 c17 f18 g19 g20 g21 g22 g23 g24 g25 g26 g27 => ?_) fu s x13 c f (by omega) (by first | exact y_L.cg p0 (by omega) | exact y_K.L p6 (by omega) (by omega)) (by omega) (by omega) p3 (by first | exact p4 | exact y_DD.z (by omega) (by omega)) p5 (by first | exact p6 | exact y_K.b0 (by omega) | exact y_K.k0 (by omega) | exact y_K.bk (by omega)) (by first | exact p7 | exact y_KM.z (by omega)) (by first | exact p8 | exact y_YM.b0 (by omega) | exact y_YM.k0 (by omega) | exact y_YM.bk (by omega)) (by omega)
  have u28 := CI_b c17 (k := 309) (j := 20) bd_309_20
  have u29 := CI_b c17 (k := 309) (j := 36) bd_309_36
  have u30 := CI_b c17 (k := 309) (j := 43) bd_309_43
  have u31 := CI_b c17 (k := 309) (j := 44) bd_309_44
  have u32 := CI_b c17 (k := 309) (j := 58) bd_309_58
  have u33 := CI_b c17 (k := 316) (j := 0) bd_316_0
  have u34 := CI_b c17 (k := 329) (j := 0) bd_329_0
  have u35 := CI_b c17 (k := 329) (j := 1) bd_329_1
  have t36 : s16 309 20 = r0 309 20 := f18 309 20 (by decide)
  have t37 : s16 316 0 = r0 316 0 := f18 316 0 (by decide)
  have t38 : s16 329 0 = r0 329 0 := f18 329 0 (by decide)
  have t39 : s16 329 1 = r0 329 1 := f18 329 1 (by decide)
  exact sj_X12_at_309Y_J146 hfu r0 s16 c17 f18 a1 a2 a3 (by omega) (by omega) (by omega) (by first | exact y_L.cg g19 (by omega) | exact y_K.L g25 (by omega) (by omega)) (by omega) (by omega) g22 (by first | exact g23 | exact y_DD.z (by omega) (by omega)) g24 (by first | exact g25 | exact y_K.b0 (by omega) | exact y_K.k0 (by omega) | exact y_K.bk (by omega)) (by first | exact g26 | exact y_KM.z (by omega)) (by first | exact g27 | exact y_YM.b0 (by omega) | exact y_YM.k0 (by omega) | exact y_YM.bk (by omega)) M (by omega) (fun s' v3 c' f' w3 z0 z1 z2 z3 z4 z5 z6 z7 pg => hr s' v3 c' f' w3 z0 z1 z2 z3 z4 z5 z6 z7 (by omega)) hk
theorem sl_X12_at_309Y_L46 {fu : Nat} (hfu : 8589934592 ≤ fu) (r0 : z_M) (a1 : Int) (a2 : Int) (b1 : 0 ≤ a1 ∧ a1 ≤ 199) (b2 : -2147483648 ≤ a2 ∧ a2 ≤ 2147483647) {k : z_M → z_O} (hk : ∀ (s' : z_M), z_CI s' → z_Fr R_X12_at_309 r0 s' → (y_TA s') → (y_DD s') → (y_B s') → (y_K s') → (y_KM s') → (y_YM s') → z_T (k s') (P_X12_at_309Y r0)) : ∀ (F : Nat) (s : z_M) (a3 : Int), z_CI s → z_Fr R_X12_at_309 r0 s → (0 ≤ a3 ∧ a3 ≤ 200) → (y_L s (s 309 44)) → (a1 < s 309 44) → (y_TA s) → (y_DD s) → (y_B s) → (y_K s) → (y_KM s) → (y_YM s) → (2147483647 - a3 < (F : Int)) → z_T (fX12_at_L46 fu 309 a1 a2 F s a3 k) (P_X12_at_309Y r0) := by
  intro F
  induction F with
  | zero =>
    intro s a3 c f b3 i0 i1 i2 i3 i4 i5 i6 i7 hm
    have u29 := CI_b c (k := 309) (j := 20) bd_309_20
    have u30 := CI_b c (k := 309) (j := 36) bd_309_36
    have u31 := CI_b c (k := 309) (j := 43) bd_309_43
    have u32 := CI_b c (k := 309) (j := 44) bd_309_44
    have u33 := CI_b c (k := 309) (j := 58) bd_309_58
    have u34 := CI_b c (k := 316) (j := 0) bd_316_0
    have u35 := CI_b c (k := 329) (j := 0) bd_329_0
    have u36 := CI_b c (k := 329) (j := 1) bd_329_1
    exfalso; omega
  | succ F ih =>
    intro s a3 c f b3 i0 i1 i2 i3 i4 i5 i6 i7 hm
    refine T_of (fX12_at_L46.eq_2 ..) ?_
    have u1 := CI_b c (k := 309) (j := 20) bd_309_20
    have u2 := CI_b c (k := 309) (j := 36) bd_309_36
    have u3 := CI_b c (k := 309) (j := 43) bd_309_43
    have u4 := CI_b c (k := 309) (j := 44) bd_309_44
    have u5 := CI_b c (k := 309) (j := 58) bd_309_58
    have u6 := CI_b c (k := 316) (j := 0) bd_316_0
    have u7 := CI_b c (k := 329) (j := 0) bd_329_0
    have u8 := CI_b c (k := 329) (j := 1) bd_329_1
    have t9 : s 309 20 = r0 309 20 := f 309 20 (by decide)
    have t10 : s 316 0 = r0 316 0 := f 316 0 (by decide)
    have t11 : s 329 0 = r0 329 0 := f 329 0 (by decide)
    have t12 : s 329 1 = r0 329 1 := f 329 1 (by decide)
    refine T_if1 (by decide +kernel) ?_
    refine T_let 3438 (by decide +kernel) ?_
    refine T_leq (fun x13 e14 => ?_)
    first | (have w15 := z_wx e14 (by omega)) | (have w15 := z_wr e14)
    have n16 := y_L.at i0 (i := a1) (j := x13) (by omega) (by omega) (by omega)
    refine T_if1 (z_ixl (n := 201) (by decide +kernel) (by omega) (by omega)) ?_
    refine T_leq (fun x17 e18 => ?_)
    have u19 := CI_b c (k := 3438) (j := x13) (bdr_3438 x13)
    refine T_ite (fun h20 => ?_) (fun h20 => ?_)
    · exact hk s c f i2 (by first | exact i3 | exact y_DD.z (by omega) (by omega)) i4 (by first | exact i5 | exact y_K.b0 (by omega) | exact y_K.k0 (by omega) | exact y_K.bk (by omega)) (by first | exact i6 | exact y_KM.z (by omega)) (by first | exact i7 | exact y_YM.b0 (by omega) | exact y_YM.k0 (by omega) | exact y_YM.bk (by omega))
    · refine T_if1 (by decide +kernel) ?_
      refine T_let 3220 (by decide +kernel) ?_
      refine T_if1 (z_ixl (n := 200) (by decide +kernel) (by omega) (by omega)) ?_
      refine T_leq (fun x21 e22 => ?_)
      have u23 := CI_b c (k := 3220) (j := a3) (bdr_3220 a3)
      refine T_ite (fun h24 => ?_) (fun h24 => ?_)
      · exact sj_X12_at_309Y_J81 hfu r0 s c f a1 a2 a3 (by omega) (by omega) (by omega) (by first | exact y_L.cg i0 (by omega) | exact y_K.L i5 (by omega) (by omega)) (by omega) (by omega) i2 (by first | exact i3 | exact y_DD.z (by omega) (by omega)) i4 (by first | exact i5 | exact y_K.b0 (by omega) | exact y_K.k0 (by omega) | exact y_K.bk (by omega)) (by first | exact i6 | exact y_KM.z (by omega)) (by first | exact i7 | exact y_YM.b0 (by omega) | exact y_YM.k0 (by omega) | exact y_YM.bk (by omega)) (2147483647 - a3) (by omega) (fun s' v3 c' f' w3 z0 z1 z2 z3 z4 z5 z6 z7 pg => ih s' v3 c' f' w3 z0 z1 z2 z3 z4 z5 z6 z7 (by omega)) hk
      · refine T_if1 (by decide +kernel) ?_
        refine T_let 3445 (by decide +kernel) ?_
        refine T_if1 (z_ixl (n := 200) (by decide +kernel) (by omega) (by omega)) ?_
        refine T_leq (fun x25 e26 => ?_)
        have u27 := CI_b c (k := 3445) (j := a3) (bdr_3445 a3)
        refine T_ite (fun h28 => ?_) (fun h28 => ?_)
        · exact sj_X12_at_309Y_J81 hfu r0 s c f a1 a2 a3 (by omega) (by omega) (by omega) (by first | exact y_L.cg i0 (by omega) | exact y_K.L i5 (by omega) (by omega)) (by omega) (by omega) i2 (by first | exact i3 | exact y_DD.z (by omega) (by omega)) i4 (by first | exact i5 | exact y_K.b0 (by omega) | exact y_K.k0 (by omega) | exact y_K.bk (by omega)) (by first | exact i6 | exact y_KM.z (by omega)) (by first | exact i7 | exact y_YM.b0 (by omega) | exact y_YM.k0 (by omega) | exact y_YM.bk (by omega)) (2147483647 - a3) (by omega) (fun s' v3 c' f' w3 z0 z1 z2 z3 z4 z5 z6 z7 pg => ih s' v3 c' f' w3 z0 z1 z2 z3 z4 z5 z6 z7 (by omega)) hk
        · exact sj_X12_at_309Y_J146 hfu r0 s c f a1 a2 a3 (by omega) (by omega) (by omega) (by first | exact y_L.cg i0 (by omega) | exact y_K.L i5 (by omega) (by omega)) (by omega) (by omega) i2 (by first | exact i3 | exact y_DD.z (by omega) (by omega)) i4 (by first | exact i5 | exact y_K.b0 (by omega) | exact y_K.k0 (by omega) | exact y_K.bk (by omega)) (by first | exact i6 | exact y_KM.z (by omega)) (by first | exact i7 | exact y_YM.b0 (by omega) | exact y_YM.k0 (by omega) | exact y_YM.bk (by omega)) (2147483647 - a3) (by omega) (fun s' v3 c' f' w3 z0 z1 z2 z3 z4 z5 z6 z7 pg => ih s' v3 c' f' w3 z0 z1 z2 z3 z4 z5 z6 z7 (by omega)) hk
theorem sj_X12_at_309Y_J29 {fu : Nat} (hfu : 8589934592 ≤ fu) (r0 s : z_M) (c : z_CI s) (f : z_Fr R_X12_at_309 r0 s) (a1 : Int) (a2 : Int) (t1 : Int) (b1 : -2147483648 ≤ a1 ∧ a1 ≤ 2147483647) (b2 : -2147483648 ≤ a2 ∧ a2 ≤ 2147483647) (d1 : 0 ≤ t1 ∧ t1 ≤ 1) (p0 : t1 = 1 ∨ (0 ≤ a1 ∧ a1 < s 309 44)) (p1 : y_L s (s 309 44)) (p2 : y_TA s) (p3 : y_DD s) (p4 : y_B s) (p5 : y_K s) (p6 : y_KM s) (p7 : y_YM s) : z_T (fX12_at_J29 fu s 309 a1 a2 309 t1) (P_X12_at_309Y r0) := by
  refine T_of (fX12_at_J29.eq_1 ..) ?_
  have u1 := CI_b c (k := 309) (j := 20) bd_309_20
  have u2 := CI_b c (k := 309) (j := 36) bd_309_36
  have u3 := CI_b c (k := 309) (j := 43) bd_309_43
  have u4 := CI_b c (k := 309) (j := 44) bd_309_44
  have u5 := CI_b c (k := 309) (j := 58) bd_309_58
  have u6 := CI_b c (k := 316) (j := 0) bd_316_0
  have u7 := CI_b c (k := 329) (j := 0) bd_329_0
  have u8 := CI_b c (k := 329) (j := 1) bd_329_1
  have t9 : s 309 20 = r0 309 20 := f 309 20 (by decide)
  have t10 : s 316 0 = r0 316 0 := f 316 0 (by decide)
  have t11 : s 329 0 = r0 329 0 := f 329 0 (by decide)
  have t12 : s 329 1 = r0 329 1 := f 329 1 (by decide)
  refine T_if1 (by decide +kernel) ?_
  refine T_useI (sf_X12_bad_309 hfu s c t1 1 0 (by omega) (by omega) (by omega) (by omega)) (fun v18 s13 hq => ?_)
  obtain ⟨c14, f15, o19, ⟨x17, rfl, b20, b21, o22, o23⟩⟩ := hq
  refine T_vI ?_
  have f16 := z_Fr.tr (R := R_X12_at_309) f f15 rs_X12_bad_309__X12_at_309
  have t24 : s13 309 20 = s 309 20 := f15 309 20 (by decide)
  have t25 : s13 309 36 = s 309 36 := f15 309 36 (by decide)
  have t26 : s13 309 43 = s 309 43 := f15 309 43 (by decide)
  have t27 : s13 309 44 = s 309 44 := f15 309 44 (by decide)
  have t28 : s13 309 58 = s 309 58 := f15 309 58 (by decide)
  have t29 : s13 316 0 = s 316 0 := f15 316 0 (by decide)
  have t30 : s13 329 0 = s 329 0 := f15 329 0 (by decide)
  have t31 : s13 329 1 = s 329 1 := f15 329 1 (by decide)
  have r32 := y_L.fr p1 (f15 309 20 (by decide)) (fun b => f15 3438 b (nr_X12_bad_309__3438 b))
  have r33 := y_TA.fr p2 (fun a b h => f15 a b (nz_X12_bad_309__316_328 a b h)) (fun a b h => f15 a b (nz_X12_bad_309__346_358 a b h)) (fun a b h => f15 a b (nz_X12_bad_309__361_373 a b h))
  have r34 := y_DD.fr p3 (f15 329 0 (by decide)) (f15 329 1 (by decide)) (fun b => f15 359 b (nr_X12_bad_309__359 b)) (fun b => f15 374 b (nr_X12_bad_309__374 b))
  have r35 := y_B.fr p4 (f15 309 20 (by decide)) (f15 316 0 (by decide)) (fun b => f15 3220 b (nr_X12_bad_309__3220 b)) (fun b => f15 3221 b (nr_X12_bad_309__3221 b)) (fun b => f15 3222 b (nr_X12_bad_309__3222 b)) (fun b => f15 361 b (nr_X12_bad_309__361 b))
  have r36 := y_K.fr p5 (by omega) (by omega) (f15 309 44 (by decide)) (f15 309 20 (by decide)) (f15 309 58 (by decide)) (fun b => f15 3438 b (nr_X12_bad_309__3438 b)) (fun b => f15 3220 b (nr_X12_bad_309__3220 b)) (fun a b h => f15 a b (nz_X12_bad_309__3452_3651 a b h))
  have r37 := y_KM.fr p6 (f15 309 20 (by decide)) (f15 309 36 (by decide)) (f15 309 38 (by decide)) (f15 309 39 (by decide)) (fun b => f15 312 b (nr_X12_bad_309__312 b)) (fun b => f15 331 b (nr_X12_bad_309__331 b)) (fun b => f15 346 b (nr_X12_bad_309__346 b)) (fun b => f15 361 b (nr_X12_bad_309__361 b)) (fun b => f15 391 b (nr_X12_bad_309__391 b)) (fun a b h => f15 a b (nz_X12_bad_309__407_606 a b h)) (fun a b h => f15 a b (nz_X12_bad_309__3220_3223 a b h)) (fun a b h => f15 a b (nz_X12_bad_309__3235_3437 a b h))
  have r38 := y_YM.fr p7 (by omega) (f15 309 44 (by decide)) (f15 309 20 (by decide)) (f15 309 58 (by decide)) (fun b => f15 312 b (nr_X12_bad_309__312 b)) (fun b => f15 331 b (nr_X12_bad_309__331 b)) (fun b => f15 346 b (nr_X12_bad_309__346 b)) (fun b => f15 361 b (nr_X12_bad_309__361 b)) (fun b => f15 391 b (nr_X12_bad_309__391 b)) (fun a b h => f15 a b (nz_X12_bad_309__407_606 a b h)) (fun a b h => f15 a b (nz_X12_bad_309__3220_3223 a b h)) (fun b => f15 3438 b (nr_X12_bad_309__3438 b)) (fun a b h => f15 a b (nz_X12_bad_309__3441_3450 a b h)) (fun a b h => f15 a b (nz_X12_bad_309__3452_3651 a b h))
  refine T_ite (fun h39 => ?_) (fun h39 => ?_)
  · refine T_if1 (by decide +kernel) ?_
    refine T_let 3438 (by decide +kernel) ?_
    refine T_if1 (z_ixl (n := 201) (by decide +kernel) (by omega) (by omega)) ?_
    refine T_leq (fun x40 e41 => ?_)
    have u42 := CI_b c14 (k := 3438) (j := a1) (bdr_3438 a1)
    refine sl_X12_at_309Y_L46 hfu r0 a1 a2 (by omega) (by omega) (fun s43 c44 f45 g46 g47 g48 g49 g50 g51 => ?_) fu s13 x40 c14 f16 (by omega) (by first | exact y_L.cg r32 (by omega) | exact y_K.L r36 (by omega) (by omega)) (by omega) r33 (by first | exact r34 | exact y_DD.z (by omega) (by omega)) r35 (by first | exact r36 | exact y_K.b0 (by omega) | exact y_K.k0 (by omega) | exact y_K.bk (by omega)) (by first | exact r37 | exact y_KM.z (by omega)) (by first | exact r38 | exact y_YM.b0 (by omega) | exact y_YM.k0 (by omega) | exact y_YM.bk (by omega)) (by omega)
    have u52 := CI_b c44 (k := 309) (j := 20) bd_309_20
    have u53 := CI_b c44 (k := 309) (j := 36) bd_309_36
    have u54 := CI_b c44 (k := 309) (j := 43) bd_309_43
    have u55 := CI_b c44 (k := 309) (j := 44) bd_309_44
    have u56 := CI_b c44 (k := 309) (j := 58) bd_309_58
    have u57 := CI_b c44 (k := 316) (j := 0) bd_316_0
    have u58 := CI_b c44 (k := 329) (j := 0) bd_329_0
    have u59 := CI_b c44 (k := 329) (j := 1) bd_329_1
    have t60 : s43 309 20 = r0 309 20 := f45 309 20 (by decide)
    have t61 : s43 316 0 = r0 316 0 := f45 316 0 (by decide)
    have t62 : s43 329 0 = r0 329 0 := f45 329 0 (by decide)
    have t63 : s43 329 1 = r0 329 1 := f45 329 1 (by decide)
    exact T_ret ⟨c44, f45, g46, (by first | exact g47 | exact y_DD.z (by omega) (by omega)), g48, (by first | exact g49 | exact y_K.b0 (by omega) | exact y_K.k0 (by omega) | exact y_K.bk (by omega)), (by first | exact g50 | exact y_KM.z (by omega)), (by first | exact g51 | exact y_YM.b0 (by omega) | exact y_YM.k0 (by omega) | exact y_YM.bk (by omega)), ⟨(-1), rfl, by omega, by omega⟩⟩
  · exact T_ret ⟨c14, f16, r33, (by first | exact r34 | exact y_DD.z (by omega) (by omega)), r35, (by first | exact r36 | exact y_K.b0 (by omega) | exact y_K.k0 (by omega) | exact y_K.bk (by omega)), (by first | exact r37 | exact y_KM.z (by omega)), (by first | exact r38 | exact y_YM.b0 (by omega) | exact y_YM.k0 (by omega) | exact y_YM.bk (by omega)), ⟨0, rfl, by omega, by omega⟩⟩
theorem sf_X12_at_309Y {fu : Nat} (hfu : 8589934592 ≤ fu) (r0 : z_M) (c0 : z_CI r0) (a1 : Int) (a2 : Int) (b1 : -2147483648 ≤ a1 ∧ a1 ≤ 2147483647) (b2 : -2147483648 ≤ a2 ∧ a2 ≤ 2147483647) (p0 : y_TA r0) (p1 : y_DD r0) (p2 : y_B r0) (p3 : y_K r0) (p4 : y_KM r0) (p5 : y_YM r0) : z_T (fX12_at fu r0 309 a1 a2) (P_X12_at_309Y r0) := by
  refine T_of (fX12_at.eq_1 ..) ?_
  have u1 := CI_b c0 (k := 309) (j := 20) bd_309_20
  have u2 := CI_b c0 (k := 309) (j := 36) bd_309_36
  have u3 := CI_b c0 (k := 309) (j := 43) bd_309_43
  have u4 := CI_b c0 (k := 309) (j := 44) bd_309_44
  have u5 := CI_b c0 (k := 309) (j := 58) bd_309_58
  have u6 := CI_b c0 (k := 316) (j := 0) bd_316_0
  have u7 := CI_b c0 (k := 329) (j := 0) bd_329_0
  have u8 := CI_b c0 (k := 329) (j := 1) bd_329_1
  refine T_if1 (by decide +kernel) ?_
  refine T_upg c0 bd_309_0 (by omega) (fun s9 c10 g12 g13 e14 => ?_)
  have f11 := z_Fr.upf (R := R_X12_at_309) z_Fr.rf g12 g13 (Or.inr (Or.inr (⟨rfl, by decide⟩)))
  have t15 : s9 309 20 = r0 309 20 := g13 20 (by decide)
  have t16 : s9 309 36 = r0 309 36 := g13 36 (by decide)
  have t17 : s9 309 43 = r0 309 43 := g13 43 (by decide)
  have t18 : s9 309 44 = r0 309 44 := g13 44 (by decide)
  have t19 : s9 309 58 = r0 309 58 := g13 58 (by decide)
  have t20 : s9 316 0 = r0 316 0 := g12 316 0 (by decide)
  have t21 : s9 329 0 = r0 329 0 := g12 329 0 (by decide)
  have t22 : s9 329 1 = r0 329 1 := g12 329 1 (by decide)
  have r23 := y_TA.fr p0 (fun a b h => g12 a b (by omega)) (fun a b h => g12 a b (by omega)) (fun a b h => g12 a b (by omega))
  have r24 := y_DD.fr p1 (g12 329 0 (by decide)) (g12 329 1 (by decide)) (fun b => g12 359 b (by decide)) (fun b => g12 374 b (by decide))
  have r25 := y_B.fr p2 (g13 20 (by decide)) (g12 316 0 (by decide)) (fun b => g12 3220 b (by decide)) (fun b => g12 3221 b (by decide)) (fun b => g12 3222 b (by decide)) (fun b => g12 361 b (by decide))
  have r26 := y_K.fr p3 (by omega) (by omega) (g13 44 (by decide)) (g13 20 (by decide)) (g13 58 (by decide)) (fun b => g12 3438 b (by decide)) (fun b => g12 3220 b (by decide)) (fun a b h => g12 a b (by omega))
  have r27 := y_KM.fr p4 (g13 20 (by decide)) (g13 36 (by decide)) (g13 38 (by decide)) (g13 39 (by decide)) (fun b => g12 312 b (by decide)) (fun b => g12 331 b (by decide)) (fun b => g12 346 b (by decide)) (fun b => g12 361 b (by decide)) (fun b => g12 391 b (by decide)) (fun a b h => g12 a b (by omega)) (fun a b h => g12 a b (by omega)) (fun a b h => g12 a b (by omega))
  have r28 := y_YM.fr p5 (by omega) (g13 44 (by decide)) (g13 20 (by decide)) (g13 58 (by decide)) (fun b => g12 312 b (by decide)) (fun b => g12 331 b (by decide)) (fun b => g12 346 b (by decide)) (fun b => g12 361 b (by decide)) (fun b => g12 391 b (by decide)) (fun a b h => g12 a b (by omega)) (fun a b h => g12 a b (by omega)) (fun b => g12 3438 b (by decide)) (fun a b h => g12 a b (by omega)) (fun a b h => g12 a b (by omega))
  refine T_if1 (by decide +kernel) ?_
  refine T_useN (sf_X12_laysAll_309Y hfu s9 c10 r25 (by first | exact r26 | exact y_K.b0 (by omega) | exact y_K.k0 (by omega) | exact y_K.bk (by omega)) (by first | exact r27 | exact y_KM.z (by omega)) (by first | exact r28 | exact y_YM.b0 (by omega) | exact y_YM.k0 (by omega) | exact y_YM.bk (by omega))) (fun v34 s29 hq => ?_)
  obtain ⟨c30, f31, o35, o36, o37, o38, o39, o40, o41, o42, rfl⟩ := hq
  refine T_vN ?_
  have f32 := z_Fr.tr (R := R_X12_at_309) f11 f31 rs_X12_laysAll_309__X12_at_309
  have t45 : s29 309 20 = r0 309 20 := (f31 309 20 (by decide)).trans t15
  have t46 : s29 316 0 = r0 316 0 := (f31 316 0 (by decide)).trans t20
  have t47 : s29 329 0 = r0 329 0 := (f31 329 0 (by decide)).trans t21
  have t48 : s29 329 1 = r0 329 1 := (f31 329 1 (by decide)).trans t22
  have u49 := CI_b c30 (k := 309) (j := 36) bd_309_36
  have u50 := CI_b c30 (k := 309) (j := 43) bd_309_43
  have u51 := CI_b c30 (k := 309) (j := 44) bd_309_44
  have u52 := CI_b c30 (k := 309) (j := 58) bd_309_58
  have r53 := y_TA.fr r23 (fun a b h => f31 a b (nz_X12_laysAll_309__316_328 a b h)) (fun a b h => f31 a b (nz_X12_laysAll_309__346_358 a b h)) (fun a b h => f31 a b (nz_X12_laysAll_309__361_373 a b h))
  have r54 := y_DD.fr r24 (f31 329 0 (by decide)) (f31 329 1 (by decide)) (fun b => f31 359 b (nr_X12_laysAll_309__359 b)) (fun b => f31 374 b (nr_X12_laysAll_309__374 b))
  have r55 := y_B.fr r25 (f31 309 20 (by decide)) (f31 316 0 (by decide)) (fun b => f31 3220 b (nr_X12_laysAll_309__3220 b)) (fun b => f31 3221 b (nr_X12_laysAll_309__3221 b)) (fun b => f31 3222 b (nr_X12_laysAll_309__3222 b)) (fun b => f31 361 b (nr_X12_laysAll_309__361 b))
  clear t15
  clear t20
  clear t21
  clear t22
  refine T_if1 (by decide +kernel) ?_
  refine T_leq (fun x56 e57 => ?_)
  have u58 := CI_b c30 (k := 309) (j := 44) bd_309_44
  refine T_leq (fun x59 e60 => ?_)
  first | (have w61 := z_wx e60 (by omega)) | (have w61 := z_wr e60)
  refine T_useI (sf_X12_in hfu s29 c30 a1 0 x59 (by omega) (by omega) (by omega)) (fun v67 s62 hq => ?_)
  obtain ⟨c63, f64, ⟨x66, rfl, b68, b69, o70⟩⟩ := hq
  refine T_vI ?_
  have q71 := z_Fr.eq (fun a b h => h) f64
  subst q71
  refine T_ite (fun h72 => ?_) (fun h72 => ?_)
  · exact sj_X12_at_309Y_J29 hfu r0 s29 c30 f32 a1 a2 0 (by omega) (by omega) (by omega) (by omega) (by first | exact y_L.cg o36 (by omega) | exact y_K.L o35 (by omega) (by omega)) r53 (by first | exact r54 | exact y_DD.z (by omega) (by omega)) r55 (by first | exact o35 | exact y_K.b0 (by omega) | exact y_K.k0 (by omega) | exact y_K.bk (by omega) | exact y_K.mk o36 (by omega) o37) (by first | exact o41 | exact y_KM.z (by omega)) (by first | exact o42 | exact y_YM.b0 (by omega) | exact y_YM.k0 (by omega) | exact y_YM.bk (by omega))
  · exact sj_X12_at_309Y_J29 hfu r0 s29 c30 f32 a1 a2 1 (by omega) (by omega) (by omega) (by omega) (by first | exact y_L.cg o36 (by omega) | exact y_K.L o35 (by omega) (by omega)) r53 (by first | exact r54 | exact y_DD.z (by omega) (by omega)) r55 (by first | exact o35 | exact y_K.b0 (by omega) | exact y_K.k0 (by omega) | exact y_K.bk (by omega) | exact y_K.mk o36 (by omega) o37) (by first | exact o41 | exact y_KM.z (by omega)) (by first | exact o42 | exact y_YM.b0 (by omega) | exact y_YM.k0 (by omega) | exact y_YM.bk (by omega))
abbrev P_X12_partner_309Y (r0 : z_M) : z_V → z_M → Prop := fun v s' => z_CI s' ∧ z_Fr R_X12_partner_309 r0 s' ∧ (y_TA s') ∧ (y_DD s') ∧ (y_B s') ∧ (y_K s') ∧ (y_KM s') ∧ (y_YM s') ∧ (∃ x, v = vI x ∧ -2147483648 ≤ x ∧ x ≤ 2147483647)
theorem nz_X12_freshens_309__3441_3450 (a b : Int) (h : 3441 ≤ a ∧ a ≤ 3450) : ¬ R_X12_freshens_309 a b := by
  unfold R_X12_freshens_309; omega
theorem sj_X12_partner_309Y_J19 {fu : Nat} (hfu : 8589934592 ≤ fu) (r0 s : z_M) (c : z_CI s) (f : z_Fr R_X12_partner_309 r0 s) (a1 : Int) (t1 : Int) (b1 : -2147483648 ≤ a1 ∧ a1 ≤ 2147483647) (d1 : 0 ≤ t1 ∧ t1 ≤ 1) (p0 : t1 = 1 ∨ (0 ≤ a1 ∧ a1 < s 309 20)) (p1 : y_TA s) (p2 : y_DD s) (p3 : y_B s) (p4 : y_K s) (p5 : y_KM s) (p6 : y_YM s) : z_T (fX12_partner_J19 fu s 309 a1 309 t1) (P_X12_partner_309Y r0) := by
  refine T_of (fX12_partner_J19.eq_1 ..) ?_
  have u1 := CI_b c (k := 309) (j := 20) bd_309_20
  have u2 := CI_b c (k := 309) (j := 36) bd_309_36
  have u3 := CI_b c (k := 309) (j := 43) bd_309_43
  have u4 := CI_b c (k := 309) (j := 44) bd_309_44
  have u5 := CI_b c (k := 309) (j := 58) bd_309_58
  have u6 := CI_b c (k := 316) (j := 0) bd_316_0
  have u7 := CI_b c (k := 329) (j := 0) bd_329_0
  have u8 := CI_b c (k := 329) (j := 1) bd_329_1
  have t9 : s 309 20 = r0 309 20 := f 309 20 (by decide)
  have t10 : s 309 44 = r0 309 44 := f 309 44 (by decide)
  have t11 : s 309 58 = r0 309 58 := f 309 58 (by decide)
  have t12 : s 316 0 = r0 316 0 := f 316 0 (by decide)
  have t13 : s 329 0 = r0 329 0 := f 329 0 (by decide)
  have t14 : s 329 1 = r0 329 1 := f 329 1 (by decide)
  refine T_if1 (by decide +kernel) ?_
  refine T_useI (sf_X12_bad_309 hfu s c t1 1 0 (by omega) (by omega) (by omega) (by omega)) (fun v20 s15 hq => ?_)
  obtain ⟨c16, f17, o21, ⟨x19, rfl, b22, b23, o24, o25⟩⟩ := hq
  refine T_vI ?_
  have f18 := z_Fr.tr (R := R_X12_partner_309) f f17 rs_X12_bad_309__X12_partner_309
  have t26 : s15 309 20 = s 309 20 := f17 309 20 (by decide)
  have t27 : s15 309 36 = s 309 36 := f17 309 36 (by decide)
  have t28 : s15 309 43 = s 309 43 := f17 309 43 (by decide)
  have t29 : s15 309 44 = s 309 44 := f17 309 44 (by decide)
  have t30 : s15 309 58 = s 309 58 := f17 309 58 (by decide)
  have t31 : s15 316 0 = s 316 0 := f17 316 0 (by decide)
  have t32 : s15 329 0 = s 329 0 := f17 329 0 (by decide)
  have t33 : s15 329 1 = s 329 1 := f17 329 1 (by decide)
  have r34 := y_TA.fr p1 (fun a b h => f17 a b (nz_X12_bad_309__316_328 a b h)) (fun a b h => f17 a b (nz_X12_bad_309__346_358 a b h)) (fun a b h => f17 a b (nz_X12_bad_309__361_373 a b h))
  have r35 := y_DD.fr p2 (f17 329 0 (by decide)) (f17 329 1 (by decide)) (fun b => f17 359 b (nr_X12_bad_309__359 b)) (fun b => f17 374 b (nr_X12_bad_309__374 b))
  have r36 := y_B.fr p3 (f17 309 20 (by decide)) (f17 316 0 (by decide)) (fun b => f17 3220 b (nr_X12_bad_309__3220 b)) (fun b => f17 3221 b (nr_X12_bad_309__3221 b)) (fun b => f17 3222 b (nr_X12_bad_309__3222 b)) (fun b => f17 361 b (nr_X12_bad_309__361 b))
  have r37 := y_K.fr p4 (by omega) (by omega) (f17 309 44 (by decide)) (f17 309 20 (by decide)) (f17 309 58 (by decide)) (fun b => f17 3438 b (nr_X12_bad_309__3438 b)) (fun b => f17 3220 b (nr_X12_bad_309__3220 b)) (fun a b h => f17 a b (nz_X12_bad_309__3452_3651 a b h))
  have r38 := y_KM.fr p5 (f17 309 20 (by decide)) (f17 309 36 (by decide)) (f17 309 38 (by decide)) (f17 309 39 (by decide)) (fun b => f17 312 b (nr_X12_bad_309__312 b)) (fun b => f17 331 b (nr_X12_bad_309__331 b)) (fun b => f17 346 b (nr_X12_bad_309__346 b)) (fun b => f17 361 b (nr_X12_bad_309__361 b)) (fun b => f17 391 b (nr_X12_bad_309__391 b)) (fun a b h => f17 a b (nz_X12_bad_309__407_606 a b h)) (fun a b h => f17 a b (nz_X12_bad_309__3220_3223 a b h)) (fun a b h => f17 a b (nz_X12_bad_309__3235_3437 a b h))
  have r39 := y_YM.fr p6 (by omega) (f17 309 44 (by decide)) (f17 309 20 (by decide)) (f17 309 58 (by decide)) (fun b => f17 312 b (nr_X12_bad_309__312 b)) (fun b => f17 331 b (nr_X12_bad_309__331 b)) (fun b => f17 346 b (nr_X12_bad_309__346 b)) (fun b => f17 361 b (nr_X12_bad_309__361 b)) (fun b => f17 391 b (nr_X12_bad_309__391 b)) (fun a b h => f17 a b (nz_X12_bad_309__407_606 a b h)) (fun a b h => f17 a b (nz_X12_bad_309__3220_3223 a b h)) (fun b => f17 3438 b (nr_X12_bad_309__3438 b)) (fun a b h => f17 a b (nz_X12_bad_309__3441_3450 a b h)) (fun a b h => f17 a b (nz_X12_bad_309__3452_3651 a b h))
  refine T_ite (fun h40 => ?_) (fun h40 => ?_)
  · refine T_if1 (by decide +kernel) ?_
    refine T_useN (sf_X12_freshens_309K hfu s15 c16 r36 (by first | exact r38 | exact y_KM.z (by omega))) (fun v46 s41 hq => ?_)
    obtain ⟨c42, f43, o47, o48, o49, o50, o51, rfl⟩ := hq
    refine T_vN ?_
    have f44 := z_Fr.tr (R := R_X12_partner_309) f18 f43 rs_X12_freshens_309__X12_partner_309
    have t54 : s41 309 20 = s 309 20 := (f43 309 20 (by decide)).trans t26
    have t55 : s41 309 44 = s 309 44 := (f43 309 44 (by decide)).trans t29
    have t56 : s41 309 58 = s 309 58 := (f43 309 58 (by decide)).trans t30
    have t57 : s41 316 0 = s 316 0 := (f43 316 0 (by decide)).trans t31
    have t58 : s41 329 0 = s 329 0 := (f43 329 0 (by decide)).trans t32
    have t59 : s41 329 1 = s 329 1 := (f43 329 1 (by decide)).trans t33
    have u60 := CI_b c42 (k := 309) (j := 36) bd_309_36
    have u61 := CI_b c42 (k := 309) (j := 43) bd_309_43
    have r62 := y_TA.fr r34 (fun a b h => f43 a b (nz_X12_freshens_309__316_328 a b h)) (fun a b h => f43 a b (nz_X12_freshens_309__346_358 a b h)) (fun a b h => f43 a b (nz_X12_freshens_309__361_373 a b h))
    have r63 := y_DD.fr r35 (f43 329 0 (by decide)) (f43 329 1 (by decide)) (fun b => f43 359 b (nr_X12_freshens_309__359 b)) (fun b => f43 374 b (nr_X12_freshens_309__374 b))
    have r64 := y_B.fr r36 (f43 309 20 (by decide)) (f43 316 0 (by decide)) (fun b => f43 3220 b (nr_X12_freshens_309__3220 b)) (fun b => f43 3221 b (nr_X12_freshens_309__3221 b)) (fun b => f43 3222 b (nr_X12_freshens_309__3222 b)) (fun b => f43 361 b (nr_X12_freshens_309__361 b))
    have r65 := y_K.fr r37 (by omega) (by omega) (f43 309 44 (by decide)) (f43 309 20 (by decide)) (f43 309 58 (by decide)) (fun b => f43 3438 b (nr_X12_freshens_309__3438 b)) (fun b => f43 3220 b (nr_X12_freshens_309__3220 b)) (fun a b h => f43 a b (nz_X12_freshens_309__3452_3651 a b h))
    have r66 := y_YM.fr r39 (by omega) (f43 309 44 (by decide)) (f43 309 20 (by decide)) (f43 309 58 (by decide)) (fun b => f43 312 b (nr_X12_freshens_309__312 b)) (fun b => f43 331 b (nr_X12_freshens_309__331 b)) (fun b => f43 346 b (nr_X12_freshens_309__346 b)) (fun b => f43 361 b (nr_X12_freshens_309__361 b)) (fun b => f43 391 b (nr_X12_freshens_309__391 b)) (fun a b h => f43 a b (nz_X12_freshens_309__407_606 a b h)) (fun a b h => f43 a b (nz_X12_freshens_309__3220_3223 a b h)) (fun b => f43 3438 b (nr_X12_freshens_309__3438 b)) (fun a b h => f43 a b (nz_X12_freshens_309__3441_3450 a b h)) (fun a b h => f43 a b (nz_X12_freshens_309__3452_3651 a b h))
    clear t26
    clear t29
    clear t30
    clear t31
    clear t32
    clear t33
    refine T_if1 (by decide +kernel) ?_
    refine T_let 3435 (by decide +kernel) ?_
    refine T_if1 (z_ixl (n := 200) (by decide +kernel) (by omega) (by omega)) ?_
    refine T_leq (fun x67 e68 => ?_)
    have u69 := CI_b c42 (k := 3435) (j := a1) (bdr_3435 a1)
    exact T_ret ⟨c42, f44, r62, (by first | exact r63 | exact y_DD.z (by omega) (by omega)), r64, (by first | exact r65 | exact y_K.b0 (by omega) | exact y_K.k0 (by omega) | exact y_K.bk (by omega)), (by first | exact o51 | exact y_KM.z (by omega)), (by first | exact r66 | exact y_YM.b0 (by omega) | exact y_YM.k0 (by omega) | exact y_YM.bk (by omega)), ⟨x67, rfl, by omega, by omega⟩⟩
  · exact T_ret ⟨c16, f18, r34, (by first | exact r35 | exact y_DD.z (by omega) (by omega)), r36, (by first | exact r37 | exact y_K.b0 (by omega) | exact y_K.k0 (by omega) | exact y_K.bk (by omega)), (by first | exact r38 | exact y_KM.z (by omega)), (by first | exact r39 | exact y_YM.b0 (by omega) | exact y_YM.k0 (by omega) | exact y_YM.bk (by omega)), ⟨0, rfl, by omega, by omega⟩⟩
theorem sf_X12_partner_309Y {fu : Nat} (hfu : 8589934592 ≤ fu) (r0 : z_M) (c0 : z_CI r0) (a1 : Int) (b1 : -2147483648 ≤ a1 ∧ a1 ≤ 2147483647) (p0 : y_TA r0) (p1 : y_DD r0) (p2 : y_B r0) (p3 : y_K r0) (p4 : y_KM r0) (p5 : y_YM r0) : z_T (fX12_partner fu r0 309 a1) (P_X12_partner_309Y r0) := by
  refine T_of (fX12_partner.eq_1 ..) ?_
  have u1 := CI_b c0 (k := 309) (j := 20) bd_309_20
  have u2 := CI_b c0 (k := 309) (j := 36) bd_309_36
  have u3 := CI_b c0 (k := 309) (j := 43) bd_309_43
  have u4 := CI_b c0 (k := 309) (j := 44) bd_309_44
  have u5 := CI_b c0 (k := 309) (j := 58) bd_309_58
  have u6 := CI_b c0 (k := 316) (j := 0) bd_316_0
  have u7 := CI_b c0 (k := 329) (j := 0) bd_329_0
  have u8 := CI_b c0 (k := 329) (j := 1) bd_329_1
  refine T_if1 (by decide +kernel) ?_
  refine T_upg c0 bd_309_0 (by omega) (fun s9 c10 g12 g13 e14 => ?_)
  have f11 := z_Fr.upf (R := R_X12_partner_309) z_Fr.rf g12 g13 (Or.inr (Or.inr (⟨rfl, by decide⟩)))
  have t15 : s9 309 20 = r0 309 20 := g13 20 (by decide)
  have t16 : s9 309 36 = r0 309 36 := g13 36 (by decide)
  have t17 : s9 309 43 = r0 309 43 := g13 43 (by decide)
  have t18 : s9 309 44 = r0 309 44 := g13 44 (by decide)
  have t19 : s9 309 58 = r0 309 58 := g13 58 (by decide)
  have t20 : s9 316 0 = r0 316 0 := g12 316 0 (by decide)
  have t21 : s9 329 0 = r0 329 0 := g12 329 0 (by decide)
  have t22 : s9 329 1 = r0 329 1 := g12 329 1 (by decide)
  have r23 := y_TA.fr p0 (fun a b h => g12 a b (by omega)) (fun a b h => g12 a b (by omega)) (fun a b h => g12 a b (by omega))
  have r24 := y_DD.fr p1 (g12 329 0 (by decide)) (g12 329 1 (by decide)) (fun b => g12 359 b (by decide)) (fun b => g12 374 b (by decide))
  have r25 := y_B.fr p2 (g13 20 (by decide)) (g12 316 0 (by decide)) (fun b => g12 3220 b (by decide)) (fun b => g12 3221 b (by decide)) (fun b => g12 3222 b (by decide)) (fun b => g12 361 b (by decide))
  have r26 := y_K.fr p3 (by omega) (by omega) (g13 44 (by decide)) (g13 20 (by decide)) (g13 58 (by decide)) (fun b => g12 3438 b (by decide)) (fun b => g12 3220 b (by decide)) (fun a b h => g12 a b (by omega))
  have r27 := y_KM.fr p4 (g13 20 (by decide)) (g13 36 (by decide)) (g13 38 (by decide)) (g13 39 (by decide)) (fun b => g12 312 b (by decide)) (fun b => g12 331 b (by decide)) (fun b => g12 346 b (by decide)) (fun b => g12 361 b (by decide)) (fun b => g12 391 b (by decide)) (fun a b h => g12 a b (by omega)) (fun a b h => g12 a b (by omega)) (fun a b h => g12 a b (by omega))
  have r28 := y_YM.fr p5 (by omega) (g13 44 (by decide)) (g13 20 (by decide)) (g13 58 (by decide)) (fun b => g12 312 b (by decide)) (fun b => g12 331 b (by decide)) (fun b => g12 346 b (by decide)) (fun b => g12 361 b (by decide)) (fun b => g12 391 b (by decide)) (fun a b h => g12 a b (by omega)) (fun a b h => g12 a b (by omega)) (fun b => g12 3438 b (by decide)) (fun a b h => g12 a b (by omega)) (fun a b h => g12 a b (by omega))
  refine T_if1 (by decide +kernel) ?_
  refine T_useI (sf_X12_isUnit_309 hfu s9 c10 a1 (by omega)) (fun v34 s29 hq => ?_)
  obtain ⟨c30, f31, ⟨x33, rfl, b35, b36, o37⟩⟩ := hq
  refine T_vI ?_
  have q38 := z_Fr.eq (fun a b h => h) f31
  subst q38
  refine T_ite (fun h39 => ?_) (fun h39 => ?_)
  · exact sj_X12_partner_309Y_J19 hfu r0 s9 c10 f11 a1 0 (by omega) (by omega) (by omega) r23 (by first | exact r24 | exact y_DD.z (by omega) (by omega)) r25 (by first | exact r26 | exact y_K.b0 (by omega) | exact y_K.k0 (by omega) | exact y_K.bk (by omega)) (by first | exact r27 | exact y_KM.z (by omega)) (by first | exact r28 | exact y_YM.b0 (by omega) | exact y_YM.k0 (by omega) | exact y_YM.bk (by omega))
  · exact sj_X12_partner_309Y_J19 hfu r0 s9 c10 f11 a1 1 (by omega) (by omega) (by omega) r23 (by first | exact r24 | exact y_DD.z (by omega) (by omega)) r25 (by first | exact r26 | exact y_K.b0 (by omega) | exact y_K.k0 (by omega) | exact y_K.bk (by omega)) (by first | exact r27 | exact y_KM.z (by omega)) (by first | exact r28 | exact y_YM.b0 (by omega) | exact y_YM.k0 (by omega) | exact y_YM.bk (by omega))
abbrev P_X12_isLine_309Y (r0 : z_M) (a1 : Int) : z_V → z_M → Prop := fun v s' => z_CI s' ∧ z_Fr R_X12_isLine_309 r0 s' ∧ (y_K s') ∧ (y_L s' (s' 309 44)) ∧ (y_BK s') ∧ (s' 309 36 ≠ 0) ∧ (s' 309 43 ≠ 0) ∧ (r0 309 36 = 0 ∨ r0 309 43 = 0 ∨ s' 309 44 = r0 309 44) ∧ (y_KM s') ∧ (y_YM s') ∧ (∃ x, v = vI x ∧ 0 ≤ x ∧ x ≤ 1 ∧ ((x = 1 ∧ 0 ≤ a1 ∧ a1 < s' 309 44) ∨ x = 0))
theorem sf_X12_isLine_309Y {fu : Nat} (hfu : 8589934592 ≤ fu) (r0 : z_M) (c0 : z_CI r0) (a1 : Int) (b1 : -2147483648 ≤ a1 ∧ a1 ≤ 2147483647) (p0 : y_B r0) (p1 : y_K r0) (p2 : y_KM r0) (p3 : y_YM r0) : z_T (fX12_isLine fu r0 309 a1) (P_X12_isLine_309Y r0 a1) := by
  refine T_of (fX12_isLine.eq_1 ..) ?_
  have u1 := CI_b c0 (k := 309) (j := 20) bd_309_20
  have u2 := CI_b c0 (k := 309) (j := 36) bd_309_36
  have u3 := CI_b c0 (k := 309) (j := 43) bd_309_43
  have u4 := CI_b c0 (k := 309) (j := 44) bd_309_44
  have u5 := CI_b c0 (k := 309) (j := 58) bd_309_58
  have u6 := CI_b c0 (k := 316) (j := 0) bd_316_0
  refine T_if1 (by decide +kernel) ?_
  refine T_useN (sf_X12_laysAll_309Y hfu r0 c0 p0 (by first | exact p1 | exact y_K.b0 (by omega) | exact y_K.k0 (by omega) | exact y_K.bk (by omega)) (by first | exact p2 | exact y_KM.z (by omega)) (by first | exact p3 | exact y_YM.b0 (by omega) | exact y_YM.k0 (by omega) | exact y_YM.bk (by omega))) (fun v12 s7 hq => ?_)
  obtain ⟨c8, f9, o13, o14, o15, o16, o17, o18, o19, o20, rfl⟩ := hq
  refine T_vN ?_
  have f10 := z_Fr.tr (R := R_X12_isLine_309) z_Fr.rf f9 rs_X12_laysAll_309__X12_isLine_309
  have t23 : s7 309 20 = r0 309 20 := f9 309 20 (by decide)
  have t24 : s7 316 0 = r0 316 0 := f9 316 0 (by decide)
  have u25 := CI_b c8 (k := 309) (j := 36) bd_309_36
  have u26 := CI_b c8 (k := 309) (j := 43) bd_309_43
  have u27 := CI_b c8 (k := 309) (j := 44) bd_309_44
  have u28 := CI_b c8 (k := 309) (j := 58) bd_309_58
  have r29 := y_B.fr p0 (f9 309 20 (by decide)) (f9 316 0 (by decide)) (fun b => f9 3220 b (nr_X12_laysAll_309__3220 b)) (fun b => f9 3221 b (nr_X12_laysAll_309__3221 b)) (fun b => f9 3222 b (nr_X12_laysAll_309__3222 b)) (fun b => f9 361 b (nr_X12_laysAll_309__361 b))
  refine T_if1 (by decide +kernel) ?_
  refine T_leq (fun x30 e31 => ?_)
  have u32 := CI_b c8 (k := 309) (j := 44) bd_309_44
  refine T_leq (fun x33 e34 => ?_)
  first | (have w35 := z_wx e34 (by omega)) | (have w35 := z_wr e34)
  refine T_useI (sf_X12_in hfu s7 c8 a1 0 x33 (by omega) (by omega) (by omega)) (fun v41 s36 hq => ?_)
  obtain ⟨c37, f38, ⟨x40, rfl, b42, b43, o44⟩⟩ := hq
  refine T_vI ?_
  have q45 := z_Fr.eq (fun a b h => h) f38
  subst q45
  refine T_if1 (by unfold z_bl; omega) ?_
  exact T_ret ⟨c8, f10, (by first | exact o13 | exact y_K.b0 (by omega) | exact y_K.k0 (by omega) | exact y_K.bk (by omega) | exact y_K.mk o14 (by omega) o15), (by first | exact y_L.cg o14 (by omega) | exact y_K.L o13 (by omega) (by omega)), (by first | exact o15 | exact y_K.B o13 (by omega) (by omega)), (by omega), (by omega), (by omega), (by first | exact o19 | exact y_KM.z (by omega)), (by first | exact o20 | exact y_YM.b0 (by omega) | exact y_YM.k0 (by omega) | exact y_YM.bk (by omega)), ⟨x40, rfl, by omega, by omega, (by omega)⟩⟩
abbrev P_X12_side_309Y (r0 : z_M) : z_V → z_M → Prop := fun v s' => z_CI s' ∧ z_Fr R_X12_side_309 r0 s' ∧ (y_TA s') ∧ (y_DD s') ∧ (y_B s') ∧ (y_K s') ∧ (y_KM s') ∧ (y_YM s') ∧ (∃ x, v = vI x ∧ -2147483648 ≤ x ∧ x ≤ 2147483647)
theorem sj_X12_side_309Y_J59 {fu : Nat} (hfu : 8589934592 ≤ fu) (r0 s : z_M) (c : z_CI s) (f : z_Fr R_X12_side_309 r0 s) (p0 : y_TA s) (p1 : y_DD s) (p2 : y_B s) (p3 : y_K s) (p4 : y_KM s) (p5 : y_YM s) : z_T (fX12_side_J59 fu s) (P_X12_side_309Y r0) := by
  refine T_of (fX12_side_J59.eq_1 ..) ?_
  have u1 := CI_b c (k := 309) (j := 20) bd_309_20
  have u2 := CI_b c (k := 309) (j := 36) bd_309_36
  have u3 := CI_b c (k := 309) (j := 43) bd_309_43
  have u4 := CI_b c (k := 309) (j := 44) bd_309_44
  have u5 := CI_b c (k := 309) (j := 58) bd_309_58
  have u6 := CI_b c (k := 316) (j := 0) bd_316_0
  have u7 := CI_b c (k := 329) (j := 0) bd_329_0
  have u8 := CI_b c (k := 329) (j := 1) bd_329_1
  have t9 : s 309 20 = r0 309 20 := f 309 20 (by decide)
  have t10 : s 316 0 = r0 316 0 := f 316 0 (by decide)
  have t11 : s 329 0 = r0 329 0 := f 329 0 (by decide)
  have t12 : s 329 1 = r0 329 1 := f 329 1 (by decide)
  exact T_ret ⟨c, f, p0, (by first | exact p1 | exact y_DD.z (by omega) (by omega)), p2, (by first | exact p3 | exact y_K.b0 (by omega) | exact y_K.k0 (by omega) | exact y_K.bk (by omega)), (by first | exact p4 | exact y_KM.z (by omega)), (by first | exact p5 | exact y_YM.b0 (by omega) | exact y_YM.k0 (by omega) | exact y_YM.bk (by omega)), ⟨0, rfl, by omega, by omega⟩⟩
theorem nz_X12_laysLetters_309__3441_3450 (a b : Int) (h : 3441 ≤ a ∧ a ≤ 3450) : ¬ R_X12_laysLetters_309 a b := by
  unfold R_X12_laysLetters_309; omega
theorem nz_X12_laysSide_309__3441_3450 (a b : Int) (h : 3441 ≤ a ∧ a ≤ 3450) : ¬ R_X12_laysSide_309 a b := by
  unfold R_X12_laysSide_309; omega
theorem sj_X12_side_309Y_J94 {fu : Nat} (hfu : 8589934592 ≤ fu) (r0 s : z_M) (c : z_CI s) (f : z_Fr R_X12_side_309 r0 s) (t0 : Int) (d0 : -2147483648 ≤ t0 ∧ t0 ≤ 2147483647) (p0 : y_TA s) (p1 : y_DD s) (p2 : y_B s) (p3 : y_K s) (p4 : y_KM s) (p5 : y_YM s) : z_T (fX12_side_J94 fu s t0) (P_X12_side_309Y r0) := by
  refine T_of (fX12_side_J94.eq_1 ..) ?_
  have u1 := CI_b c (k := 309) (j := 20) bd_309_20
  have u2 := CI_b c (k := 309) (j := 36) bd_309_36
  have u3 := CI_b c (k := 309) (j := 43) bd_309_43
  have u4 := CI_b c (k := 309) (j := 44) bd_309_44
  have u5 := CI_b c (k := 309) (j := 58) bd_309_58
  have u6 := CI_b c (k := 316) (j := 0) bd_316_0
  have u7 := CI_b c (k := 329) (j := 0) bd_329_0
  have u8 := CI_b c (k := 329) (j := 1) bd_329_1
  have t9 : s 309 20 = r0 309 20 := f 309 20 (by decide)
  have t10 : s 316 0 = r0 316 0 := f 316 0 (by decide)
  have t11 : s 329 0 = r0 329 0 := f 329 0 (by decide)
  have t12 : s 329 1 = r0 329 1 := f 329 1 (by decide)
  exact T_ret ⟨c, f, p0, (by first | exact p1 | exact y_DD.z (by omega) (by omega)), p2, (by first | exact p3 | exact y_K.b0 (by omega) | exact y_K.k0 (by omega) | exact y_K.bk (by omega)), (by first | exact p4 | exact y_KM.z (by omega)), (by first | exact p5 | exact y_YM.b0 (by omega) | exact y_YM.k0 (by omega) | exact y_YM.bk (by omega)), ⟨t0, rfl, by omega, by omega⟩⟩
set_option maxHeartbeats 4000000 in
theorem sj_X12_side_309Y_J51 {fu : Nat} (hfu : 8589934592 ≤ fu) (r0 s : z_M) (c : z_CI s) (f : z_Fr R_X12_side_309 r0 s) (a1 : Int) (a2 : Int) (a3 : Int) (t1 : Int) (b1 : -2147483648 ≤ a1 ∧ a1 ≤ 2147483647) (b2 : -2147483648 ≤ a2 ∧ a2 ≤ 2147483647) (b3 : -2147483648 ≤ a3 ∧ a3 ≤ 2147483647) (d1 : 0 ≤ t1 ∧ t1 ≤ 1) (p0 : 0 ≤ a1 ∧ a1 < s 309 44) (p1 : t1 = 1 ∨ (0 ≤ a2 ∧ a2 ≤ 1)) (p2 : y_L s (s 309 44)) (p3 : y_BK s) (p4 : y_TA s) (p5 : y_DD s) (p6 : y_B s) (p7 : y_K s) (p8 : y_KM s) (p9 : y_YM s) : z_T (fX12_side_J51 fu s 309 a1 a2 a3 309 t1) (P_X12_side_309Y r0) := by
  refine T_of (fX12_side_J51.eq_1 ..) ?_
  have u1 := CI_b c (k := 309) (j := 20) bd_309_20
  have u2 := CI_b c (k := 309) (j := 36) bd_309_36
  have u3 := CI_b c (k := 309) (j := 43) bd_309_43
  have u4 := CI_b c (k := 309) (j := 44) bd_309_44
  have u5 := CI_b c (k := 309) (j := 58) bd_309_58
  have u6 := CI_b c (k := 316) (j := 0) bd_316_0
  have u7 := CI_b c (k := 329) (j := 0) bd_329_0
  have u8 := CI_b c (k := 329) (j := 1) bd_329_1
  have t9 : s 309 20 = r0 309 20 := f 309 20 (by decide)
  have t10 : s 316 0 = r0 316 0 := f 316 0 (by decide)
  have t11 : s 329 0 = r0 329 0 := f 329 0 (by decide)
  have t12 : s 329 1 = r0 329 1 := f 329 1 (by decide)
  refine T_if1 (by decide +kernel) ?_
  refine T_useI (sf_X12_bad_309 hfu s c t1 2 1 (by omega) (by omega) (by omega) (by omega)) (fun v18 s13 hq => ?_)
  obtain ⟨c14, f15, o19, ⟨x17, rfl, b20, b21, o22, o23⟩⟩ := hq
  refine T_vI ?_
  have f16 := z_Fr.tr (R := R_X12_side_309) f f15 rs_X12_bad_309__X12_side_309
  have t24 : s13 309 20 = s 309 20 := f15 309 20 (by decide)
  have t25 : s13 309 36 = s 309 36 := f15 309 36 (by decide)
  have t26 : s13 309 43 = s 309 43 := f15 309 43 (by decide)
  have t27 : s13 309 44 = s 309 44 := f15 309 44 (by decide)
  have t28 : s13 309 58 = s 309 58 := f15 309 58 (by decide)
  have t29 : s13 316 0 = s 316 0 := f15 316 0 (by decide)
  have t30 : s13 329 0 = s 329 0 := f15 329 0 (by decide)
  have t31 : s13 329 1 = s 329 1 := f15 329 1 (by decide)
  have r32 := y_L.fr p2 (f15 309 20 (by decide)) (fun b => f15 3438 b (nr_X12_bad_309__3438 b))
  have r33 := y_BK.fr p3 (by omega) (f15 309 20 (by decide)) (f15 309 58 (by decide)) (fun b => f15 3220 b (nr_X12_bad_309__3220 b)) (fun a b h => f15 a b (nz_X12_bad_309__3452_3651 a b h))
  have r34 := y_TA.fr p4 (fun a b h => f15 a b (nz_X12_bad_309__316_328 a b h)) (fun a b h => f15 a b (nz_X12_bad_309__346_358 a b h)) (fun a b h => f15 a b (nz_X12_bad_309__361_373 a b h))
  have r35 := y_DD.fr p5 (f15 329 0 (by decide)) (f15 329 1 (by decide)) (fun b => f15 359 b (nr_X12_bad_309__359 b)) (fun b => f15 374 b (nr_X12_bad_309__374 b))
  have r36 := y_B.fr p6 (f15 309 20 (by decide)) (f15 316 0 (by decide)) (fun b => f15 3220 b (nr_X12_bad_309__3220 b)) (fun b => f15 3221 b (nr_X12_bad_309__3221 b)) (fun b => f15 3222 b (nr_X12_bad_309__3222 b)) (fun b => f15 361 b (nr_X12_bad_309__361 b))
  have r37 := y_K.fr p7 (by omega) (by omega) (f15 309 44 (by decide)) (f15 309 20 (by decide)) (f15 309 58 (by decide)) (fun b => f15 3438 b (nr_X12_bad_309__3438 b)) (fun b => f15 3220 b (nr_X12_bad_309__3220 b)) (fun a b h => f15 a b (nz_X12_bad_309__3452_3651 a b h))
  have r38 := y_KM.fr p8 (f15 309 20 (by decide)) (f15 309 36 (by decide)) (f15 309 38 (by decide)) (f15 309 39 (by decide)) (fun b => f15 312 b (nr_X12_bad_309__312 b)) (fun b => f15 331 b (nr_X12_bad_309__331 b)) (fun b => f15 346 b (nr_X12_bad_309__346 b)) (fun b => f15 361 b (nr_X12_bad_309__361 b)) (fun b => f15 391 b (nr_X12_bad_309__391 b)) (fun a b h => f15 a b (nz_X12_bad_309__407_606 a b h)) (fun a b h => f15 a b (nz_X12_bad_309__3220_3223 a b h)) (fun a b h => f15 a b (nz_X12_bad_309__3235_3437 a b h))
  have r39 := y_YM.fr p9 (by omega) (f15 309 44 (by decide)) (f15 309 20 (by decide)) (f15 309 58 (by decide)) (fun b => f15 312 b (nr_X12_bad_309__312 b)) (fun b => f15 331 b (nr_X12_bad_309__331 b)) (fun b => f15 346 b (nr_X12_bad_309__346 b)) (fun b => f15 361 b (nr_X12_bad_309__361 b)) (fun b => f15 391 b (nr_X12_bad_309__391 b)) (fun a b h => f15 a b (nz_X12_bad_309__407_606 a b h)) (fun a b h => f15 a b (nz_X12_bad_309__3220_3223 a b h)) (fun b => f15 3438 b (nr_X12_bad_309__3438 b)) (fun a b h => f15 a b (nz_X12_bad_309__3441_3450 a b h)) (fun a b h => f15 a b (nz_X12_bad_309__3452_3651 a b h))
  refine T_ite (fun h40 => ?_) (fun h40 => ?_)
  · refine T_if1 (by decide +kernel) ?_
    refine T_upg c14 bd_309_60 (by omega) (fun s41 c42 g44 g45 e46 => ?_)
    have f43 := z_Fr.upf (R := R_X12_side_309) f16 g44 g45 (Or.inr (Or.inr (⟨rfl, by decide⟩)))
    have t47 : s41 309 20 = s 309 20 := (g45 20 (by decide)).trans t24
    have t48 : s41 309 36 = s 309 36 := (g45 36 (by decide)).trans t25
    have t49 : s41 309 43 = s 309 43 := (g45 43 (by decide)).trans t26
    have t50 : s41 309 44 = s 309 44 := (g45 44 (by decide)).trans t27
    have t51 : s41 309 58 = s 309 58 := (g45 58 (by decide)).trans t28
    have t52 : s41 316 0 = s 316 0 := (g44 316 0 (by decide)).trans t29
    have t53 : s41 329 0 = s 329 0 := (g44 329 0 (by decide)).trans t30
    have t54 : s41 329 1 = s 329 1 := (g44 329 1 (by decide)).trans t31
    have r55 := y_L.fr r32 (g45 20 (by decide)) (fun b => g44 3438 b (by decide))
    have r56 := y_BK.fr r33 (by omega) (g45 20 (by decide)) (g45 58 (by decide)) (fun b => g44 3220 b (by decide)) (fun a b h => g44 a b (by omega))
    have r57 := y_TA.fr r34 (fun a b h => g44 a b (by omega)) (fun a b h => g44 a b (by omega)) (fun a b h => g44 a b (by omega))
    have r58 := y_DD.fr r35 (g44 329 0 (by decide)) (g44 329 1 (by decide)) (fun b => g44 359 b (by decide)) (fun b => g44 374 b (by decide))
    have r59 := y_B.fr r36 (g45 20 (by decide)) (g44 316 0 (by decide)) (fun b => g44 3220 b (by decide)) (fun b => g44 3221 b (by decide)) (fun b => g44 3222 b (by decide)) (fun b => g44 361 b (by decide))
    have r60 := y_K.fr r37 (by omega) (by omega) (g45 44 (by decide)) (g45 20 (by decide)) (g45 58 (by decide)) (fun b => g44 3438 b (by decide)) (fun b => g44 3220 b (by decide)) (fun a b h => g44 a b (by omega))
    have r61 := y_KM.fr r38 (g45 20 (by decide)) (g45 36 (by decide)) (g45 38 (by decide)) (g45 39 (by decide)) (fun b => g44 312 b (by decide)) (fun b => g44 331 b (by decide)) (fun b => g44 346 b (by decide)) (fun b => g44 361 b (by decide)) (fun b => g44 391 b (by decide)) (fun a b h => g44 a b (by omega)) (fun a b h => g44 a b (by omega)) (fun a b h => g44 a b (by omega))
    have r62 := y_YM.fr r39 (by omega) (g45 44 (by decide)) (g45 20 (by decide)) (g45 58 (by decide)) (fun b => g44 312 b (by decide)) (fun b => g44 331 b (by decide)) (fun b => g44 346 b (by decide)) (fun b => g44 361 b (by decide)) (fun b => g44 391 b (by decide)) (fun a b h => g44 a b (by omega)) (fun a b h => g44 a b (by omega)) (fun b => g44 3438 b (by decide)) (fun a b h => g44 a b (by omega)) (fun a b h => g44 a b (by omega))
    clear t24
    clear t25
    clear t26
    clear t27
    clear t28
    clear t29
    clear t30
    clear t31
    refine T_if1 (by decide +kernel) ?_
    refine T_useI (sf_X12_laysLetters_309 hfu s41 c42 a1 a2 (by omega) (by omega) r59 (by first | exact r56 | exact y_K.B r60 (by omega) (by omega)) (by omega)) (fun v68 s63 hq => ?_)
    obtain ⟨c64, f65, o69, o70, ⟨x67, rfl, b71, b72, o73⟩⟩ := hq
    refine T_vI ?_
    have f66 := z_Fr.tr (R := R_X12_side_309) f43 f65 rs_X12_laysLetters_309__X12_side_309
    have t74 : s63 309 20 = s 309 20 := (f65 309 20 (by decide)).trans t47
    have t75 : s63 309 36 = s 309 36 := (f65 309 36 (by decide)).trans t48
    have t76 : s63 309 43 = s 309 43 := (f65 309 43 (by decide)).trans t49
    have t77 : s63 309 44 = s 309 44 := (f65 309 44 (by decide)).trans t50
    have t78 : s63 309 58 = s 309 58 := (f65 309 58 (by decide)).trans t51
    have t79 : s63 316 0 = s 316 0 := (f65 316 0 (by decide)).trans t52
    have t80 : s63 329 0 = s 329 0 := (f65 329 0 (by decide)).trans t53
    have t81 : s63 329 1 = s 329 1 := (f65 329 1 (by decide)).trans t54
    have r82 := y_L.fr r55 (f65 309 20 (by decide)) (fun b => f65 3438 b (nr_X12_laysLetters_309__3438 b))
    have r83 := y_BK.fr r56 (by omega) (f65 309 20 (by decide)) (f65 309 58 (by decide)) (fun b => f65 3220 b (nr_X12_laysLetters_309__3220 b)) (fun a b h => f65 a b (nz_X12_laysLetters_309__3452_3651 a b h))
    have r84 := y_TA.fr r57 (fun a b h => f65 a b (nz_X12_laysLetters_309__316_328 a b h)) (fun a b h => f65 a b (nz_X12_laysLetters_309__346_358 a b h)) (fun a b h => f65 a b (nz_X12_laysLetters_309__361_373 a b h))
    have r85 := y_DD.fr r58 (f65 329 0 (by decide)) (f65 329 1 (by decide)) (fun b => f65 359 b (nr_X12_laysLetters_309__359 b)) (fun b => f65 374 b (nr_X12_laysLetters_309__374 b))
    have r86 := y_B.fr r59 (f65 309 20 (by decide)) (f65 316 0 (by decide)) (fun b => f65 3220 b (nr_X12_laysLetters_309__3220 b)) (fun b => f65 3221 b (nr_X12_laysLetters_309__3221 b)) (fun b => f65 3222 b (nr_X12_laysLetters_309__3222 b)) (fun b => f65 361 b (nr_X12_laysLetters_309__361 b))
    have r87 := y_K.fr r60 (by omega) (by omega) (f65 309 44 (by decide)) (f65 309 20 (by decide)) (f65 309 58 (by decide)) (fun b => f65 3438 b (nr_X12_laysLetters_309__3438 b)) (fun b => f65 3220 b (nr_X12_laysLetters_309__3220 b)) (fun a b h => f65 a b (nz_X12_laysLetters_309__3452_3651 a b h))
    have r88 := y_KM.fr r61 (f65 309 20 (by decide)) (f65 309 36 (by decide)) (f65 309 38 (by decide)) (f65 309 39 (by decide)) (fun b => f65 312 b (nr_X12_laysLetters_309__312 b)) (fun b => f65 331 b (nr_X12_laysLetters_309__331 b)) (fun b => f65 346 b (nr_X12_laysLetters_309__346 b)) (fun b => f65 361 b (nr_X12_laysLetters_309__361 b)) (fun b => f65 391 b (nr_X12_laysLetters_309__391 b)) (fun a b h => f65 a b (nz_X12_laysLetters_309__407_606 a b h)) (fun a b h => f65 a b (nz_X12_laysLetters_309__3220_3223 a b h)) (fun a b h => f65 a b (nz_X12_laysLetters_309__3235_3437 a b h))
    have r89 := y_YM.fr r62 (by omega) (f65 309 44 (by decide)) (f65 309 20 (by decide)) (f65 309 58 (by decide)) (fun b => f65 312 b (nr_X12_laysLetters_309__312 b)) (fun b => f65 331 b (nr_X12_laysLetters_309__331 b)) (fun b => f65 346 b (nr_X12_laysLetters_309__346 b)) (fun b => f65 361 b (nr_X12_laysLetters_309__361 b)) (fun b => f65 391 b (nr_X12_laysLetters_309__391 b)) (fun a b h => f65 a b (nz_X12_laysLetters_309__407_606 a b h)) (fun a b h => f65 a b (nz_X12_laysLetters_309__3220_3223 a b h)) (fun b => f65 3438 b (nr_X12_laysLetters_309__3438 b)) (fun a b h => f65 a b (nz_X12_laysLetters_309__3441_3450 a b h)) (fun a b h => f65 a b (nz_X12_laysLetters_309__3452_3651 a b h))
    clear t47
    clear t48
    clear t49
    clear t50
    clear t51
    clear t52
    clear t53
    clear t54
    refine T_ite (fun h90 => ?_) (fun h90 => ?_)
    · refine T_if1 (by decide +kernel) ?_
      refine T_useI (sf_X12_laysSide_309 hfu s63 c64 a1 a2 (by omega) (by omega) r86 (by first | exact r83 | exact y_K.B r87 (by omega) (by omega)) (by first | exact y_L.cg r82 (by omega) | exact y_K.L r87 (by omega) (by omega)) r84 (by omega) (by omega)) (fun v96 s91 hq => ?_)
      obtain ⟨c92, f93, o97, o98, ⟨x95, rfl, b99, b100, o101⟩⟩ := hq
      refine T_vI ?_
      have f94 := z_Fr.tr (R := R_X12_side_309) f66 f93 rs_X12_laysSide_309__X12_side_309
      have t102 : s91 309 20 = s 309 20 := (f93 309 20 (by decide)).trans t74
      have t103 : s91 309 36 = s 309 36 := (f93 309 36 (by decide)).trans t75
      have t104 : s91 309 43 = s 309 43 := (f93 309 43 (by decide)).trans t76
      have t105 : s91 309 44 = s 309 44 := (f93 309 44 (by decide)).trans t77
      have t106 : s91 309 58 = s 309 58 := (f93 309 58 (by decide)).trans t78
      have t107 : s91 316 0 = s 316 0 := (f93 316 0 (by decide)).trans t79
      have t108 : s91 329 0 = s 329 0 := (f93 329 0 (by decide)).trans t80
      have t109 : s91 329 1 = s 329 1 := (f93 329 1 (by decide)).trans t81
      have r110 := y_L.fr r82 (f93 309 20 (by decide)) (fun b => f93 3438 b (nr_X12_laysSide_309__3438 b))
      have r111 := y_BK.fr r83 (by omega) (f93 309 20 (by decide)) (f93 309 58 (by decide)) (fun b => f93 3220 b (nr_X12_laysSide_309__3220 b)) (fun a b h => f93 a b (nz_X12_laysSide_309__3452_3651 a b h))
      have r112 := y_TA.fr r84 (fun a b h => f93 a b (nz_X12_laysSide_309__316_328 a b h)) (fun a b h => f93 a b (nz_X12_laysSide_309__346_358 a b h)) (fun a b h => f93 a b (nz_X12_laysSide_309__361_373 a b h))
      have r113 := y_DD.fr r85 (f93 329 0 (by decide)) (f93 329 1 (by decide)) (fun b => f93 359 b (nr_X12_laysSide_309__359 b)) (fun b => f93 374 b (nr_X12_laysSide_309__374 b))
      have r114 := y_B.fr r86 (f93 309 20 (by decide)) (f93 316 0 (by decide)) (fun b => f93 3220 b (nr_X12_laysSide_309__3220 b)) (fun b => f93 3221 b (nr_X12_laysSide_309__3221 b)) (fun b => f93 3222 b (nr_X12_laysSide_309__3222 b)) (fun b => f93 361 b (nr_X12_laysSide_309__361 b))
      have r115 := y_K.fr r87 (by omega) (by omega) (f93 309 44 (by decide)) (f93 309 20 (by decide)) (f93 309 58 (by decide)) (fun b => f93 3438 b (nr_X12_laysSide_309__3438 b)) (fun b => f93 3220 b (nr_X12_laysSide_309__3220 b)) (fun a b h => f93 a b (nz_X12_laysSide_309__3452_3651 a b h))
      have r116 := y_KM.fr r88 (f93 309 20 (by decide)) (f93 309 36 (by decide)) (f93 309 38 (by decide)) (f93 309 39 (by decide)) (fun b => f93 312 b (nr_X12_laysSide_309__312 b)) (fun b => f93 331 b (nr_X12_laysSide_309__331 b)) (fun b => f93 346 b (nr_X12_laysSide_309__346 b)) (fun b => f93 361 b (nr_X12_laysSide_309__361 b)) (fun b => f93 391 b (nr_X12_laysSide_309__391 b)) (fun a b h => f93 a b (nz_X12_laysSide_309__407_606 a b h)) (fun a b h => f93 a b (nz_X12_laysSide_309__3220_3223 a b h)) (fun a b h => f93 a b (nz_X12_laysSide_309__3235_3437 a b h))
      have r117 := y_YM.fr r89 (by omega) (f93 309 44 (by decide)) (f93 309 20 (by decide)) (f93 309 58 (by decide)) (fun b => f93 312 b (nr_X12_laysSide_309__312 b)) (fun b => f93 331 b (nr_X12_laysSide_309__331 b)) (fun b => f93 346 b (nr_X12_laysSide_309__346 b)) (fun b => f93 361 b (nr_X12_laysSide_309__361 b)) (fun b => f93 391 b (nr_X12_laysSide_309__391 b)) (fun a b h => f93 a b (nz_X12_laysSide_309__407_606 a b h)) (fun a b h => f93 a b (nz_X12_laysSide_309__3220_3223 a b h)) (fun b => f93 3438 b (nr_X12_laysSide_309__3438 b)) (fun a b h => f93 a b (nz_X12_laysSide_309__3441_3450 a b h)) (fun a b h => f93 a b (nz_X12_laysSide_309__3452_3651 a b h))
      clear t74
      clear t75
      clear t76
      clear t77
      clear t78
      clear t79
      clear t80
      clear t81
      refine T_leq (fun x118 e119 => ?_)
      first | (have w120 := z_wx e119 (by omega)) | (have w120 := z_wr e119)
      refine T_leq (fun x121 e122 => ?_)
      first | (have w123 := z_wx e122 (by omega)) | (have w123 := z_wr e122)
      exact sj_X12_side_309Y_J94 hfu r0 s91 c92 f94 x121 (by omega) r112 (by first | exact r113 | exact y_DD.z (by omega) (by omega)) r114 (by first | exact r115 | exact y_K.b0 (by omega) | exact y_K.k0 (by omega) | exact y_K.bk (by omega) | exact y_K.mk r110 (by omega) r111) (by first | exact r116 | exact y_KM.z (by omega)) (by first | exact r117 | exact y_YM.b0 (by omega) | exact y_YM.k0 (by omega) | exact y_YM.bk (by omega))
    · exact sj_X12_side_309Y_J94 hfu r0 s63 c64 f66 x67 (by omega) r84 (by first | exact r85 | exact y_DD.z (by omega) (by omega)) r86 (by first | exact r87 | exact y_K.b0 (by omega) | exact y_K.k0 (by omega) | exact y_K.bk (by omega) | exact y_K.mk r82 (by omega) r83) (by first | exact r88 | exact y_KM.z (by omega)) (by first | exact r89 | exact y_YM.b0 (by omega) | exact y_YM.k0 (by omega) | exact y_YM.bk (by omega))
  · exact sj_X12_side_309Y_J59 hfu r0 s13 c14 f16 r34 (by first | exact r35 | exact y_DD.z (by omega) (by omega)) r36 (by first | exact r37 | exact y_K.b0 (by omega) | exact y_K.k0 (by omega) | exact y_K.bk (by omega) | exact y_K.mk r32 (by omega) r33) (by first | exact r38 | exact y_KM.z (by omega)) (by first | exact r39 | exact y_YM.b0 (by omega) | exact y_YM.k0 (by omega) | exact y_YM.bk (by omega))
theorem sj_X12_side_309Y_J46 {fu : Nat} (hfu : 8589934592 ≤ fu) (r0 s : z_M) (c : z_CI s) (f : z_Fr R_X12_side_309 r0 s) (a1 : Int) (a2 : Int) (a3 : Int) (b1 : -2147483648 ≤ a1 ∧ a1 ≤ 2147483647) (b2 : -2147483648 ≤ a2 ∧ a2 ≤ 2147483647) (b3 : -2147483648 ≤ a3 ∧ a3 ≤ 2147483647) (p0 : 0 ≤ a1 ∧ a1 < s 309 44) (p1 : y_L s (s 309 44)) (p2 : y_BK s) (p3 : y_TA s) (p4 : y_DD s) (p5 : y_B s) (p6 : y_K s) (p7 : y_KM s) (p8 : y_YM s) : z_T (fX12_side_J46 fu s 309 a1 a2 a3 309) (P_X12_side_309Y r0) := by
  refine T_of (fX12_side_J46.eq_1 ..) ?_
  have u1 := CI_b c (k := 309) (j := 20) bd_309_20
  have u2 := CI_b c (k := 309) (j := 36) bd_309_36
  have u3 := CI_b c (k := 309) (j := 43) bd_309_43
  have u4 := CI_b c (k := 309) (j := 44) bd_309_44
  have u5 := CI_b c (k := 309) (j := 58) bd_309_58
  have u6 := CI_b c (k := 316) (j := 0) bd_316_0
  have u7 := CI_b c (k := 329) (j := 0) bd_329_0
  have u8 := CI_b c (k := 329) (j := 1) bd_329_1
  have t9 : s 309 20 = r0 309 20 := f 309 20 (by decide)
  have t10 : s 316 0 = r0 316 0 := f 316 0 (by decide)
  have t11 : s 329 0 = r0 329 0 := f 329 0 (by decide)
  have t12 : s 329 1 = r0 329 1 := f 329 1 (by decide)
  exact sj_X12_side_309Y_J51 hfu r0 s c f a1 a2 a3 1 (by omega) (by omega) (by omega) (by omega) (by omega) (by omega) (by first | exact y_L.cg p1 (by omega) | exact y_K.L p6 (by omega) (by omega)) (by first | exact p2 | exact y_K.B p6 (by omega) (by omega)) p3 (by first | exact p4 | exact y_DD.z (by omega) (by omega)) p5 (by first | exact p6 | exact y_K.b0 (by omega) | exact y_K.k0 (by omega) | exact y_K.bk (by omega) | exact y_K.mk p1 (by omega) p2) (by first | exact p7 | exact y_KM.z (by omega)) (by first | exact p8 | exact y_YM.b0 (by omega) | exact y_YM.k0 (by omega) | exact y_YM.bk (by omega))
theorem sj_X12_side_309Y_J19 {fu : Nat} (hfu : 8589934592 ≤ fu) (r0 s : z_M) (c : z_CI s) (f : z_Fr R_X12_side_309 r0 s) (a1 : Int) (a2 : Int) (a3 : Int) (t1 : Int) (b1 : -2147483648 ≤ a1 ∧ a1 ≤ 2147483647) (b2 : -2147483648 ≤ a2 ∧ a2 ≤ 2147483647) (b3 : -2147483648 ≤ a3 ∧ a3 ≤ 2147483647) (d1 : 0 ≤ t1 ∧ t1 ≤ 1) (p0 : t1 = 1 ∨ (0 ≤ a1 ∧ a1 < s 309 44)) (p1 : y_L s (s 309 44)) (p2 : y_BK s) (p3 : y_TA s) (p4 : y_DD s) (p5 : y_B s) (p6 : y_K s) (p7 : y_KM s) (p8 : y_YM s) : z_T (fX12_side_J19 fu s 309 a1 a2 a3 309 t1) (P_X12_side_309Y r0) := by
  refine T_of (fX12_side_J19.eq_1 ..) ?_
  have u1 := CI_b c (k := 309) (j := 20) bd_309_20
  have u2 := CI_b c (k := 309) (j := 36) bd_309_36
  have u3 := CI_b c (k := 309) (j := 43) bd_309_43
  have u4 := CI_b c (k := 309) (j := 44) bd_309_44
  have u5 := CI_b c (k := 309) (j := 58) bd_309_58
  have u6 := CI_b c (k := 316) (j := 0) bd_316_0
  have u7 := CI_b c (k := 329) (j := 0) bd_329_0
  have u8 := CI_b c (k := 329) (j := 1) bd_329_1
  have t9 : s 309 20 = r0 309 20 := f 309 20 (by decide)
  have t10 : s 316 0 = r0 316 0 := f 316 0 (by decide)
  have t11 : s 329 0 = r0 329 0 := f 329 0 (by decide)
  have t12 : s 329 1 = r0 329 1 := f 329 1 (by decide)
  refine T_if1 (by decide +kernel) ?_
  refine T_useI (sf_X12_bad_309 hfu s c t1 1 0 (by omega) (by omega) (by omega) (by omega)) (fun v18 s13 hq => ?_)
  obtain ⟨c14, f15, o19, ⟨x17, rfl, b20, b21, o22, o23⟩⟩ := hq
  refine T_vI ?_
  have f16 := z_Fr.tr (R := R_X12_side_309) f f15 rs_X12_bad_309__X12_side_309
  have t24 : s13 309 20 = s 309 20 := f15 309 20 (by decide)
  have t25 : s13 309 36 = s 309 36 := f15 309 36 (by decide)
  have t26 : s13 309 43 = s 309 43 := f15 309 43 (by decide)
  have t27 : s13 309 44 = s 309 44 := f15 309 44 (by decide)
  have t28 : s13 309 58 = s 309 58 := f15 309 58 (by decide)
  have t29 : s13 316 0 = s 316 0 := f15 316 0 (by decide)
  have t30 : s13 329 0 = s 329 0 := f15 329 0 (by decide)
  have t31 : s13 329 1 = s 329 1 := f15 329 1 (by decide)
  have r32 := y_L.fr p1 (f15 309 20 (by decide)) (fun b => f15 3438 b (nr_X12_bad_309__3438 b))
  have r33 := y_BK.fr p2 (by omega) (f15 309 20 (by decide)) (f15 309 58 (by decide)) (fun b => f15 3220 b (nr_X12_bad_309__3220 b)) (fun a b h => f15 a b (nz_X12_bad_309__3452_3651 a b h))
  have r34 := y_TA.fr p3 (fun a b h => f15 a b (nz_X12_bad_309__316_328 a b h)) (fun a b h => f15 a b (nz_X12_bad_309__346_358 a b h)) (fun a b h => f15 a b (nz_X12_bad_309__361_373 a b h))
  have r35 := y_DD.fr p4 (f15 329 0 (by decide)) (f15 329 1 (by decide)) (fun b => f15 359 b (nr_X12_bad_309__359 b)) (fun b => f15 374 b (nr_X12_bad_309__374 b))
  have r36 := y_B.fr p5 (f15 309 20 (by decide)) (f15 316 0 (by decide)) (fun b => f15 3220 b (nr_X12_bad_309__3220 b)) (fun b => f15 3221 b (nr_X12_bad_309__3221 b)) (fun b => f15 3222 b (nr_X12_bad_309__3222 b)) (fun b => f15 361 b (nr_X12_bad_309__361 b))
  have r37 := y_K.fr p6 (by omega) (by omega) (f15 309 44 (by decide)) (f15 309 20 (by decide)) (f15 309 58 (by decide)) (fun b => f15 3438 b (nr_X12_bad_309__3438 b)) (fun b => f15 3220 b (nr_X12_bad_309__3220 b)) (fun a b h => f15 a b (nz_X12_bad_309__3452_3651 a b h))
  have r38 := y_KM.fr p7 (f15 309 20 (by decide)) (f15 309 36 (by decide)) (f15 309 38 (by decide)) (f15 309 39 (by decide)) (fun b => f15 312 b (nr_X12_bad_309__312 b)) (fun b => f15 331 b (nr_X12_bad_309__331 b)) (fun b => f15 346 b (nr_X12_bad_309__346 b)) (fun b => f15 361 b (nr_X12_bad_309__361 b)) (fun b => f15 391 b (nr_X12_bad_309__391 b)) (fun a b h => f15 a b (nz_X12_bad_309__407_606 a b h)) (fun a b h => f15 a b (nz_X12_bad_309__3220_3223 a b h)) (fun a b h => f15 a b (nz_X12_bad_309__3235_3437 a b h))
  have r39 := y_YM.fr p8 (by omega) (f15 309 44 (by decide)) (f15 309 20 (by decide)) (f15 309 58 (by decide)) (fun b => f15 312 b (nr_X12_bad_309__312 b)) (fun b => f15 331 b (nr_X12_bad_309__331 b)) (fun b => f15 346 b (nr_X12_bad_309__346 b)) (fun b => f15 361 b (nr_X12_bad_309__361 b)) (fun b => f15 391 b (nr_X12_bad_309__391 b)) (fun a b h => f15 a b (nz_X12_bad_309__407_606 a b h)) (fun a b h => f15 a b (nz_X12_bad_309__3220_3223 a b h)) (fun b => f15 3438 b (nr_X12_bad_309__3438 b)) (fun a b h => f15 a b (nz_X12_bad_309__3441_3450 a b h)) (fun a b h => f15 a b (nz_X12_bad_309__3452_3651 a b h))
  refine T_ite (fun h40 => ?_) (fun h40 => ?_)
  · exact sj_X12_side_309Y_J59 hfu r0 s13 c14 f16 r34 (by first | exact r35 | exact y_DD.z (by omega) (by omega)) r36 (by first | exact r37 | exact y_K.b0 (by omega) | exact y_K.k0 (by omega) | exact y_K.bk (by omega) | exact y_K.mk r32 (by omega) r33) (by first | exact r38 | exact y_KM.z (by omega)) (by first | exact r39 | exact y_YM.b0 (by omega) | exact y_YM.k0 (by omega) | exact y_YM.bk (by omega))
  · refine T_useI (sf_X12_in hfu s13 c14 a2 0 1 (by omega) (by omega) (by omega)) (fun v46 s41 hq => ?_)
    obtain ⟨c42, f43, ⟨x45, rfl, b47, b48, o49⟩⟩ := hq
    refine T_vI ?_
    have q50 := z_Fr.eq (fun a b h => h) f43
    subst q50
    refine T_ite (fun h51 => ?_) (fun h51 => ?_)
    · exact sj_X12_side_309Y_J46 hfu r0 s13 c14 f16 a1 a2 a3 (by omega) (by omega) (by omega) (by omega) (by first | exact y_L.cg r32 (by omega) | exact y_K.L r37 (by omega) (by omega)) (by first | exact r33 | exact y_K.B r37 (by omega) (by omega)) r34 (by first | exact r35 | exact y_DD.z (by omega) (by omega)) r36 (by first | exact r37 | exact y_K.b0 (by omega) | exact y_K.k0 (by omega) | exact y_K.bk (by omega) | exact y_K.mk r32 (by omega) r33) (by first | exact r38 | exact y_KM.z (by omega)) (by first | exact r39 | exact y_YM.b0 (by omega) | exact y_YM.k0 (by omega) | exact y_YM.bk (by omega))
    · refine T_useI (sf_X12_in hfu s13 c14 a3 0 1 (by omega) (by omega) (by omega)) (fun v57 s52 hq => ?_)
      obtain ⟨c53, f54, ⟨x56, rfl, b58, b59, o60⟩⟩ := hq
      refine T_vI ?_
      have q61 := z_Fr.eq (fun a b h => h) f54
      subst q61
      refine T_ite (fun h62 => ?_) (fun h62 => ?_)
      · exact sj_X12_side_309Y_J51 hfu r0 s13 c14 f16 a1 a2 a3 0 (by omega) (by omega) (by omega) (by omega) (by omega) (by omega) (by first | exact y_L.cg r32 (by omega) | exact y_K.L r37 (by omega) (by omega)) (by first | exact r33 | exact y_K.B r37 (by omega) (by omega)) r34 (by first | exact r35 | exact y_DD.z (by omega) (by omega)) r36 (by first | exact r37 | exact y_K.b0 (by omega) | exact y_K.k0 (by omega) | exact y_K.bk (by omega) | exact y_K.mk r32 (by omega) r33) (by first | exact r38 | exact y_KM.z (by omega)) (by first | exact r39 | exact y_YM.b0 (by omega) | exact y_YM.k0 (by omega) | exact y_YM.bk (by omega))
      · exact sj_X12_side_309Y_J46 hfu r0 s13 c14 f16 a1 a2 a3 (by omega) (by omega) (by omega) (by omega) (by first | exact y_L.cg r32 (by omega) | exact y_K.L r37 (by omega) (by omega)) (by first | exact r33 | exact y_K.B r37 (by omega) (by omega)) r34 (by first | exact r35 | exact y_DD.z (by omega) (by omega)) r36 (by first | exact r37 | exact y_K.b0 (by omega) | exact y_K.k0 (by omega) | exact y_K.bk (by omega) | exact y_K.mk r32 (by omega) r33) (by first | exact r38 | exact y_KM.z (by omega)) (by first | exact r39 | exact y_YM.b0 (by omega) | exact y_YM.k0 (by omega) | exact y_YM.bk (by omega))
theorem sf_X12_side_309Y {fu : Nat} (hfu : 8589934592 ≤ fu) (r0 : z_M) (c0 : z_CI r0) (a1 : Int) (a2 : Int) (a3 : Int) (b1 : -2147483648 ≤ a1 ∧ a1 ≤ 2147483647) (b2 : -2147483648 ≤ a2 ∧ a2 ≤ 2147483647) (b3 : -2147483648 ≤ a3 ∧ a3 ≤ 2147483647) (p0 : y_TA r0) (p1 : y_DD r0) (p2 : y_B r0) (p3 : y_K r0) (p4 : y_KM r0) (p5 : y_YM r0) : z_T (fX12_side fu r0 309 a1 a2 a3) (P_X12_side_309Y r0) := by
  refine T_of (fX12_side.eq_1 ..) ?_
  have u1 := CI_b c0 (k := 309) (j := 20) bd_309_20
  have u2 := CI_b c0 (k := 309) (j := 36) bd_309_36
  have u3 := CI_b c0 (k := 309) (j := 43) bd_309_43
  have u4 := CI_b c0 (k := 309) (j := 44) bd_309_44
  have u5 := CI_b c0 (k := 309) (j := 58) bd_309_58
  have u6 := CI_b c0 (k := 316) (j := 0) bd_316_0
  have u7 := CI_b c0 (k := 329) (j := 0) bd_329_0
  have u8 := CI_b c0 (k := 329) (j := 1) bd_329_1
  refine T_if1 (by decide +kernel) ?_
  refine T_upg c0 bd_309_0 (by omega) (fun s9 c10 g12 g13 e14 => ?_)
  have f11 := z_Fr.upf (R := R_X12_side_309) z_Fr.rf g12 g13 (Or.inr (Or.inr (⟨rfl, by decide⟩)))
  have t15 : s9 309 20 = r0 309 20 := g13 20 (by decide)
  have t16 : s9 309 36 = r0 309 36 := g13 36 (by decide)
  have t17 : s9 309 43 = r0 309 43 := g13 43 (by decide)
  have t18 : s9 309 44 = r0 309 44 := g13 44 (by decide)
  have t19 : s9 309 58 = r0 309 58 := g13 58 (by decide)
  have t20 : s9 316 0 = r0 316 0 := g12 316 0 (by decide)
  have t21 : s9 329 0 = r0 329 0 := g12 329 0 (by decide)
  have t22 : s9 329 1 = r0 329 1 := g12 329 1 (by decide)
  have r23 := y_TA.fr p0 (fun a b h => g12 a b (by omega)) (fun a b h => g12 a b (by omega)) (fun a b h => g12 a b (by omega))
  have r24 := y_DD.fr p1 (g12 329 0 (by decide)) (g12 329 1 (by decide)) (fun b => g12 359 b (by decide)) (fun b => g12 374 b (by decide))
  have r25 := y_B.fr p2 (g13 20 (by decide)) (g12 316 0 (by decide)) (fun b => g12 3220 b (by decide)) (fun b => g12 3221 b (by decide)) (fun b => g12 3222 b (by decide)) (fun b => g12 361 b (by decide))
  have r26 := y_K.fr p3 (by omega) (by omega) (g13 44 (by decide)) (g13 20 (by decide)) (g13 58 (by decide)) (fun b => g12 3438 b (by decide)) (fun b => g12 3220 b (by decide)) (fun a b h => g12 a b (by omega))
  have r27 := y_KM.fr p4 (g13 20 (by decide)) (g13 36 (by decide)) (g13 38 (by decide)) (g13 39 (by decide)) (fun b => g12 312 b (by decide)) (fun b => g12 331 b (by decide)) (fun b => g12 346 b (by decide)) (fun b => g12 361 b (by decide)) (fun b => g12 391 b (by decide)) (fun a b h => g12 a b (by omega)) (fun a b h => g12 a b (by omega)) (fun a b h => g12 a b (by omega))
  have r28 := y_YM.fr p5 (by omega) (g13 44 (by decide)) (g13 20 (by decide)) (g13 58 (by decide)) (fun b => g12 312 b (by decide)) (fun b => g12 331 b (by decide)) (fun b => g12 346 b (by decide)) (fun b => g12 361 b (by decide)) (fun b => g12 391 b (by decide)) (fun a b h => g12 a b (by omega)) (fun a b h => g12 a b (by omega)) (fun b => g12 3438 b (by decide)) (fun a b h => g12 a b (by omega)) (fun a b h => g12 a b (by omega))
  refine T_if1 (by decide +kernel) ?_
  refine T_useI (sf_X12_isLine_309Y hfu s9 c10 a1 (by omega) r25 (by first | exact r26 | exact y_K.b0 (by omega) | exact y_K.k0 (by omega) | exact y_K.bk (by omega)) (by first | exact r27 | exact y_KM.z (by omega)) (by first | exact r28 | exact y_YM.b0 (by omega) | exact y_YM.k0 (by omega) | exact y_YM.bk (by omega))) (fun v34 s29 hq => ?_)
  obtain ⟨c30, f31, o35, o36, o37, o38, o39, o40, o41, o42, ⟨x33, rfl, b43, b44, o45⟩⟩ := hq
  refine T_vI ?_
  have f32 := z_Fr.tr (R := R_X12_side_309) f11 f31 rs_X12_isLine_309__X12_side_309
  have t46 : s29 309 20 = r0 309 20 := (f31 309 20 (by decide)).trans t15
  have t47 : s29 316 0 = r0 316 0 := (f31 316 0 (by decide)).trans t20
  have t48 : s29 329 0 = r0 329 0 := (f31 329 0 (by decide)).trans t21
  have t49 : s29 329 1 = r0 329 1 := (f31 329 1 (by decide)).trans t22
  have u50 := CI_b c30 (k := 309) (j := 36) bd_309_36
  have u51 := CI_b c30 (k := 309) (j := 43) bd_309_43
  have u52 := CI_b c30 (k := 309) (j := 44) bd_309_44
  have u53 := CI_b c30 (k := 309) (j := 58) bd_309_58
  have r54 := y_TA.fr r23 (fun a b h => f31 a b (nz_X12_isLine_309__316_328 a b h)) (fun a b h => f31 a b (nz_X12_isLine_309__346_358 a b h)) (fun a b h => f31 a b (nz_X12_isLine_309__361_373 a b h))
  have r55 := y_DD.fr r24 (f31 329 0 (by decide)) (f31 329 1 (by decide)) (fun b => f31 359 b (nr_X12_isLine_309__359 b)) (fun b => f31 374 b (nr_X12_isLine_309__374 b))
  have r56 := y_B.fr r25 (f31 309 20 (by decide)) (f31 316 0 (by decide)) (fun b => f31 3220 b (nr_X12_isLine_309__3220 b)) (fun b => f31 3221 b (nr_X12_isLine_309__3221 b)) (fun b => f31 3222 b (nr_X12_isLine_309__3222 b)) (fun b => f31 361 b (nr_X12_isLine_309__361 b))
  clear t15
  clear t20
  clear t21
  clear t22
  refine T_ite (fun h57 => ?_) (fun h57 => ?_)
  · exact sj_X12_side_309Y_J19 hfu r0 s29 c30 f32 a1 a2 a3 0 (by omega) (by omega) (by omega) (by omega) (by omega) (by first | exact y_L.cg o36 (by omega) | exact y_K.L o35 (by omega) (by omega)) (by first | exact o37 | exact y_K.B o35 (by omega) (by omega)) r54 (by first | exact r55 | exact y_DD.z (by omega) (by omega)) r56 (by first | exact o35 | exact y_K.b0 (by omega) | exact y_K.k0 (by omega) | exact y_K.bk (by omega) | exact y_K.mk o36 (by omega) o37) (by first | exact o41 | exact y_KM.z (by omega)) (by first | exact o42 | exact y_YM.b0 (by omega) | exact y_YM.k0 (by omega) | exact y_YM.bk (by omega))
  · exact sj_X12_side_309Y_J19 hfu r0 s29 c30 f32 a1 a2 a3 1 (by omega) (by omega) (by omega) (by omega) (by omega) (by first | exact y_L.cg o36 (by omega) | exact y_K.L o35 (by omega) (by omega)) (by first | exact o37 | exact y_K.B o35 (by omega) (by omega)) r54 (by first | exact r55 | exact y_DD.z (by omega) (by omega)) r56 (by first | exact o35 | exact y_K.b0 (by omega) | exact y_K.k0 (by omega) | exact y_K.bk (by omega) | exact y_K.mk o36 (by omega) o37) (by first | exact o41 | exact y_KM.z (by omega)) (by first | exact o42 | exact y_YM.b0 (by omega) | exact y_YM.k0 (by omega) | exact y_YM.bk (by omega))
abbrev P_X12_gutter_309Y (r0 : z_M) : z_V → z_M → Prop := fun v s' => z_CI s' ∧ z_Fr R_X12_gutter_309 r0 s' ∧ (y_TA s') ∧ (y_DD s') ∧ (y_B s') ∧ (y_K s') ∧ (y_KM s') ∧ (y_YM s') ∧ (∃ x, v = vI x ∧ -2147483648 ≤ x ∧ x ≤ 2147483647)
theorem nz_X12_gutterOf_309__3441_3450 (a b : Int) (h : 3441 ≤ a ∧ a ≤ 3450) : ¬ R_X12_gutterOf_309 a b := by
  unfold R_X12_gutterOf_309; omega
theorem sj_X12_gutter_309Y_J48 {fu : Nat} (hfu : 8589934592 ≤ fu) (r0 s : z_M) (c : z_CI s) (f : z_Fr R_X12_gutter_309 r0 s) (t0 : Int) (d0 : -2147483648 ≤ t0 ∧ t0 ≤ 2147483647) (p0 : y_TA s) (p1 : y_DD s) (p2 : y_B s) (p3 : y_K s) (p4 : y_KM s) (p5 : y_YM s) : z_T (fX12_gutter_J48 fu s t0) (P_X12_gutter_309Y r0) := by
  refine T_of (fX12_gutter_J48.eq_1 ..) ?_
  have u1 := CI_b c (k := 309) (j := 20) bd_309_20
  have u2 := CI_b c (k := 309) (j := 36) bd_309_36
  have u3 := CI_b c (k := 309) (j := 43) bd_309_43
  have u4 := CI_b c (k := 309) (j := 44) bd_309_44
  have u5 := CI_b c (k := 309) (j := 58) bd_309_58
  have u6 := CI_b c (k := 316) (j := 0) bd_316_0
  have u7 := CI_b c (k := 329) (j := 0) bd_329_0
  have u8 := CI_b c (k := 329) (j := 1) bd_329_1
  have t9 : s 309 20 = r0 309 20 := f 309 20 (by decide)
  have t10 : s 316 0 = r0 316 0 := f 316 0 (by decide)
  have t11 : s 329 0 = r0 329 0 := f 329 0 (by decide)
  have t12 : s 329 1 = r0 329 1 := f 329 1 (by decide)
  exact T_ret ⟨c, f, p0, (by first | exact p1 | exact y_DD.z (by omega) (by omega)), p2, (by first | exact p3 | exact y_K.b0 (by omega) | exact y_K.k0 (by omega) | exact y_K.bk (by omega)), (by first | exact p4 | exact y_KM.z (by omega)), (by first | exact p5 | exact y_YM.b0 (by omega) | exact y_YM.k0 (by omega) | exact y_YM.bk (by omega)), ⟨t0, rfl, by omega, by omega⟩⟩
set_option maxHeartbeats 4000000 in
theorem sj_X12_gutter_309Y_J19 {fu : Nat} (hfu : 8589934592 ≤ fu) (r0 s : z_M) (c : z_CI s) (f : z_Fr R_X12_gutter_309 r0 s) (a1 : Int) (t1 : Int) (b1 : -2147483648 ≤ a1 ∧ a1 ≤ 2147483647) (d1 : 0 ≤ t1 ∧ t1 ≤ 1) (p0 : t1 = 1 ∨ (0 ≤ a1 ∧ a1 < s 309 44)) (p1 : y_L s (s 309 44)) (p2 : y_BK s) (p3 : y_TA s) (p4 : y_DD s) (p5 : y_B s) (p6 : y_K s) (p7 : y_KM s) (p8 : y_YM s) : z_T (fX12_gutter_J19 fu s 309 a1 309 t1) (P_X12_gutter_309Y r0) := by
  refine T_of (fX12_gutter_J19.eq_1 ..) ?_
  have u1 := CI_b c (k := 309) (j := 20) bd_309_20
  have u2 := CI_b c (k := 309) (j := 36) bd_309_36
  have u3 := CI_b c (k := 309) (j := 43) bd_309_43
  have u4 := CI_b c (k := 309) (j := 44) bd_309_44
  have u5 := CI_b c (k := 309) (j := 58) bd_309_58
  have u6 := CI_b c (k := 316) (j := 0) bd_316_0
  have u7 := CI_b c (k := 329) (j := 0) bd_329_0
  have u8 := CI_b c (k := 329) (j := 1) bd_329_1
  have t9 : s 309 20 = r0 309 20 := f 309 20 (by decide)
  have t10 : s 316 0 = r0 316 0 := f 316 0 (by decide)
  have t11 : s 329 0 = r0 329 0 := f 329 0 (by decide)
  have t12 : s 329 1 = r0 329 1 := f 329 1 (by decide)
  refine T_if1 (by decide +kernel) ?_
  refine T_useI (sf_X12_bad_309 hfu s c t1 1 0 (by omega) (by omega) (by omega) (by omega)) (fun v18 s13 hq => ?_)
  obtain ⟨c14, f15, o19, ⟨x17, rfl, b20, b21, o22, o23⟩⟩ := hq
  refine T_vI ?_
  have f16 := z_Fr.tr (R := R_X12_gutter_309) f f15 rs_X12_bad_309__X12_gutter_309
  have t24 : s13 309 20 = s 309 20 := f15 309 20 (by decide)
  have t25 : s13 309 36 = s 309 36 := f15 309 36 (by decide)
  have t26 : s13 309 43 = s 309 43 := f15 309 43 (by decide)
  have t27 : s13 309 44 = s 309 44 := f15 309 44 (by decide)
  have t28 : s13 309 58 = s 309 58 := f15 309 58 (by decide)
  have t29 : s13 316 0 = s 316 0 := f15 316 0 (by decide)
  have t30 : s13 329 0 = s 329 0 := f15 329 0 (by decide)
  have t31 : s13 329 1 = s 329 1 := f15 329 1 (by decide)
  have r32 := y_L.fr p1 (f15 309 20 (by decide)) (fun b => f15 3438 b (nr_X12_bad_309__3438 b))
  have r33 := y_BK.fr p2 (by omega) (f15 309 20 (by decide)) (f15 309 58 (by decide)) (fun b => f15 3220 b (nr_X12_bad_309__3220 b)) (fun a b h => f15 a b (nz_X12_bad_309__3452_3651 a b h))
  have r34 := y_TA.fr p3 (fun a b h => f15 a b (nz_X12_bad_309__316_328 a b h)) (fun a b h => f15 a b (nz_X12_bad_309__346_358 a b h)) (fun a b h => f15 a b (nz_X12_bad_309__361_373 a b h))
  have r35 := y_DD.fr p4 (f15 329 0 (by decide)) (f15 329 1 (by decide)) (fun b => f15 359 b (nr_X12_bad_309__359 b)) (fun b => f15 374 b (nr_X12_bad_309__374 b))
  have r36 := y_B.fr p5 (f15 309 20 (by decide)) (f15 316 0 (by decide)) (fun b => f15 3220 b (nr_X12_bad_309__3220 b)) (fun b => f15 3221 b (nr_X12_bad_309__3221 b)) (fun b => f15 3222 b (nr_X12_bad_309__3222 b)) (fun b => f15 361 b (nr_X12_bad_309__361 b))
  have r37 := y_K.fr p6 (by omega) (by omega) (f15 309 44 (by decide)) (f15 309 20 (by decide)) (f15 309 58 (by decide)) (fun b => f15 3438 b (nr_X12_bad_309__3438 b)) (fun b => f15 3220 b (nr_X12_bad_309__3220 b)) (fun a b h => f15 a b (nz_X12_bad_309__3452_3651 a b h))
  have r38 := y_KM.fr p7 (f15 309 20 (by decide)) (f15 309 36 (by decide)) (f15 309 38 (by decide)) (f15 309 39 (by decide)) (fun b => f15 312 b (nr_X12_bad_309__312 b)) (fun b => f15 331 b (nr_X12_bad_309__331 b)) (fun b => f15 346 b (nr_X12_bad_309__346 b)) (fun b => f15 361 b (nr_X12_bad_309__361 b)) (fun b => f15 391 b (nr_X12_bad_309__391 b)) (fun a b h => f15 a b (nz_X12_bad_309__407_606 a b h)) (fun a b h => f15 a b (nz_X12_bad_309__3220_3223 a b h)) (fun a b h => f15 a b (nz_X12_bad_309__3235_3437 a b h))
  have r39 := y_YM.fr p8 (by omega) (f15 309 44 (by decide)) (f15 309 20 (by decide)) (f15 309 58 (by decide)) (fun b => f15 312 b (nr_X12_bad_309__312 b)) (fun b => f15 331 b (nr_X12_bad_309__331 b)) (fun b => f15 346 b (nr_X12_bad_309__346 b)) (fun b => f15 361 b (nr_X12_bad_309__361 b)) (fun b => f15 391 b (nr_X12_bad_309__391 b)) (fun a b h => f15 a b (nz_X12_bad_309__407_606 a b h)) (fun a b h => f15 a b (nz_X12_bad_309__3220_3223 a b h)) (fun b => f15 3438 b (nr_X12_bad_309__3438 b)) (fun a b h => f15 a b (nz_X12_bad_309__3441_3450 a b h)) (fun a b h => f15 a b (nz_X12_bad_309__3452_3651 a b h))
  refine T_ite (fun h40 => ?_) (fun h40 => ?_)
  · refine T_leq (fun x41 e42 => ?_)
    first | (have w43 := z_wx e42 (by omega)) | (have w43 := z_wr e42)
    refine T_if1 (by decide +kernel) ?_
    refine T_leq (fun x44 e45 => ?_)
    have u46 := CI_b c14 (k := 309) (j := 44) bd_309_44
    refine T_ite (fun h47 => ?_) (fun h47 => ?_)
    · refine T_if1 (by decide +kernel) ?_
      refine T_useI (sf_X12_gutterOf_309 hfu s13 c14 a1 (by omega) r36 (by first | exact r33 | exact y_K.B r37 (by omega) (by omega)) (by first | exact y_L.cg r32 (by omega) | exact y_K.L r37 (by omega) (by omega)) r34 (by omega)) (fun v53 s48 hq => ?_)
      obtain ⟨c49, f50, ⟨x52, rfl, b54, b55⟩⟩ := hq
      refine T_vI ?_
      have f51 := z_Fr.tr (R := R_X12_gutter_309) f16 f50 rs_X12_gutterOf_309__X12_gutter_309
      have t56 : s48 309 20 = s 309 20 := (f50 309 20 (by decide)).trans t24
      have t57 : s48 309 36 = s 309 36 := (f50 309 36 (by decide)).trans t25
      have t58 : s48 309 43 = s 309 43 := (f50 309 43 (by decide)).trans t26
      have t59 : s48 309 44 = x44 := (f50 309 44 (by decide)).trans e45
      have t60 : s48 309 58 = s 309 58 := (f50 309 58 (by decide)).trans t28
      have t61 : s48 316 0 = s 316 0 := (f50 316 0 (by decide)).trans t29
      have t62 : s48 329 0 = s 329 0 := (f50 329 0 (by decide)).trans t30
      have t63 : s48 329 1 = s 329 1 := (f50 329 1 (by decide)).trans t31
      have r64 := y_L.fr r32 (f50 309 20 (by decide)) (fun b => f50 3438 b (nr_X12_gutterOf_309__3438 b))
      have r65 := y_BK.fr r33 (by omega) (f50 309 20 (by decide)) (f50 309 58 (by decide)) (fun b => f50 3220 b (nr_X12_gutterOf_309__3220 b)) (fun a b h => f50 a b (nz_X12_gutterOf_309__3452_3651 a b h))
      have r66 := y_TA.fr r34 (fun a b h => f50 a b (nz_X12_gutterOf_309__316_328 a b h)) (fun a b h => f50 a b (nz_X12_gutterOf_309__346_358 a b h)) (fun a b h => f50 a b (nz_X12_gutterOf_309__361_373 a b h))
      have r67 := y_DD.fr r35 (f50 329 0 (by decide)) (f50 329 1 (by decide)) (fun b => f50 359 b (nr_X12_gutterOf_309__359 b)) (fun b => f50 374 b (nr_X12_gutterOf_309__374 b))
      have r68 := y_B.fr r36 (f50 309 20 (by decide)) (f50 316 0 (by decide)) (fun b => f50 3220 b (nr_X12_gutterOf_309__3220 b)) (fun b => f50 3221 b (nr_X12_gutterOf_309__3221 b)) (fun b => f50 3222 b (nr_X12_gutterOf_309__3222 b)) (fun b => f50 361 b (nr_X12_gutterOf_309__361 b))
      have r69 := y_K.fr r37 (by omega) (by omega) (f50 309 44 (by decide)) (f50 309 20 (by decide)) (f50 309 58 (by decide)) (fun b => f50 3438 b (nr_X12_gutterOf_309__3438 b)) (fun b => f50 3220 b (nr_X12_gutterOf_309__3220 b)) (fun a b h => f50 a b (nz_X12_gutterOf_309__3452_3651 a b h))
      have r70 := y_KM.fr r38 (f50 309 20 (by decide)) (f50 309 36 (by decide)) (f50 309 38 (by decide)) (f50 309 39 (by decide)) (fun b => f50 312 b (nr_X12_gutterOf_309__312 b)) (fun b => f50 331 b (nr_X12_gutterOf_309__331 b)) (fun b => f50 346 b (nr_X12_gutterOf_309__346 b)) (fun b => f50 361 b (nr_X12_gutterOf_309__361 b)) (fun b => f50 391 b (nr_X12_gutterOf_309__391 b)) (fun a b h => f50 a b (nz_X12_gutterOf_309__407_606 a b h)) (fun a b h => f50 a b (nz_X12_gutterOf_309__3220_3223 a b h)) (fun a b h => f50 a b (nz_X12_gutterOf_309__3235_3437 a b h))
      have r71 := y_YM.fr r39 (by omega) (f50 309 44 (by decide)) (f50 309 20 (by decide)) (f50 309 58 (by decide)) (fun b => f50 312 b (nr_X12_gutterOf_309__312 b)) (fun b => f50 331 b (nr_X12_gutterOf_309__331 b)) (fun b => f50 346 b (nr_X12_gutterOf_309__346 b)) (fun b => f50 361 b (nr_X12_gutterOf_309__361 b)) (fun b => f50 391 b (nr_X12_gutterOf_309__391 b)) (fun a b h => f50 a b (nz_X12_gutterOf_309__407_606 a b h)) (fun a b h => f50 a b (nz_X12_gutterOf_309__3220_3223 a b h)) (fun b => f50 3438 b (nr_X12_gutterOf_309__3438 b)) (fun a b h => f50 a b (nz_X12_gutterOf_309__3441_3450 a b h)) (fun a b h => f50 a b (nz_X12_gutterOf_309__3452_3651 a b h))
      clear t24
      clear t25
      clear t26
      clear t28
      clear t29
      clear t30
      clear t31
      exact sj_X12_gutter_309Y_J48 hfu r0 s48 c49 f51 x52 (by omega) r66 (by first | exact r67 | exact y_DD.z (by omega) (by omega)) r68 (by first | exact r69 | exact y_K.b0 (by omega) | exact y_K.k0 (by omega) | exact y_K.bk (by omega) | exact y_K.mk r64 (by omega) r65) (by first | exact r70 | exact y_KM.z (by omega)) (by first | exact r71 | exact y_YM.b0 (by omega) | exact y_YM.k0 (by omega) | exact y_YM.bk (by omega))
    · exact sj_X12_gutter_309Y_J48 hfu r0 s13 c14 f16 (-1) (by omega) r34 (by first | exact r35 | exact y_DD.z (by omega) (by omega)) r36 (by first | exact r37 | exact y_K.b0 (by omega) | exact y_K.k0 (by omega) | exact y_K.bk (by omega) | exact y_K.mk r32 (by omega) r33) (by first | exact r38 | exact y_KM.z (by omega)) (by first | exact r39 | exact y_YM.b0 (by omega) | exact y_YM.k0 (by omega) | exact y_YM.bk (by omega))
  · exact T_ret ⟨c14, f16, r34, (by first | exact r35 | exact y_DD.z (by omega) (by omega)), r36, (by first | exact r37 | exact y_K.b0 (by omega) | exact y_K.k0 (by omega) | exact y_K.bk (by omega) | exact y_K.mk r32 (by omega) r33), (by first | exact r38 | exact y_KM.z (by omega)), (by first | exact r39 | exact y_YM.b0 (by omega) | exact y_YM.k0 (by omega) | exact y_YM.bk (by omega)), ⟨0, rfl, by omega, by omega⟩⟩
theorem sf_X12_gutter_309Y {fu : Nat} (hfu : 8589934592 ≤ fu) (r0 : z_M) (c0 : z_CI r0) (a1 : Int) (b1 : -2147483648 ≤ a1 ∧ a1 ≤ 2147483647) (p0 : y_TA r0) (p1 : y_DD r0) (p2 : y_B r0) (p3 : y_K r0) (p4 : y_KM r0) (p5 : y_YM r0) : z_T (fX12_gutter fu r0 309 a1) (P_X12_gutter_309Y r0) := by
  refine T_of (fX12_gutter.eq_1 ..) ?_
  have u1 := CI_b c0 (k := 309) (j := 20) bd_309_20
  have u2 := CI_b c0 (k := 309) (j := 36) bd_309_36
  have u3 := CI_b c0 (k := 309) (j := 43) bd_309_43
  have u4 := CI_b c0 (k := 309) (j := 44) bd_309_44
  have u5 := CI_b c0 (k := 309) (j := 58) bd_309_58
  have u6 := CI_b c0 (k := 316) (j := 0) bd_316_0
  have u7 := CI_b c0 (k := 329) (j := 0) bd_329_0
  have u8 := CI_b c0 (k := 329) (j := 1) bd_329_1
  refine T_if1 (by decide +kernel) ?_
  refine T_upg c0 bd_309_0 (by omega) (fun s9 c10 g12 g13 e14 => ?_)
  have f11 := z_Fr.upf (R := R_X12_gutter_309) z_Fr.rf g12 g13 (Or.inr (Or.inr (⟨rfl, by decide⟩)))
  have t15 : s9 309 20 = r0 309 20 := g13 20 (by decide)
  have t16 : s9 309 36 = r0 309 36 := g13 36 (by decide)
  have t17 : s9 309 43 = r0 309 43 := g13 43 (by decide)
  have t18 : s9 309 44 = r0 309 44 := g13 44 (by decide)
  have t19 : s9 309 58 = r0 309 58 := g13 58 (by decide)
  have t20 : s9 316 0 = r0 316 0 := g12 316 0 (by decide)
  have t21 : s9 329 0 = r0 329 0 := g12 329 0 (by decide)
  have t22 : s9 329 1 = r0 329 1 := g12 329 1 (by decide)
  have r23 := y_TA.fr p0 (fun a b h => g12 a b (by omega)) (fun a b h => g12 a b (by omega)) (fun a b h => g12 a b (by omega))
  have r24 := y_DD.fr p1 (g12 329 0 (by decide)) (g12 329 1 (by decide)) (fun b => g12 359 b (by decide)) (fun b => g12 374 b (by decide))
  have r25 := y_B.fr p2 (g13 20 (by decide)) (g12 316 0 (by decide)) (fun b => g12 3220 b (by decide)) (fun b => g12 3221 b (by decide)) (fun b => g12 3222 b (by decide)) (fun b => g12 361 b (by decide))
  have r26 := y_K.fr p3 (by omega) (by omega) (g13 44 (by decide)) (g13 20 (by decide)) (g13 58 (by decide)) (fun b => g12 3438 b (by decide)) (fun b => g12 3220 b (by decide)) (fun a b h => g12 a b (by omega))
  have r27 := y_KM.fr p4 (g13 20 (by decide)) (g13 36 (by decide)) (g13 38 (by decide)) (g13 39 (by decide)) (fun b => g12 312 b (by decide)) (fun b => g12 331 b (by decide)) (fun b => g12 346 b (by decide)) (fun b => g12 361 b (by decide)) (fun b => g12 391 b (by decide)) (fun a b h => g12 a b (by omega)) (fun a b h => g12 a b (by omega)) (fun a b h => g12 a b (by omega))
  have r28 := y_YM.fr p5 (by omega) (g13 44 (by decide)) (g13 20 (by decide)) (g13 58 (by decide)) (fun b => g12 312 b (by decide)) (fun b => g12 331 b (by decide)) (fun b => g12 346 b (by decide)) (fun b => g12 361 b (by decide)) (fun b => g12 391 b (by decide)) (fun a b h => g12 a b (by omega)) (fun a b h => g12 a b (by omega)) (fun b => g12 3438 b (by decide)) (fun a b h => g12 a b (by omega)) (fun a b h => g12 a b (by omega))
  refine T_if1 (by decide +kernel) ?_
  refine T_useI (sf_X12_isLine_309Y hfu s9 c10 a1 (by omega) r25 (by first | exact r26 | exact y_K.b0 (by omega) | exact y_K.k0 (by omega) | exact y_K.bk (by omega)) (by first | exact r27 | exact y_KM.z (by omega)) (by first | exact r28 | exact y_YM.b0 (by omega) | exact y_YM.k0 (by omega) | exact y_YM.bk (by omega))) (fun v34 s29 hq => ?_)
  obtain ⟨c30, f31, o35, o36, o37, o38, o39, o40, o41, o42, ⟨x33, rfl, b43, b44, o45⟩⟩ := hq
  refine T_vI ?_
  have f32 := z_Fr.tr (R := R_X12_gutter_309) f11 f31 rs_X12_isLine_309__X12_gutter_309
  have t46 : s29 309 20 = r0 309 20 := (f31 309 20 (by decide)).trans t15
  have t47 : s29 316 0 = r0 316 0 := (f31 316 0 (by decide)).trans t20
  have t48 : s29 329 0 = r0 329 0 := (f31 329 0 (by decide)).trans t21
  have t49 : s29 329 1 = r0 329 1 := (f31 329 1 (by decide)).trans t22
  have u50 := CI_b c30 (k := 309) (j := 36) bd_309_36
  have u51 := CI_b c30 (k := 309) (j := 43) bd_309_43
  have u52 := CI_b c30 (k := 309) (j := 44) bd_309_44
  have u53 := CI_b c30 (k := 309) (j := 58) bd_309_58
  have r54 := y_TA.fr r23 (fun a b h => f31 a b (nz_X12_isLine_309__316_328 a b h)) (fun a b h => f31 a b (nz_X12_isLine_309__346_358 a b h)) (fun a b h => f31 a b (nz_X12_isLine_309__361_373 a b h))
  have r55 := y_DD.fr r24 (f31 329 0 (by decide)) (f31 329 1 (by decide)) (fun b => f31 359 b (nr_X12_isLine_309__359 b)) (fun b => f31 374 b (nr_X12_isLine_309__374 b))
  have r56 := y_B.fr r25 (f31 309 20 (by decide)) (f31 316 0 (by decide)) (fun b => f31 3220 b (nr_X12_isLine_309__3220 b)) (fun b => f31 3221 b (nr_X12_isLine_309__3221 b)) (fun b => f31 3222 b (nr_X12_isLine_309__3222 b)) (fun b => f31 361 b (nr_X12_isLine_309__361 b))
  clear t15
  clear t20
  clear t21
  clear t22
  refine T_ite (fun h57 => ?_) (fun h57 => ?_)
  · exact sj_X12_gutter_309Y_J19 hfu r0 s29 c30 f32 a1 0 (by omega) (by omega) (by omega) (by first | exact y_L.cg o36 (by omega) | exact y_K.L o35 (by omega) (by omega)) (by first | exact o37 | exact y_K.B o35 (by omega) (by omega)) r54 (by first | exact r55 | exact y_DD.z (by omega) (by omega)) r56 (by first | exact o35 | exact y_K.b0 (by omega) | exact y_K.k0 (by omega) | exact y_K.bk (by omega) | exact y_K.mk o36 (by omega) o37) (by first | exact o41 | exact y_KM.z (by omega)) (by first | exact o42 | exact y_YM.b0 (by omega) | exact y_YM.k0 (by omega) | exact y_YM.bk (by omega))
  · exact sj_X12_gutter_309Y_J19 hfu r0 s29 c30 f32 a1 1 (by omega) (by omega) (by omega) (by first | exact y_L.cg o36 (by omega) | exact y_K.L o35 (by omega) (by omega)) (by first | exact o37 | exact y_K.B o35 (by omega) (by omega)) r54 (by first | exact r55 | exact y_DD.z (by omega) (by omega)) r56 (by first | exact o35 | exact y_K.b0 (by omega) | exact y_K.k0 (by omega) | exact y_K.bk (by omega) | exact y_K.mk o36 (by omega) o37) (by first | exact o41 | exact y_KM.z (by omega)) (by first | exact o42 | exact y_YM.b0 (by omega) | exact y_YM.k0 (by omega) | exact y_YM.bk (by omega))
abbrev P_X12_clash_309Y (r0 : z_M) : z_V → z_M → Prop := fun v s' => z_CI s' ∧ z_Fr R_X12_clash_309 r0 s' ∧ (y_TA s') ∧ (y_DD s') ∧ (y_B s') ∧ (y_K s') ∧ (y_KM s') ∧ (y_YM s') ∧ (∃ x, v = vI x ∧ -2147483648 ≤ x ∧ x ≤ 2147483647)
theorem nz_X12_clashOf_309__3441_3450 (a b : Int) (h : 3441 ≤ a ∧ a ≤ 3450) : ¬ R_X12_clashOf_309 a b := by
  unfold R_X12_clashOf_309; omega
set_option maxHeartbeats 4000000 in
theorem sj_X12_clash_309Y_J19 {fu : Nat} (hfu : 8589934592 ≤ fu) (r0 s : z_M) (c : z_CI s) (f : z_Fr R_X12_clash_309 r0 s) (a1 : Int) (t1 : Int) (b1 : -2147483648 ≤ a1 ∧ a1 ≤ 2147483647) (d1 : 0 ≤ t1 ∧ t1 ≤ 1) (p0 : t1 = 1 ∨ (0 ≤ a1 ∧ a1 < s 309 44)) (p1 : y_L s (s 309 44)) (p2 : y_BK s) (p3 : y_TA s) (p4 : y_DD s) (p5 : y_B s) (p6 : y_K s) (p7 : y_KM s) (p8 : y_YM s) : z_T (fX12_clash_J19 fu s 309 a1 309 t1) (P_X12_clash_309Y r0) := by
  refine T_of (fX12_clash_J19.eq_1 ..) ?_
  have u1 := CI_b c (k := 309) (j := 20) bd_309_20
  have u2 := CI_b c (k := 309) (j := 36) bd_309_36
  have u3 := CI_b c (k := 309) (j := 43) bd_309_43
  have u4 := CI_b c (k := 309) (j := 44) bd_309_44
  have u5 := CI_b c (k := 309) (j := 58) bd_309_58
  have u6 := CI_b c (k := 316) (j := 0) bd_316_0
  have u7 := CI_b c (k := 329) (j := 0) bd_329_0
  have u8 := CI_b c (k := 329) (j := 1) bd_329_1
  have t9 : s 309 20 = r0 309 20 := f 309 20 (by decide)
  have t10 : s 316 0 = r0 316 0 := f 316 0 (by decide)
  have t11 : s 329 0 = r0 329 0 := f 329 0 (by decide)
  have t12 : s 329 1 = r0 329 1 := f 329 1 (by decide)
  refine T_if1 (by decide +kernel) ?_
  refine T_useI (sf_X12_bad_309 hfu s c t1 1 0 (by omega) (by omega) (by omega) (by omega)) (fun v18 s13 hq => ?_)
  obtain ⟨c14, f15, o19, ⟨x17, rfl, b20, b21, o22, o23⟩⟩ := hq
  refine T_vI ?_
  have f16 := z_Fr.tr (R := R_X12_clash_309) f f15 rs_X12_bad_309__X12_clash_309
  have t24 : s13 309 20 = s 309 20 := f15 309 20 (by decide)
  have t25 : s13 309 36 = s 309 36 := f15 309 36 (by decide)
  have t26 : s13 309 43 = s 309 43 := f15 309 43 (by decide)
  have t27 : s13 309 44 = s 309 44 := f15 309 44 (by decide)
  have t28 : s13 309 58 = s 309 58 := f15 309 58 (by decide)
  have t29 : s13 316 0 = s 316 0 := f15 316 0 (by decide)
  have t30 : s13 329 0 = s 329 0 := f15 329 0 (by decide)
  have t31 : s13 329 1 = s 329 1 := f15 329 1 (by decide)
  have r32 := y_L.fr p1 (f15 309 20 (by decide)) (fun b => f15 3438 b (nr_X12_bad_309__3438 b))
  have r33 := y_BK.fr p2 (by omega) (f15 309 20 (by decide)) (f15 309 58 (by decide)) (fun b => f15 3220 b (nr_X12_bad_309__3220 b)) (fun a b h => f15 a b (nz_X12_bad_309__3452_3651 a b h))
  have r34 := y_TA.fr p3 (fun a b h => f15 a b (nz_X12_bad_309__316_328 a b h)) (fun a b h => f15 a b (nz_X12_bad_309__346_358 a b h)) (fun a b h => f15 a b (nz_X12_bad_309__361_373 a b h))
  have r35 := y_DD.fr p4 (f15 329 0 (by decide)) (f15 329 1 (by decide)) (fun b => f15 359 b (nr_X12_bad_309__359 b)) (fun b => f15 374 b (nr_X12_bad_309__374 b))
  have r36 := y_B.fr p5 (f15 309 20 (by decide)) (f15 316 0 (by decide)) (fun b => f15 3220 b (nr_X12_bad_309__3220 b)) (fun b => f15 3221 b (nr_X12_bad_309__3221 b)) (fun b => f15 3222 b (nr_X12_bad_309__3222 b)) (fun b => f15 361 b (nr_X12_bad_309__361 b))
  have r37 := y_K.fr p6 (by omega) (by omega) (f15 309 44 (by decide)) (f15 309 20 (by decide)) (f15 309 58 (by decide)) (fun b => f15 3438 b (nr_X12_bad_309__3438 b)) (fun b => f15 3220 b (nr_X12_bad_309__3220 b)) (fun a b h => f15 a b (nz_X12_bad_309__3452_3651 a b h))
  have r38 := y_KM.fr p7 (f15 309 20 (by decide)) (f15 309 36 (by decide)) (f15 309 38 (by decide)) (f15 309 39 (by decide)) (fun b => f15 312 b (nr_X12_bad_309__312 b)) (fun b => f15 331 b (nr_X12_bad_309__331 b)) (fun b => f15 346 b (nr_X12_bad_309__346 b)) (fun b => f15 361 b (nr_X12_bad_309__361 b)) (fun b => f15 391 b (nr_X12_bad_309__391 b)) (fun a b h => f15 a b (nz_X12_bad_309__407_606 a b h)) (fun a b h => f15 a b (nz_X12_bad_309__3220_3223 a b h)) (fun a b h => f15 a b (nz_X12_bad_309__3235_3437 a b h))
  have r39 := y_YM.fr p8 (by omega) (f15 309 44 (by decide)) (f15 309 20 (by decide)) (f15 309 58 (by decide)) (fun b => f15 312 b (nr_X12_bad_309__312 b)) (fun b => f15 331 b (nr_X12_bad_309__331 b)) (fun b => f15 346 b (nr_X12_bad_309__346 b)) (fun b => f15 361 b (nr_X12_bad_309__361 b)) (fun b => f15 391 b (nr_X12_bad_309__391 b)) (fun a b h => f15 a b (nz_X12_bad_309__407_606 a b h)) (fun a b h => f15 a b (nz_X12_bad_309__3220_3223 a b h)) (fun b => f15 3438 b (nr_X12_bad_309__3438 b)) (fun a b h => f15 a b (nz_X12_bad_309__3441_3450 a b h)) (fun a b h => f15 a b (nz_X12_bad_309__3452_3651 a b h))
  refine T_ite (fun h40 => ?_) (fun h40 => ?_)
  · refine T_if1 (by decide +kernel) ?_
    refine T_useI (sf_X12_clashOf_309 hfu s13 c14 a1 (by omega) r36 (by first | exact r33 | exact y_K.B r37 (by omega) (by omega)) (by first | exact y_L.cg r32 (by omega) | exact y_K.L r37 (by omega) (by omega)) r34 (by omega)) (fun v46 s41 hq => ?_)
    obtain ⟨c42, f43, ⟨x45, rfl, b47, b48⟩⟩ := hq
    refine T_vI ?_
    have f44 := z_Fr.tr (R := R_X12_clash_309) f16 f43 rs_X12_clashOf_309__X12_clash_309
    have t49 : s41 309 20 = s 309 20 := (f43 309 20 (by decide)).trans t24
    have t50 : s41 309 36 = s 309 36 := (f43 309 36 (by decide)).trans t25
    have t51 : s41 309 43 = s 309 43 := (f43 309 43 (by decide)).trans t26
    have t52 : s41 309 44 = s 309 44 := (f43 309 44 (by decide)).trans t27
    have t53 : s41 309 58 = s 309 58 := (f43 309 58 (by decide)).trans t28
    have t54 : s41 316 0 = s 316 0 := (f43 316 0 (by decide)).trans t29
    have t55 : s41 329 0 = s 329 0 := (f43 329 0 (by decide)).trans t30
    have t56 : s41 329 1 = s 329 1 := (f43 329 1 (by decide)).trans t31
    have r57 := y_L.fr r32 (f43 309 20 (by decide)) (fun b => f43 3438 b (nr_X12_clashOf_309__3438 b))
    have r58 := y_BK.fr r33 (by omega) (f43 309 20 (by decide)) (f43 309 58 (by decide)) (fun b => f43 3220 b (nr_X12_clashOf_309__3220 b)) (fun a b h => f43 a b (nz_X12_clashOf_309__3452_3651 a b h))
    have r59 := y_TA.fr r34 (fun a b h => f43 a b (nz_X12_clashOf_309__316_328 a b h)) (fun a b h => f43 a b (nz_X12_clashOf_309__346_358 a b h)) (fun a b h => f43 a b (nz_X12_clashOf_309__361_373 a b h))
    have r60 := y_DD.fr r35 (f43 329 0 (by decide)) (f43 329 1 (by decide)) (fun b => f43 359 b (nr_X12_clashOf_309__359 b)) (fun b => f43 374 b (nr_X12_clashOf_309__374 b))
    have r61 := y_B.fr r36 (f43 309 20 (by decide)) (f43 316 0 (by decide)) (fun b => f43 3220 b (nr_X12_clashOf_309__3220 b)) (fun b => f43 3221 b (nr_X12_clashOf_309__3221 b)) (fun b => f43 3222 b (nr_X12_clashOf_309__3222 b)) (fun b => f43 361 b (nr_X12_clashOf_309__361 b))
    have r62 := y_K.fr r37 (by omega) (by omega) (f43 309 44 (by decide)) (f43 309 20 (by decide)) (f43 309 58 (by decide)) (fun b => f43 3438 b (nr_X12_clashOf_309__3438 b)) (fun b => f43 3220 b (nr_X12_clashOf_309__3220 b)) (fun a b h => f43 a b (nz_X12_clashOf_309__3452_3651 a b h))
    have r63 := y_KM.fr r38 (f43 309 20 (by decide)) (f43 309 36 (by decide)) (f43 309 38 (by decide)) (f43 309 39 (by decide)) (fun b => f43 312 b (nr_X12_clashOf_309__312 b)) (fun b => f43 331 b (nr_X12_clashOf_309__331 b)) (fun b => f43 346 b (nr_X12_clashOf_309__346 b)) (fun b => f43 361 b (nr_X12_clashOf_309__361 b)) (fun b => f43 391 b (nr_X12_clashOf_309__391 b)) (fun a b h => f43 a b (nz_X12_clashOf_309__407_606 a b h)) (fun a b h => f43 a b (nz_X12_clashOf_309__3220_3223 a b h)) (fun a b h => f43 a b (nz_X12_clashOf_309__3235_3437 a b h))
    have r64 := y_YM.fr r39 (by omega) (f43 309 44 (by decide)) (f43 309 20 (by decide)) (f43 309 58 (by decide)) (fun b => f43 312 b (nr_X12_clashOf_309__312 b)) (fun b => f43 331 b (nr_X12_clashOf_309__331 b)) (fun b => f43 346 b (nr_X12_clashOf_309__346 b)) (fun b => f43 361 b (nr_X12_clashOf_309__361 b)) (fun b => f43 391 b (nr_X12_clashOf_309__391 b)) (fun a b h => f43 a b (nz_X12_clashOf_309__407_606 a b h)) (fun a b h => f43 a b (nz_X12_clashOf_309__3220_3223 a b h)) (fun b => f43 3438 b (nr_X12_clashOf_309__3438 b)) (fun a b h => f43 a b (nz_X12_clashOf_309__3441_3450 a b h)) (fun a b h => f43 a b (nz_X12_clashOf_309__3452_3651 a b h))
    clear t24
    clear t25
    clear t26
    clear t27
    clear t28
    clear t29
    clear t30
    clear t31
    exact T_ret ⟨c42, f44, r59, (by first | exact r60 | exact y_DD.z (by omega) (by omega)), r61, (by first | exact r62 | exact y_K.b0 (by omega) | exact y_K.k0 (by omega) | exact y_K.bk (by omega) | exact y_K.mk r57 (by omega) r58), (by first | exact r63 | exact y_KM.z (by omega)), (by first | exact r64 | exact y_YM.b0 (by omega) | exact y_YM.k0 (by omega) | exact y_YM.bk (by omega)), ⟨x45, rfl, by omega, by omega⟩⟩
  · exact T_ret ⟨c14, f16, r34, (by first | exact r35 | exact y_DD.z (by omega) (by omega)), r36, (by first | exact r37 | exact y_K.b0 (by omega) | exact y_K.k0 (by omega) | exact y_K.bk (by omega) | exact y_K.mk r32 (by omega) r33), (by first | exact r38 | exact y_KM.z (by omega)), (by first | exact r39 | exact y_YM.b0 (by omega) | exact y_YM.k0 (by omega) | exact y_YM.bk (by omega)), ⟨0, rfl, by omega, by omega⟩⟩
theorem sf_X12_clash_309Y {fu : Nat} (hfu : 8589934592 ≤ fu) (r0 : z_M) (c0 : z_CI r0) (a1 : Int) (b1 : -2147483648 ≤ a1 ∧ a1 ≤ 2147483647) (p0 : y_TA r0) (p1 : y_DD r0) (p2 : y_B r0) (p3 : y_K r0) (p4 : y_KM r0) (p5 : y_YM r0) : z_T (fX12_clash fu r0 309 a1) (P_X12_clash_309Y r0) := by
  refine T_of (fX12_clash.eq_1 ..) ?_
  have u1 := CI_b c0 (k := 309) (j := 20) bd_309_20
  have u2 := CI_b c0 (k := 309) (j := 36) bd_309_36
  have u3 := CI_b c0 (k := 309) (j := 43) bd_309_43
  have u4 := CI_b c0 (k := 309) (j := 44) bd_309_44
  have u5 := CI_b c0 (k := 309) (j := 58) bd_309_58
  have u6 := CI_b c0 (k := 316) (j := 0) bd_316_0
  have u7 := CI_b c0 (k := 329) (j := 0) bd_329_0
  have u8 := CI_b c0 (k := 329) (j := 1) bd_329_1
  refine T_if1 (by decide +kernel) ?_
  refine T_upg c0 bd_309_0 (by omega) (fun s9 c10 g12 g13 e14 => ?_)
  have f11 := z_Fr.upf (R := R_X12_clash_309) z_Fr.rf g12 g13 (Or.inr (Or.inr (⟨rfl, by decide⟩)))
  have t15 : s9 309 20 = r0 309 20 := g13 20 (by decide)
  have t16 : s9 309 36 = r0 309 36 := g13 36 (by decide)
  have t17 : s9 309 43 = r0 309 43 := g13 43 (by decide)
  have t18 : s9 309 44 = r0 309 44 := g13 44 (by decide)
  have t19 : s9 309 58 = r0 309 58 := g13 58 (by decide)
  have t20 : s9 316 0 = r0 316 0 := g12 316 0 (by decide)
  have t21 : s9 329 0 = r0 329 0 := g12 329 0 (by decide)
  have t22 : s9 329 1 = r0 329 1 := g12 329 1 (by decide)
  have r23 := y_TA.fr p0 (fun a b h => g12 a b (by omega)) (fun a b h => g12 a b (by omega)) (fun a b h => g12 a b (by omega))
  have r24 := y_DD.fr p1 (g12 329 0 (by decide)) (g12 329 1 (by decide)) (fun b => g12 359 b (by decide)) (fun b => g12 374 b (by decide))
  have r25 := y_B.fr p2 (g13 20 (by decide)) (g12 316 0 (by decide)) (fun b => g12 3220 b (by decide)) (fun b => g12 3221 b (by decide)) (fun b => g12 3222 b (by decide)) (fun b => g12 361 b (by decide))
  have r26 := y_K.fr p3 (by omega) (by omega) (g13 44 (by decide)) (g13 20 (by decide)) (g13 58 (by decide)) (fun b => g12 3438 b (by decide)) (fun b => g12 3220 b (by decide)) (fun a b h => g12 a b (by omega))
  have r27 := y_KM.fr p4 (g13 20 (by decide)) (g13 36 (by decide)) (g13 38 (by decide)) (g13 39 (by decide)) (fun b => g12 312 b (by decide)) (fun b => g12 331 b (by decide)) (fun b => g12 346 b (by decide)) (fun b => g12 361 b (by decide)) (fun b => g12 391 b (by decide)) (fun a b h => g12 a b (by omega)) (fun a b h => g12 a b (by omega)) (fun a b h => g12 a b (by omega))
  have r28 := y_YM.fr p5 (by omega) (g13 44 (by decide)) (g13 20 (by decide)) (g13 58 (by decide)) (fun b => g12 312 b (by decide)) (fun b => g12 331 b (by decide)) (fun b => g12 346 b (by decide)) (fun b => g12 361 b (by decide)) (fun b => g12 391 b (by decide)) (fun a b h => g12 a b (by omega)) (fun a b h => g12 a b (by omega)) (fun b => g12 3438 b (by decide)) (fun a b h => g12 a b (by omega)) (fun a b h => g12 a b (by omega))
  refine T_if1 (by decide +kernel) ?_
  refine T_useI (sf_X12_isLine_309Y hfu s9 c10 a1 (by omega) r25 (by first | exact r26 | exact y_K.b0 (by omega) | exact y_K.k0 (by omega) | exact y_K.bk (by omega)) (by first | exact r27 | exact y_KM.z (by omega)) (by first | exact r28 | exact y_YM.b0 (by omega) | exact y_YM.k0 (by omega) | exact y_YM.bk (by omega))) (fun v34 s29 hq => ?_)
  obtain ⟨c30, f31, o35, o36, o37, o38, o39, o40, o41, o42, ⟨x33, rfl, b43, b44, o45⟩⟩ := hq
  refine T_vI ?_
  have f32 := z_Fr.tr (R := R_X12_clash_309) f11 f31 rs_X12_isLine_309__X12_clash_309
  have t46 : s29 309 20 = r0 309 20 := (f31 309 20 (by decide)).trans t15
  have t47 : s29 316 0 = r0 316 0 := (f31 316 0 (by decide)).trans t20
  have t48 : s29 329 0 = r0 329 0 := (f31 329 0 (by decide)).trans t21
  have t49 : s29 329 1 = r0 329 1 := (f31 329 1 (by decide)).trans t22
  have u50 := CI_b c30 (k := 309) (j := 36) bd_309_36
  have u51 := CI_b c30 (k := 309) (j := 43) bd_309_43
  have u52 := CI_b c30 (k := 309) (j := 44) bd_309_44
  have u53 := CI_b c30 (k := 309) (j := 58) bd_309_58
  have r54 := y_TA.fr r23 (fun a b h => f31 a b (nz_X12_isLine_309__316_328 a b h)) (fun a b h => f31 a b (nz_X12_isLine_309__346_358 a b h)) (fun a b h => f31 a b (nz_X12_isLine_309__361_373 a b h))
  have r55 := y_DD.fr r24 (f31 329 0 (by decide)) (f31 329 1 (by decide)) (fun b => f31 359 b (nr_X12_isLine_309__359 b)) (fun b => f31 374 b (nr_X12_isLine_309__374 b))
  have r56 := y_B.fr r25 (f31 309 20 (by decide)) (f31 316 0 (by decide)) (fun b => f31 3220 b (nr_X12_isLine_309__3220 b)) (fun b => f31 3221 b (nr_X12_isLine_309__3221 b)) (fun b => f31 3222 b (nr_X12_isLine_309__3222 b)) (fun b => f31 361 b (nr_X12_isLine_309__361 b))
  clear t15
  clear t20
  clear t21
  clear t22
  refine T_ite (fun h57 => ?_) (fun h57 => ?_)
  · exact sj_X12_clash_309Y_J19 hfu r0 s29 c30 f32 a1 0 (by omega) (by omega) (by omega) (by first | exact y_L.cg o36 (by omega) | exact y_K.L o35 (by omega) (by omega)) (by first | exact o37 | exact y_K.B o35 (by omega) (by omega)) r54 (by first | exact r55 | exact y_DD.z (by omega) (by omega)) r56 (by first | exact o35 | exact y_K.b0 (by omega) | exact y_K.k0 (by omega) | exact y_K.bk (by omega) | exact y_K.mk o36 (by omega) o37) (by first | exact o41 | exact y_KM.z (by omega)) (by first | exact o42 | exact y_YM.b0 (by omega) | exact y_YM.k0 (by omega) | exact y_YM.bk (by omega))
  · exact sj_X12_clash_309Y_J19 hfu r0 s29 c30 f32 a1 1 (by omega) (by omega) (by omega) (by first | exact y_L.cg o36 (by omega) | exact y_K.L o35 (by omega) (by omega)) (by first | exact o37 | exact y_K.B o35 (by omega) (by omega)) r54 (by first | exact r55 | exact y_DD.z (by omega) (by omega)) r56 (by first | exact o35 | exact y_K.b0 (by omega) | exact y_K.k0 (by omega) | exact y_K.bk (by omega) | exact y_K.mk o36 (by omega) o37) (by first | exact o41 | exact y_KM.z (by omega)) (by first | exact o42 | exact y_YM.b0 (by omega) | exact y_YM.k0 (by omega) | exact y_YM.bk (by omega))
abbrev P_X12_thick_309Y (r0 : z_M) : z_V → z_M → Prop := fun v s' => z_CI s' ∧ z_Fr R_X12_thick_309 r0 s' ∧ (y_TA s') ∧ (y_DD s') ∧ (y_B s') ∧ (y_K s') ∧ (y_KM s') ∧ (y_YM s') ∧ (∃ x, v = vI x ∧ -2147483648 ≤ x ∧ x ≤ 2147483647)
theorem sj_X12_thick_309Y_J54 {fu : Nat} (hfu : 8589934592 ≤ fu) (r0 s : z_M) (c : z_CI s) (f : z_Fr R_X12_thick_309 r0 s) (p0 : y_TA s) (p1 : y_DD s) (p2 : y_B s) (p3 : y_K s) (p4 : y_KM s) (p5 : y_YM s) : z_T (fX12_thick_J54 fu s) (P_X12_thick_309Y r0) := by
  refine T_of (fX12_thick_J54.eq_1 ..) ?_
  have u1 := CI_b c (k := 309) (j := 20) bd_309_20
  have u2 := CI_b c (k := 309) (j := 36) bd_309_36
  have u3 := CI_b c (k := 309) (j := 43) bd_309_43
  have u4 := CI_b c (k := 309) (j := 44) bd_309_44
  have u5 := CI_b c (k := 309) (j := 58) bd_309_58
  have u6 := CI_b c (k := 316) (j := 0) bd_316_0
  have u7 := CI_b c (k := 329) (j := 0) bd_329_0
  have u8 := CI_b c (k := 329) (j := 1) bd_329_1
  have t9 : s 309 20 = r0 309 20 := f 309 20 (by decide)
  have t10 : s 316 0 = r0 316 0 := f 316 0 (by decide)
  have t11 : s 329 0 = r0 329 0 := f 329 0 (by decide)
  have t12 : s 329 1 = r0 329 1 := f 329 1 (by decide)
  exact T_ret ⟨c, f, p0, (by first | exact p1 | exact y_DD.z (by omega) (by omega)), p2, (by first | exact p3 | exact y_K.b0 (by omega) | exact y_K.k0 (by omega) | exact y_K.bk (by omega)), (by first | exact p4 | exact y_KM.z (by omega)), (by first | exact p5 | exact y_YM.b0 (by omega) | exact y_YM.k0 (by omega) | exact y_YM.bk (by omega)), ⟨0, rfl, by omega, by omega⟩⟩
theorem nz_X12_thickOf_309__3441_3450 (a b : Int) (h : 3441 ≤ a ∧ a ≤ 3450) : ¬ R_X12_thickOf_309 a b := by
  unfold R_X12_thickOf_309; omega
set_option maxHeartbeats 4000000 in
theorem sj_X12_thick_309Y_J46 {fu : Nat} (hfu : 8589934592 ≤ fu) (r0 s : z_M) (c : z_CI s) (f : z_Fr R_X12_thick_309 r0 s) (a1 : Int) (a2 : Int) (t1 : Int) (b1 : -2147483648 ≤ a1 ∧ a1 ≤ 2147483647) (b2 : -2147483648 ≤ a2 ∧ a2 ≤ 2147483647) (d1 : 0 ≤ t1 ∧ t1 ≤ 1) (p0 : 0 ≤ a1 ∧ a1 < s 309 44 ∧ 0 ≤ a2 ∧ a2 < s 309 44) (p1 : t1 = 1 ∨ a1 ≤ a2) (p2 : y_L s (s 309 44)) (p3 : y_BK s) (p4 : y_TA s) (p5 : y_DD s) (p6 : y_B s) (p7 : y_K s) (p8 : y_KM s) (p9 : y_YM s) : z_T (fX12_thick_J46 fu s 309 a1 a2 309 t1) (P_X12_thick_309Y r0) := by
  refine T_of (fX12_thick_J46.eq_1 ..) ?_
  have u1 := CI_b c (k := 309) (j := 20) bd_309_20
  have u2 := CI_b c (k := 309) (j := 36) bd_309_36
  have u3 := CI_b c (k := 309) (j := 43) bd_309_43
  have u4 := CI_b c (k := 309) (j := 44) bd_309_44
  have u5 := CI_b c (k := 309) (j := 58) bd_309_58
  have u6 := CI_b c (k := 316) (j := 0) bd_316_0
  have u7 := CI_b c (k := 329) (j := 0) bd_329_0
  have u8 := CI_b c (k := 329) (j := 1) bd_329_1
  have t9 : s 309 20 = r0 309 20 := f 309 20 (by decide)
  have t10 : s 316 0 = r0 316 0 := f 316 0 (by decide)
  have t11 : s 329 0 = r0 329 0 := f 329 0 (by decide)
  have t12 : s 329 1 = r0 329 1 := f 329 1 (by decide)
  refine T_if1 (by decide +kernel) ?_
  refine T_useI (sf_X12_bad_309 hfu s c t1 2 1 (by omega) (by omega) (by omega) (by omega)) (fun v18 s13 hq => ?_)
  obtain ⟨c14, f15, o19, ⟨x17, rfl, b20, b21, o22, o23⟩⟩ := hq
  refine T_vI ?_
  have f16 := z_Fr.tr (R := R_X12_thick_309) f f15 rs_X12_bad_309__X12_thick_309
  have t24 : s13 309 20 = s 309 20 := f15 309 20 (by decide)
  have t25 : s13 309 36 = s 309 36 := f15 309 36 (by decide)
  have t26 : s13 309 43 = s 309 43 := f15 309 43 (by decide)
  have t27 : s13 309 44 = s 309 44 := f15 309 44 (by decide)
  have t28 : s13 309 58 = s 309 58 := f15 309 58 (by decide)
  have t29 : s13 316 0 = s 316 0 := f15 316 0 (by decide)
  have t30 : s13 329 0 = s 329 0 := f15 329 0 (by decide)
  have t31 : s13 329 1 = s 329 1 := f15 329 1 (by decide)
  have r32 := y_L.fr p2 (f15 309 20 (by decide)) (fun b => f15 3438 b (nr_X12_bad_309__3438 b))
  have r33 := y_BK.fr p3 (by omega) (f15 309 20 (by decide)) (f15 309 58 (by decide)) (fun b => f15 3220 b (nr_X12_bad_309__3220 b)) (fun a b h => f15 a b (nz_X12_bad_309__3452_3651 a b h))
  have r34 := y_TA.fr p4 (fun a b h => f15 a b (nz_X12_bad_309__316_328 a b h)) (fun a b h => f15 a b (nz_X12_bad_309__346_358 a b h)) (fun a b h => f15 a b (nz_X12_bad_309__361_373 a b h))
  have r35 := y_DD.fr p5 (f15 329 0 (by decide)) (f15 329 1 (by decide)) (fun b => f15 359 b (nr_X12_bad_309__359 b)) (fun b => f15 374 b (nr_X12_bad_309__374 b))
  have r36 := y_B.fr p6 (f15 309 20 (by decide)) (f15 316 0 (by decide)) (fun b => f15 3220 b (nr_X12_bad_309__3220 b)) (fun b => f15 3221 b (nr_X12_bad_309__3221 b)) (fun b => f15 3222 b (nr_X12_bad_309__3222 b)) (fun b => f15 361 b (nr_X12_bad_309__361 b))
  have r37 := y_K.fr p7 (by omega) (by omega) (f15 309 44 (by decide)) (f15 309 20 (by decide)) (f15 309 58 (by decide)) (fun b => f15 3438 b (nr_X12_bad_309__3438 b)) (fun b => f15 3220 b (nr_X12_bad_309__3220 b)) (fun a b h => f15 a b (nz_X12_bad_309__3452_3651 a b h))
  have r38 := y_KM.fr p8 (f15 309 20 (by decide)) (f15 309 36 (by decide)) (f15 309 38 (by decide)) (f15 309 39 (by decide)) (fun b => f15 312 b (nr_X12_bad_309__312 b)) (fun b => f15 331 b (nr_X12_bad_309__331 b)) (fun b => f15 346 b (nr_X12_bad_309__346 b)) (fun b => f15 361 b (nr_X12_bad_309__361 b)) (fun b => f15 391 b (nr_X12_bad_309__391 b)) (fun a b h => f15 a b (nz_X12_bad_309__407_606 a b h)) (fun a b h => f15 a b (nz_X12_bad_309__3220_3223 a b h)) (fun a b h => f15 a b (nz_X12_bad_309__3235_3437 a b h))
  have r39 := y_YM.fr p9 (by omega) (f15 309 44 (by decide)) (f15 309 20 (by decide)) (f15 309 58 (by decide)) (fun b => f15 312 b (nr_X12_bad_309__312 b)) (fun b => f15 331 b (nr_X12_bad_309__331 b)) (fun b => f15 346 b (nr_X12_bad_309__346 b)) (fun b => f15 361 b (nr_X12_bad_309__361 b)) (fun b => f15 391 b (nr_X12_bad_309__391 b)) (fun a b h => f15 a b (nz_X12_bad_309__407_606 a b h)) (fun a b h => f15 a b (nz_X12_bad_309__3220_3223 a b h)) (fun b => f15 3438 b (nr_X12_bad_309__3438 b)) (fun a b h => f15 a b (nz_X12_bad_309__3441_3450 a b h)) (fun a b h => f15 a b (nz_X12_bad_309__3452_3651 a b h))
  refine T_ite (fun h40 => ?_) (fun h40 => ?_)
  · refine T_if1 (by decide +kernel) ?_
    refine T_useI (sf_X12_thickOf_309 hfu s13 c14 a1 a2 (by omega) (by omega) r36 (by first | exact r33 | exact y_K.B r37 (by omega) (by omega)) (by first | exact y_L.cg r32 (by omega) | exact y_K.L r37 (by omega) (by omega)) r34 (by omega) (by omega)) (fun v46 s41 hq => ?_)
    obtain ⟨c42, f43, ⟨x45, rfl, b47, b48⟩⟩ := hq
    refine T_vI ?_
    have f44 := z_Fr.tr (R := R_X12_thick_309) f16 f43 rs_X12_thickOf_309__X12_thick_309
    have t49 : s41 309 20 = s 309 20 := (f43 309 20 (by decide)).trans t24
    have t50 : s41 309 36 = s 309 36 := (f43 309 36 (by decide)).trans t25
    have t51 : s41 309 43 = s 309 43 := (f43 309 43 (by decide)).trans t26
    have t52 : s41 309 44 = s 309 44 := (f43 309 44 (by decide)).trans t27
    have t53 : s41 309 58 = s 309 58 := (f43 309 58 (by decide)).trans t28
    have t54 : s41 316 0 = s 316 0 := (f43 316 0 (by decide)).trans t29
    have t55 : s41 329 0 = s 329 0 := (f43 329 0 (by decide)).trans t30
    have t56 : s41 329 1 = s 329 1 := (f43 329 1 (by decide)).trans t31
    have r57 := y_L.fr r32 (f43 309 20 (by decide)) (fun b => f43 3438 b (nr_X12_thickOf_309__3438 b))
    have r58 := y_BK.fr r33 (by omega) (f43 309 20 (by decide)) (f43 309 58 (by decide)) (fun b => f43 3220 b (nr_X12_thickOf_309__3220 b)) (fun a b h => f43 a b (nz_X12_thickOf_309__3452_3651 a b h))
    have r59 := y_TA.fr r34 (fun a b h => f43 a b (nz_X12_thickOf_309__316_328 a b h)) (fun a b h => f43 a b (nz_X12_thickOf_309__346_358 a b h)) (fun a b h => f43 a b (nz_X12_thickOf_309__361_373 a b h))
    have r60 := y_DD.fr r35 (f43 329 0 (by decide)) (f43 329 1 (by decide)) (fun b => f43 359 b (nr_X12_thickOf_309__359 b)) (fun b => f43 374 b (nr_X12_thickOf_309__374 b))
    have r61 := y_B.fr r36 (f43 309 20 (by decide)) (f43 316 0 (by decide)) (fun b => f43 3220 b (nr_X12_thickOf_309__3220 b)) (fun b => f43 3221 b (nr_X12_thickOf_309__3221 b)) (fun b => f43 3222 b (nr_X12_thickOf_309__3222 b)) (fun b => f43 361 b (nr_X12_thickOf_309__361 b))
    have r62 := y_K.fr r37 (by omega) (by omega) (f43 309 44 (by decide)) (f43 309 20 (by decide)) (f43 309 58 (by decide)) (fun b => f43 3438 b (nr_X12_thickOf_309__3438 b)) (fun b => f43 3220 b (nr_X12_thickOf_309__3220 b)) (fun a b h => f43 a b (nz_X12_thickOf_309__3452_3651 a b h))
    have r63 := y_KM.fr r38 (f43 309 20 (by decide)) (f43 309 36 (by decide)) (f43 309 38 (by decide)) (f43 309 39 (by decide)) (fun b => f43 312 b (nr_X12_thickOf_309__312 b)) (fun b => f43 331 b (nr_X12_thickOf_309__331 b)) (fun b => f43 346 b (nr_X12_thickOf_309__346 b)) (fun b => f43 361 b (nr_X12_thickOf_309__361 b)) (fun b => f43 391 b (nr_X12_thickOf_309__391 b)) (fun a b h => f43 a b (nz_X12_thickOf_309__407_606 a b h)) (fun a b h => f43 a b (nz_X12_thickOf_309__3220_3223 a b h)) (fun a b h => f43 a b (nz_X12_thickOf_309__3235_3437 a b h))
    have r64 := y_YM.fr r39 (by omega) (f43 309 44 (by decide)) (f43 309 20 (by decide)) (f43 309 58 (by decide)) (fun b => f43 312 b (nr_X12_thickOf_309__312 b)) (fun b => f43 331 b (nr_X12_thickOf_309__331 b)) (fun b => f43 346 b (nr_X12_thickOf_309__346 b)) (fun b => f43 361 b (nr_X12_thickOf_309__361 b)) (fun b => f43 391 b (nr_X12_thickOf_309__391 b)) (fun a b h => f43 a b (nz_X12_thickOf_309__407_606 a b h)) (fun a b h => f43 a b (nz_X12_thickOf_309__3220_3223 a b h)) (fun b => f43 3438 b (nr_X12_thickOf_309__3438 b)) (fun a b h => f43 a b (nz_X12_thickOf_309__3441_3450 a b h)) (fun a b h => f43 a b (nz_X12_thickOf_309__3452_3651 a b h))
    clear t24
    clear t25
    clear t26
    clear t27
    clear t28
    clear t29
    clear t30
    clear t31
    exact T_ret ⟨c42, f44, r59, (by first | exact r60 | exact y_DD.z (by omega) (by omega)), r61, (by first | exact r62 | exact y_K.b0 (by omega) | exact y_K.k0 (by omega) | exact y_K.bk (by omega) | exact y_K.mk r57 (by omega) r58), (by first | exact r63 | exact y_KM.z (by omega)), (by first | exact r64 | exact y_YM.b0 (by omega) | exact y_YM.k0 (by omega) | exact y_YM.bk (by omega)), ⟨x45, rfl, by omega, by omega⟩⟩
  · exact sj_X12_thick_309Y_J54 hfu r0 s13 c14 f16 r34 (by first | exact r35 | exact y_DD.z (by omega) (by omega)) r36 (by first | exact r37 | exact y_K.b0 (by omega) | exact y_K.k0 (by omega) | exact y_K.bk (by omega) | exact y_K.mk r32 (by omega) r33) (by first | exact r38 | exact y_KM.z (by omega)) (by first | exact r39 | exact y_YM.b0 (by omega) | exact y_YM.k0 (by omega) | exact y_YM.bk (by omega))
theorem sj_X12_thick_309Y_J27 {fu : Nat} (hfu : 8589934592 ≤ fu) (r0 s : z_M) (c : z_CI s) (f : z_Fr R_X12_thick_309 r0 s) (a1 : Int) (a2 : Int) (t1 : Int) (b1 : -2147483648 ≤ a1 ∧ a1 ≤ 2147483647) (b2 : -2147483648 ≤ a2 ∧ a2 ≤ 2147483647) (d1 : 0 ≤ t1 ∧ t1 ≤ 1) (p0 : t1 = 1 ∨ (0 ≤ a1 ∧ a1 < s 309 44 ∧ 0 ≤ a2 ∧ a2 < s 309 44)) (p1 : y_L s (s 309 44)) (p2 : y_BK s) (p3 : y_TA s) (p4 : y_DD s) (p5 : y_B s) (p6 : y_K s) (p7 : y_KM s) (p8 : y_YM s) : z_T (fX12_thick_J27 fu s 309 a1 a2 309 t1) (P_X12_thick_309Y r0) := by
  refine T_of (fX12_thick_J27.eq_1 ..) ?_
  have u1 := CI_b c (k := 309) (j := 20) bd_309_20
  have u2 := CI_b c (k := 309) (j := 36) bd_309_36
  have u3 := CI_b c (k := 309) (j := 43) bd_309_43
  have u4 := CI_b c (k := 309) (j := 44) bd_309_44
  have u5 := CI_b c (k := 309) (j := 58) bd_309_58
  have u6 := CI_b c (k := 316) (j := 0) bd_316_0
  have u7 := CI_b c (k := 329) (j := 0) bd_329_0
  have u8 := CI_b c (k := 329) (j := 1) bd_329_1
  have t9 : s 309 20 = r0 309 20 := f 309 20 (by decide)
  have t10 : s 316 0 = r0 316 0 := f 316 0 (by decide)
  have t11 : s 329 0 = r0 329 0 := f 329 0 (by decide)
  have t12 : s 329 1 = r0 329 1 := f 329 1 (by decide)
  refine T_if1 (by decide +kernel) ?_
  refine T_useI (sf_X12_bad_309 hfu s c t1 1 0 (by omega) (by omega) (by omega) (by omega)) (fun v18 s13 hq => ?_)
  obtain ⟨c14, f15, o19, ⟨x17, rfl, b20, b21, o22, o23⟩⟩ := hq
  refine T_vI ?_
  have f16 := z_Fr.tr (R := R_X12_thick_309) f f15 rs_X12_bad_309__X12_thick_309
  have t24 : s13 309 20 = s 309 20 := f15 309 20 (by decide)
  have t25 : s13 309 36 = s 309 36 := f15 309 36 (by decide)
  have t26 : s13 309 43 = s 309 43 := f15 309 43 (by decide)
  have t27 : s13 309 44 = s 309 44 := f15 309 44 (by decide)
  have t28 : s13 309 58 = s 309 58 := f15 309 58 (by decide)
  have t29 : s13 316 0 = s 316 0 := f15 316 0 (by decide)
  have t30 : s13 329 0 = s 329 0 := f15 329 0 (by decide)
  have t31 : s13 329 1 = s 329 1 := f15 329 1 (by decide)
  have r32 := y_L.fr p1 (f15 309 20 (by decide)) (fun b => f15 3438 b (nr_X12_bad_309__3438 b))
  have r33 := y_BK.fr p2 (by omega) (f15 309 20 (by decide)) (f15 309 58 (by decide)) (fun b => f15 3220 b (nr_X12_bad_309__3220 b)) (fun a b h => f15 a b (nz_X12_bad_309__3452_3651 a b h))
  have r34 := y_TA.fr p3 (fun a b h => f15 a b (nz_X12_bad_309__316_328 a b h)) (fun a b h => f15 a b (nz_X12_bad_309__346_358 a b h)) (fun a b h => f15 a b (nz_X12_bad_309__361_373 a b h))
  have r35 := y_DD.fr p4 (f15 329 0 (by decide)) (f15 329 1 (by decide)) (fun b => f15 359 b (nr_X12_bad_309__359 b)) (fun b => f15 374 b (nr_X12_bad_309__374 b))
  have r36 := y_B.fr p5 (f15 309 20 (by decide)) (f15 316 0 (by decide)) (fun b => f15 3220 b (nr_X12_bad_309__3220 b)) (fun b => f15 3221 b (nr_X12_bad_309__3221 b)) (fun b => f15 3222 b (nr_X12_bad_309__3222 b)) (fun b => f15 361 b (nr_X12_bad_309__361 b))
  have r37 := y_K.fr p6 (by omega) (by omega) (f15 309 44 (by decide)) (f15 309 20 (by decide)) (f15 309 58 (by decide)) (fun b => f15 3438 b (nr_X12_bad_309__3438 b)) (fun b => f15 3220 b (nr_X12_bad_309__3220 b)) (fun a b h => f15 a b (nz_X12_bad_309__3452_3651 a b h))
  have r38 := y_KM.fr p7 (f15 309 20 (by decide)) (f15 309 36 (by decide)) (f15 309 38 (by decide)) (f15 309 39 (by decide)) (fun b => f15 312 b (nr_X12_bad_309__312 b)) (fun b => f15 331 b (nr_X12_bad_309__331 b)) (fun b => f15 346 b (nr_X12_bad_309__346 b)) (fun b => f15 361 b (nr_X12_bad_309__361 b)) (fun b => f15 391 b (nr_X12_bad_309__391 b)) (fun a b h => f15 a b (nz_X12_bad_309__407_606 a b h)) (fun a b h => f15 a b (nz_X12_bad_309__3220_3223 a b h)) (fun a b h => f15 a b (nz_X12_bad_309__3235_3437 a b h))
  have r39 := y_YM.fr p8 (by omega) (f15 309 44 (by decide)) (f15 309 20 (by decide)) (f15 309 58 (by decide)) (fun b => f15 312 b (nr_X12_bad_309__312 b)) (fun b => f15 331 b (nr_X12_bad_309__331 b)) (fun b => f15 346 b (nr_X12_bad_309__346 b)) (fun b => f15 361 b (nr_X12_bad_309__361 b)) (fun b => f15 391 b (nr_X12_bad_309__391 b)) (fun a b h => f15 a b (nz_X12_bad_309__407_606 a b h)) (fun a b h => f15 a b (nz_X12_bad_309__3220_3223 a b h)) (fun b => f15 3438 b (nr_X12_bad_309__3438 b)) (fun a b h => f15 a b (nz_X12_bad_309__3441_3450 a b h)) (fun a b h => f15 a b (nz_X12_bad_309__3452_3651 a b h))
  refine T_ite (fun h40 => ?_) (fun h40 => ?_)
  · exact sj_X12_thick_309Y_J54 hfu r0 s13 c14 f16 r34 (by first | exact r35 | exact y_DD.z (by omega) (by omega)) r36 (by first | exact r37 | exact y_K.b0 (by omega) | exact y_K.k0 (by omega) | exact y_K.bk (by omega) | exact y_K.mk r32 (by omega) r33) (by first | exact r38 | exact y_KM.z (by omega)) (by first | exact r39 | exact y_YM.b0 (by omega) | exact y_YM.k0 (by omega) | exact y_YM.bk (by omega))
  · refine T_ite (fun h41 => ?_) (fun h41 => ?_)
    · exact sj_X12_thick_309Y_J46 hfu r0 s13 c14 f16 a1 a2 0 (by omega) (by omega) (by omega) (by omega) (by omega) (by first | exact y_L.cg r32 (by omega) | exact y_K.L r37 (by omega) (by omega)) (by first | exact r33 | exact y_K.B r37 (by omega) (by omega)) r34 (by first | exact r35 | exact y_DD.z (by omega) (by omega)) r36 (by first | exact r37 | exact y_K.b0 (by omega) | exact y_K.k0 (by omega) | exact y_K.bk (by omega) | exact y_K.mk r32 (by omega) r33) (by first | exact r38 | exact y_KM.z (by omega)) (by first | exact r39 | exact y_YM.b0 (by omega) | exact y_YM.k0 (by omega) | exact y_YM.bk (by omega))
    · exact sj_X12_thick_309Y_J46 hfu r0 s13 c14 f16 a1 a2 1 (by omega) (by omega) (by omega) (by omega) (by omega) (by first | exact y_L.cg r32 (by omega) | exact y_K.L r37 (by omega) (by omega)) (by first | exact r33 | exact y_K.B r37 (by omega) (by omega)) r34 (by first | exact r35 | exact y_DD.z (by omega) (by omega)) r36 (by first | exact r37 | exact y_K.b0 (by omega) | exact y_K.k0 (by omega) | exact y_K.bk (by omega) | exact y_K.mk r32 (by omega) r33) (by first | exact r38 | exact y_KM.z (by omega)) (by first | exact r39 | exact y_YM.b0 (by omega) | exact y_YM.k0 (by omega) | exact y_YM.bk (by omega))
theorem sj_X12_thick_309Y_J22 {fu : Nat} (hfu : 8589934592 ≤ fu) (r0 s : z_M) (c : z_CI s) (f : z_Fr R_X12_thick_309 r0 s) (a1 : Int) (a2 : Int) (b1 : -2147483648 ≤ a1 ∧ a1 ≤ 2147483647) (b2 : -2147483648 ≤ a2 ∧ a2 ≤ 2147483647) (p0 : y_L s (s 309 44)) (p1 : y_BK s) (p2 : y_TA s) (p3 : y_DD s) (p4 : y_B s) (p5 : y_K s) (p6 : y_KM s) (p7 : y_YM s) : z_T (fX12_thick_J22 fu s 309 a1 a2 309) (P_X12_thick_309Y r0) := by
  refine T_of (fX12_thick_J22.eq_1 ..) ?_
  have u1 := CI_b c (k := 309) (j := 20) bd_309_20
  have u2 := CI_b c (k := 309) (j := 36) bd_309_36
  have u3 := CI_b c (k := 309) (j := 43) bd_309_43
  have u4 := CI_b c (k := 309) (j := 44) bd_309_44
  have u5 := CI_b c (k := 309) (j := 58) bd_309_58
  have u6 := CI_b c (k := 316) (j := 0) bd_316_0
  have u7 := CI_b c (k := 329) (j := 0) bd_329_0
  have u8 := CI_b c (k := 329) (j := 1) bd_329_1
  have t9 : s 309 20 = r0 309 20 := f 309 20 (by decide)
  have t10 : s 316 0 = r0 316 0 := f 316 0 (by decide)
  have t11 : s 329 0 = r0 329 0 := f 329 0 (by decide)
  have t12 : s 329 1 = r0 329 1 := f 329 1 (by decide)
  exact sj_X12_thick_309Y_J27 hfu r0 s c f a1 a2 1 (by omega) (by omega) (by omega) (by omega) (by first | exact y_L.cg p0 (by omega) | exact y_K.L p5 (by omega) (by omega)) (by first | exact p1 | exact y_K.B p5 (by omega) (by omega)) p2 (by first | exact p3 | exact y_DD.z (by omega) (by omega)) p4 (by first | exact p5 | exact y_K.b0 (by omega) | exact y_K.k0 (by omega) | exact y_K.bk (by omega) | exact y_K.mk p0 (by omega) p1) (by first | exact p6 | exact y_KM.z (by omega)) (by first | exact p7 | exact y_YM.b0 (by omega) | exact y_YM.k0 (by omega) | exact y_YM.bk (by omega))
set_option maxHeartbeats 4000000 in
theorem sf_X12_thick_309Y {fu : Nat} (hfu : 8589934592 ≤ fu) (r0 : z_M) (c0 : z_CI r0) (a1 : Int) (a2 : Int) (b1 : -2147483648 ≤ a1 ∧ a1 ≤ 2147483647) (b2 : -2147483648 ≤ a2 ∧ a2 ≤ 2147483647) (p0 : y_TA r0) (p1 : y_DD r0) (p2 : y_B r0) (p3 : y_K r0) (p4 : y_KM r0) (p5 : y_YM r0) : z_T (fX12_thick fu r0 309 a1 a2) (P_X12_thick_309Y r0) := by
  refine T_of (fX12_thick.eq_1 ..) ?_
  have u1 := CI_b c0 (k := 309) (j := 20) bd_309_20
  have u2 := CI_b c0 (k := 309) (j := 36) bd_309_36
  have u3 := CI_b c0 (k := 309) (j := 43) bd_309_43
  have u4 := CI_b c0 (k := 309) (j := 44) bd_309_44
  have u5 := CI_b c0 (k := 309) (j := 58) bd_309_58
  have u6 := CI_b c0 (k := 316) (j := 0) bd_316_0
  have u7 := CI_b c0 (k := 329) (j := 0) bd_329_0
  have u8 := CI_b c0 (k := 329) (j := 1) bd_329_1
  refine T_if1 (by decide +kernel) ?_
  refine T_upg c0 bd_309_0 (by omega) (fun s9 c10 g12 g13 e14 => ?_)
  have f11 := z_Fr.upf (R := R_X12_thick_309) z_Fr.rf g12 g13 (Or.inr (Or.inr (⟨rfl, by decide⟩)))
  have t15 : s9 309 20 = r0 309 20 := g13 20 (by decide)
  have t16 : s9 309 36 = r0 309 36 := g13 36 (by decide)
  have t17 : s9 309 43 = r0 309 43 := g13 43 (by decide)
  have t18 : s9 309 44 = r0 309 44 := g13 44 (by decide)
  have t19 : s9 309 58 = r0 309 58 := g13 58 (by decide)
  have t20 : s9 316 0 = r0 316 0 := g12 316 0 (by decide)
  have t21 : s9 329 0 = r0 329 0 := g12 329 0 (by decide)
  have t22 : s9 329 1 = r0 329 1 := g12 329 1 (by decide)
  have r23 := y_TA.fr p0 (fun a b h => g12 a b (by omega)) (fun a b h => g12 a b (by omega)) (fun a b h => g12 a b (by omega))
  have r24 := y_DD.fr p1 (g12 329 0 (by decide)) (g12 329 1 (by decide)) (fun b => g12 359 b (by decide)) (fun b => g12 374 b (by decide))
  have r25 := y_B.fr p2 (g13 20 (by decide)) (g12 316 0 (by decide)) (fun b => g12 3220 b (by decide)) (fun b => g12 3221 b (by decide)) (fun b => g12 3222 b (by decide)) (fun b => g12 361 b (by decide))
  have r26 := y_K.fr p3 (by omega) (by omega) (g13 44 (by decide)) (g13 20 (by decide)) (g13 58 (by decide)) (fun b => g12 3438 b (by decide)) (fun b => g12 3220 b (by decide)) (fun a b h => g12 a b (by omega))
  have r27 := y_KM.fr p4 (g13 20 (by decide)) (g13 36 (by decide)) (g13 38 (by decide)) (g13 39 (by decide)) (fun b => g12 312 b (by decide)) (fun b => g12 331 b (by decide)) (fun b => g12 346 b (by decide)) (fun b => g12 361 b (by decide)) (fun b => g12 391 b (by decide)) (fun a b h => g12 a b (by omega)) (fun a b h => g12 a b (by omega)) (fun a b h => g12 a b (by omega))
  have r28 := y_YM.fr p5 (by omega) (g13 44 (by decide)) (g13 20 (by decide)) (g13 58 (by decide)) (fun b => g12 312 b (by decide)) (fun b => g12 331 b (by decide)) (fun b => g12 346 b (by decide)) (fun b => g12 361 b (by decide)) (fun b => g12 391 b (by decide)) (fun a b h => g12 a b (by omega)) (fun a b h => g12 a b (by omega)) (fun b => g12 3438 b (by decide)) (fun a b h => g12 a b (by omega)) (fun a b h => g12 a b (by omega))
  refine T_if1 (by decide +kernel) ?_
  refine T_useI (sf_X12_isLine_309Y hfu s9 c10 a1 (by omega) r25 (by first | exact r26 | exact y_K.b0 (by omega) | exact y_K.k0 (by omega) | exact y_K.bk (by omega)) (by first | exact r27 | exact y_KM.z (by omega)) (by first | exact r28 | exact y_YM.b0 (by omega) | exact y_YM.k0 (by omega) | exact y_YM.bk (by omega))) (fun v34 s29 hq => ?_)
  obtain ⟨c30, f31, o35, o36, o37, o38, o39, o40, o41, o42, ⟨x33, rfl, b43, b44, o45⟩⟩ := hq
  refine T_vI ?_
  have f32 := z_Fr.tr (R := R_X12_thick_309) f11 f31 rs_X12_isLine_309__X12_thick_309
  have t46 : s29 309 20 = r0 309 20 := (f31 309 20 (by decide)).trans t15
  have t47 : s29 316 0 = r0 316 0 := (f31 316 0 (by decide)).trans t20
  have t48 : s29 329 0 = r0 329 0 := (f31 329 0 (by decide)).trans t21
  have t49 : s29 329 1 = r0 329 1 := (f31 329 1 (by decide)).trans t22
  have u50 := CI_b c30 (k := 309) (j := 36) bd_309_36
  have u51 := CI_b c30 (k := 309) (j := 43) bd_309_43
  have u52 := CI_b c30 (k := 309) (j := 44) bd_309_44
  have u53 := CI_b c30 (k := 309) (j := 58) bd_309_58
  have r54 := y_TA.fr r23 (fun a b h => f31 a b (nz_X12_isLine_309__316_328 a b h)) (fun a b h => f31 a b (nz_X12_isLine_309__346_358 a b h)) (fun a b h => f31 a b (nz_X12_isLine_309__361_373 a b h))
  have r55 := y_DD.fr r24 (f31 329 0 (by decide)) (f31 329 1 (by decide)) (fun b => f31 359 b (nr_X12_isLine_309__359 b)) (fun b => f31 374 b (nr_X12_isLine_309__374 b))
  have r56 := y_B.fr r25 (f31 309 20 (by decide)) (f31 316 0 (by decide)) (fun b => f31 3220 b (nr_X12_isLine_309__3220 b)) (fun b => f31 3221 b (nr_X12_isLine_309__3221 b)) (fun b => f31 3222 b (nr_X12_isLine_309__3222 b)) (fun b => f31 361 b (nr_X12_isLine_309__361 b))
  clear t15
  clear t20
  clear t21
  clear t22
  refine T_ite (fun h57 => ?_) (fun h57 => ?_)
  · exact sj_X12_thick_309Y_J22 hfu r0 s29 c30 f32 a1 a2 (by omega) (by omega) (by first | exact y_L.cg o36 (by omega) | exact y_K.L o35 (by omega) (by omega)) (by first | exact o37 | exact y_K.B o35 (by omega) (by omega)) r54 (by first | exact r55 | exact y_DD.z (by omega) (by omega)) r56 (by first | exact o35 | exact y_K.b0 (by omega) | exact y_K.k0 (by omega) | exact y_K.bk (by omega) | exact y_K.mk o36 (by omega) o37) (by first | exact o41 | exact y_KM.z (by omega)) (by first | exact o42 | exact y_YM.b0 (by omega) | exact y_YM.k0 (by omega) | exact y_YM.bk (by omega))
  · refine T_if1 (by decide +kernel) ?_
    refine T_useI (sf_X12_isLine_309Y hfu s29 c30 a2 (by omega) r56 (by first | exact o35 | exact y_K.b0 (by omega) | exact y_K.k0 (by omega) | exact y_K.bk (by omega) | exact y_K.mk o36 (by omega) o37) (by first | exact o41 | exact y_KM.z (by omega)) (by first | exact o42 | exact y_YM.b0 (by omega) | exact y_YM.k0 (by omega) | exact y_YM.bk (by omega))) (fun v63 s58 hq => ?_)
    obtain ⟨c59, f60, o64, o65, o66, o67, o68, o69, o70, o71, ⟨x62, rfl, b72, b73, o74⟩⟩ := hq
    refine T_vI ?_
    have f61 := z_Fr.tr (R := R_X12_thick_309) f32 f60 rs_X12_isLine_309__X12_thick_309
    have t75 : s58 309 20 = r0 309 20 := (f60 309 20 (by decide)).trans t46
    have t76 : s58 316 0 = r0 316 0 := (f60 316 0 (by decide)).trans t47
    have t77 : s58 329 0 = r0 329 0 := (f60 329 0 (by decide)).trans t48
    have t78 : s58 329 1 = r0 329 1 := (f60 329 1 (by decide)).trans t49
    have u79 := CI_b c59 (k := 309) (j := 36) bd_309_36
    have u80 := CI_b c59 (k := 309) (j := 43) bd_309_43
    have u81 := CI_b c59 (k := 309) (j := 44) bd_309_44
    have u82 := CI_b c59 (k := 309) (j := 58) bd_309_58
    have r83 := y_TA.fr r54 (fun a b h => f60 a b (nz_X12_isLine_309__316_328 a b h)) (fun a b h => f60 a b (nz_X12_isLine_309__346_358 a b h)) (fun a b h => f60 a b (nz_X12_isLine_309__361_373 a b h))
    have r84 := y_DD.fr r55 (f60 329 0 (by decide)) (f60 329 1 (by decide)) (fun b => f60 359 b (nr_X12_isLine_309__359 b)) (fun b => f60 374 b (nr_X12_isLine_309__374 b))
    have r85 := y_B.fr r56 (f60 309 20 (by decide)) (f60 316 0 (by decide)) (fun b => f60 3220 b (nr_X12_isLine_309__3220 b)) (fun b => f60 3221 b (nr_X12_isLine_309__3221 b)) (fun b => f60 3222 b (nr_X12_isLine_309__3222 b)) (fun b => f60 361 b (nr_X12_isLine_309__361 b))
    clear t46
    clear t47
    clear t48
    clear t49
    refine T_ite (fun h86 => ?_) (fun h86 => ?_)
    · exact sj_X12_thick_309Y_J27 hfu r0 s58 c59 f61 a1 a2 0 (by omega) (by omega) (by omega) (by omega) (by first | exact y_L.cg o65 (by omega) | exact y_K.L o64 (by omega) (by omega)) (by first | exact o66 | exact y_K.B o64 (by omega) (by omega)) r83 (by first | exact r84 | exact y_DD.z (by omega) (by omega)) r85 (by first | exact o64 | exact y_K.b0 (by omega) | exact y_K.k0 (by omega) | exact y_K.bk (by omega) | exact y_K.mk o65 (by omega) o66) (by first | exact o70 | exact y_KM.z (by omega)) (by first | exact o71 | exact y_YM.b0 (by omega) | exact y_YM.k0 (by omega) | exact y_YM.bk (by omega))
    · exact sj_X12_thick_309Y_J22 hfu r0 s58 c59 f61 a1 a2 (by omega) (by omega) (by first | exact y_L.cg o65 (by omega) | exact y_K.L o64 (by omega) (by omega)) (by first | exact o66 | exact y_K.B o64 (by omega) (by omega)) r83 (by first | exact r84 | exact y_DD.z (by omega) (by omega)) r85 (by first | exact o64 | exact y_K.b0 (by omega) | exact y_K.k0 (by omega) | exact y_K.bk (by omega) | exact y_K.mk o65 (by omega) o66) (by first | exact o70 | exact y_KM.z (by omega)) (by first | exact o71 | exact y_YM.b0 (by omega) | exact y_YM.k0 (by omega) | exact y_YM.bk (by omega))
abbrev P_X12_laysGutters_309Y (r0 : z_M) : z_V → z_M → Prop := fun v s' => z_CI s' ∧ z_Fr R_X12_laysGutters_309 r0 s' ∧ (y_K s') ∧ (y_L s' (s' 309 44)) ∧ (y_BK s') ∧ (y_KM s') ∧ (y_YM s') ∧ (v = vN)
theorem nz_X12_sideOf_309__3441_3450 (a b : Int) (h : 3441 ≤ a ∧ a ≤ 3450) : ¬ R_X12_sideOf_309 a b := by
  unfold R_X12_sideOf_309; omega
theorem sj_X12_laysGutters_309Y_J59 {fu : Nat} (hfu : 8589934592 ≤ fu) (r0 s : z_M) (c : z_CI s) (f : z_Fr R_X12_laysGutters_309 r0 s) (a1 : Int) (t1 : Int) (t2 : Int) (b1 : 0 ≤ a1 ∧ a1 ≤ 199) (d1 : 0 ≤ t1 ∧ t1 ≤ 199) (d2 : 0 ≤ t2 ∧ t2 ≤ 6) (p0 : y_B s) (p1 : y_K s) (p2 : y_TA s) (p3 : y_L s (s 309 44)) (p4 : y_BK s) (p5 : a1 < s 309 44) (p6 : y_YM s) (p7 : y_KM s) (M : Int) (pm : 2147483647 - a1 ≤ M) {r : z_M → Int → z_O} {k : z_M → z_O} (hr : ∀ (s' : z_M) (v1 : Int), z_CI s' → z_Fr R_X12_laysGutters_309 r0 s' → (0 ≤ v1 ∧ v1 ≤ 200) → (y_B s') → (y_K s') → (y_TA s') → (y_L s' (s' 309 44)) → (y_BK s') → (y_KM s') → (y_YM s') → (2147483647 - v1 < M) → z_T (r s' v1) (P_X12_laysGutters_309Y r0)) (hk : ∀ (s' : z_M), z_CI s' → z_Fr R_X12_laysGutters_309 r0 s' → (y_K s') → (y_L s' (s' 309 44)) → (y_BK s') → (y_KM s') → (y_YM s') → z_T (k s') (P_X12_laysGutters_309Y r0)) : z_T (fX12_laysGutters_J59 fu s 309 a1 7655 t1 t2 r k) (P_X12_laysGutters_309Y r0) := by
  refine T_of (fX12_laysGutters_J59.eq_1 ..) ?_
  have u1 := CI_b c (k := 309) (j := 20) bd_309_20
  have u2 := CI_b c (k := 309) (j := 36) bd_309_36
  have u3 := CI_b c (k := 309) (j := 43) bd_309_43
  have u4 := CI_b c (k := 309) (j := 44) bd_309_44
  have u5 := CI_b c (k := 309) (j := 58) bd_309_58
  have u6 := CI_b c (k := 316) (j := 0) bd_316_0
  have t7 : s 309 20 = r0 309 20 := f 309 20 (by decide)
  have t8 : s 316 0 = r0 316 0 := f 316 0 (by decide)
  refine T_if1 (z_ixl (n := 200) (by decide +kernel) (by omega) (by omega)) ?_
  refine T_upg c (bdr_7655 t1) (by omega) (fun s9 c10 g12 g13 e14 => ?_)
  have f11 := z_Fr.up (R := R_X12_laysGutters_309) f g12 (fun _ => (Or.inl (⟨by decide, by decide⟩)))
  have t15 : s9 309 20 = s 309 20 := g12 309 20 (by decide)
  have t16 : s9 309 36 = s 309 36 := g12 309 36 (by decide)
  have t17 : s9 309 43 = s 309 43 := g12 309 43 (by decide)
  have t18 : s9 309 44 = s 309 44 := g12 309 44 (by decide)
  have t19 : s9 309 58 = s 309 58 := g12 309 58 (by decide)
  have t20 : s9 316 0 = s 316 0 := g12 316 0 (by decide)
  have r21 := y_B.fr p0 (g12 309 20 (by decide)) (g12 316 0 (by decide)) (fun b => g12 3220 b (by decide)) (fun b => g12 3221 b (by decide)) (fun b => g12 3222 b (by decide)) (fun b => g12 361 b (by decide))
  have r22 := y_K.fr p1 (by omega) (by omega) (g12 309 44 (by decide)) (g12 309 20 (by decide)) (g12 309 58 (by decide)) (fun b => g12 3438 b (by decide)) (fun b => g12 3220 b (by decide)) (fun a b h => g12 a b (by omega))
  have r23 := y_TA.fr p2 (fun a b h => g12 a b (by omega)) (fun a b h => g12 a b (by omega)) (fun a b h => g12 a b (by omega))
  have r24 := y_L.fr p3 (g12 309 20 (by decide)) (fun b => g12 3438 b (by decide))
  have r25 := y_BK.fr p4 (by omega) (g12 309 20 (by decide)) (g12 309 58 (by decide)) (fun b => g12 3220 b (by decide)) (fun a b h => g12 a b (by omega))
  have r26 := y_YM.fr p6 (by omega) (g12 309 44 (by decide)) (g12 309 20 (by decide)) (g12 309 58 (by decide)) (fun b => g12 312 b (by decide)) (fun b => g12 331 b (by decide)) (fun b => g12 346 b (by decide)) (fun b => g12 361 b (by decide)) (fun b => g12 391 b (by decide)) (fun a b h => g12 a b (by omega)) (fun a b h => g12 a b (by omega)) (fun b => g12 3438 b (by decide)) (fun a b h => g12 a b (by omega)) (fun a b h => g12 a b (by omega))
  have r27 := y_KM.fr p7 (g12 309 20 (by decide)) (g12 309 36 (by decide)) (g12 309 38 (by decide)) (g12 309 39 (by decide)) (fun b => g12 312 b (by decide)) (fun b => g12 331 b (by decide)) (fun b => g12 346 b (by decide)) (fun b => g12 361 b (by decide)) (fun b => g12 391 b (by decide)) (fun a b h => g12 a b (by omega)) (fun a b h => g12 a b (by omega)) (fun a b h => g12 a b (by omega))
  refine T_leq (fun x28 e29 => ?_)
  first | (have w30 := z_wx e29 (by omega)) | (have w30 := z_wr e29)
  exact hr s9 x28 c10 f11 (by omega) r21 (by first | exact r22 | exact y_K.b0 (by omega) | exact y_K.k0 (by omega) | exact y_K.bk (by omega) | exact y_K.mk r24 (by omega) r25) r23 (by first | exact y_L.cg r24 (by omega) | exact y_K.L r22 (by omega) (by omega)) (by first | exact r25 | exact y_K.B r22 (by omega) (by omega)) (by first | exact r27 | exact y_KM.z (by omega)) (by first | exact r26 | exact y_YM.b0 (by omega) | exact y_YM.k0 (by omega) | exact y_YM.bk (by omega)) (by omega)
set_option maxHeartbeats 4000000 in
theorem sj_X12_laysGutters_309Y_J38 {fu : Nat} (hfu : 8589934592 ≤ fu) (r0 s : z_M) (c : z_CI s) (f : z_Fr R_X12_laysGutters_309 r0 s) (a1 : Int) (t1 : Int) (t2 : Int) (b1 : 0 ≤ a1 ∧ a1 ≤ 199) (d1 : 0 ≤ t1 ∧ t1 ≤ 199) (d2 : -2147483648 ≤ t2 ∧ t2 ≤ 2147483647) (p0 : y_B s) (p1 : y_K s) (p2 : y_TA s) (p3 : y_L s (s 309 44)) (p4 : y_BK s) (p5 : a1 < s 309 44) (p6 : y_YM s) (p7 : y_KM s) (M : Int) (pm : 2147483647 - a1 ≤ M) {r : z_M → Int → z_O} {k : z_M → z_O} (hr : ∀ (s' : z_M) (v1 : Int), z_CI s' → z_Fr R_X12_laysGutters_309 r0 s' → (0 ≤ v1 ∧ v1 ≤ 200) → (y_B s') → (y_K s') → (y_TA s') → (y_L s' (s' 309 44)) → (y_BK s') → (y_KM s') → (y_YM s') → (2147483647 - v1 < M) → z_T (r s' v1) (P_X12_laysGutters_309Y r0)) (hk : ∀ (s' : z_M), z_CI s' → z_Fr R_X12_laysGutters_309 r0 s' → (y_K s') → (y_L s' (s' 309 44)) → (y_BK s') → (y_KM s') → (y_YM s') → z_T (k s') (P_X12_laysGutters_309Y r0)) : z_T (fX12_laysGutters_J38 fu s 309 a1 7654 t1 t2 r k) (P_X12_laysGutters_309Y r0) := by
  refine T_of (fX12_laysGutters_J38.eq_1 ..) ?_
  have u1 := CI_b c (k := 309) (j := 20) bd_309_20
  have u2 := CI_b c (k := 309) (j := 36) bd_309_36
  have u3 := CI_b c (k := 309) (j := 43) bd_309_43
  have u4 := CI_b c (k := 309) (j := 44) bd_309_44
  have u5 := CI_b c (k := 309) (j := 58) bd_309_58
  have u6 := CI_b c (k := 316) (j := 0) bd_316_0
  have t7 : s 309 20 = r0 309 20 := f 309 20 (by decide)
  have t8 : s 316 0 = r0 316 0 := f 316 0 (by decide)
  refine T_if1 (z_ixl (n := 200) (by decide +kernel) (by omega) (by omega)) ?_
  refine T_upg c (bdr_7654 t1) (by omega) (fun s9 c10 g12 g13 e14 => ?_)
  have f11 := z_Fr.up (R := R_X12_laysGutters_309) f g12 (fun _ => (Or.inl (⟨by decide, by decide⟩)))
  have t15 : s9 309 20 = s 309 20 := g12 309 20 (by decide)
  have t16 : s9 309 36 = s 309 36 := g12 309 36 (by decide)
  have t17 : s9 309 43 = s 309 43 := g12 309 43 (by decide)
  have t18 : s9 309 44 = s 309 44 := g12 309 44 (by decide)
  have t19 : s9 309 58 = s 309 58 := g12 309 58 (by decide)
  have t20 : s9 316 0 = s 316 0 := g12 316 0 (by decide)
  have r21 := y_B.fr p0 (g12 309 20 (by decide)) (g12 316 0 (by decide)) (fun b => g12 3220 b (by decide)) (fun b => g12 3221 b (by decide)) (fun b => g12 3222 b (by decide)) (fun b => g12 361 b (by decide))
  have r22 := y_K.fr p1 (by omega) (by omega) (g12 309 44 (by decide)) (g12 309 20 (by decide)) (g12 309 58 (by decide)) (fun b => g12 3438 b (by decide)) (fun b => g12 3220 b (by decide)) (fun a b h => g12 a b (by omega))
  have r23 := y_TA.fr p2 (fun a b h => g12 a b (by omega)) (fun a b h => g12 a b (by omega)) (fun a b h => g12 a b (by omega))
  have r24 := y_L.fr p3 (g12 309 20 (by decide)) (fun b => g12 3438 b (by decide))
  have r25 := y_BK.fr p4 (by omega) (g12 309 20 (by decide)) (g12 309 58 (by decide)) (fun b => g12 3220 b (by decide)) (fun a b h => g12 a b (by omega))
  have r26 := y_YM.fr p6 (by omega) (g12 309 44 (by decide)) (g12 309 20 (by decide)) (g12 309 58 (by decide)) (fun b => g12 312 b (by decide)) (fun b => g12 331 b (by decide)) (fun b => g12 346 b (by decide)) (fun b => g12 361 b (by decide)) (fun b => g12 391 b (by decide)) (fun a b h => g12 a b (by omega)) (fun a b h => g12 a b (by omega)) (fun b => g12 3438 b (by decide)) (fun a b h => g12 a b (by omega)) (fun a b h => g12 a b (by omega))
  have r27 := y_KM.fr p7 (g12 309 20 (by decide)) (g12 309 36 (by decide)) (g12 309 38 (by decide)) (g12 309 39 (by decide)) (fun b => g12 312 b (by decide)) (fun b => g12 331 b (by decide)) (fun b => g12 346 b (by decide)) (fun b => g12 361 b (by decide)) (fun b => g12 391 b (by decide)) (fun a b h => g12 a b (by omega)) (fun a b h => g12 a b (by omega)) (fun a b h => g12 a b (by omega))
  refine T_if1 (by decide +kernel) ?_
  refine T_let 7655 (by decide +kernel) ?_
  refine T_if1 (by decide +kernel) ?_
  refine T_useI (sf_X12_sideOf_309 hfu s9 c10 a1 1 (by omega) (by omega) r21 (by first | exact r25 | exact y_K.B r22 (by omega) (by omega)) (by first | exact y_L.cg r24 (by omega) | exact y_K.L r22 (by omega) (by omega)) r23 (by omega)) (fun v33 s28 hq => ?_)
  obtain ⟨c29, f30, ⟨x32, rfl, b34, b35, o36⟩⟩ := hq
  refine T_vI ?_
  have f31 := z_Fr.tr (R := R_X12_laysGutters_309) f11 f30 rs_X12_sideOf_309__X12_laysGutters_309
  have t37 : s28 309 20 = s 309 20 := (f30 309 20 (by decide)).trans t15
  have t38 : s28 309 36 = s 309 36 := (f30 309 36 (by decide)).trans t16
  have t39 : s28 309 43 = s 309 43 := (f30 309 43 (by decide)).trans t17
  have t40 : s28 309 44 = s 309 44 := (f30 309 44 (by decide)).trans t18
  have t41 : s28 309 58 = s 309 58 := (f30 309 58 (by decide)).trans t19
  have t42 : s28 316 0 = s 316 0 := (f30 316 0 (by decide)).trans t20
  have r43 := y_B.fr r21 (f30 309 20 (by decide)) (f30 316 0 (by decide)) (fun b => f30 3220 b (nr_X12_sideOf_309__3220 b)) (fun b => f30 3221 b (nr_X12_sideOf_309__3221 b)) (fun b => f30 3222 b (nr_X12_sideOf_309__3222 b)) (fun b => f30 361 b (nr_X12_sideOf_309__361 b))
  have r44 := y_K.fr r22 (by omega) (by omega) (f30 309 44 (by decide)) (f30 309 20 (by decide)) (f30 309 58 (by decide)) (fun b => f30 3438 b (nr_X12_sideOf_309__3438 b)) (fun b => f30 3220 b (nr_X12_sideOf_309__3220 b)) (fun a b h => f30 a b (nz_X12_sideOf_309__3452_3651 a b h))
  have r45 := y_TA.fr r23 (fun a b h => f30 a b (nz_X12_sideOf_309__316_328 a b h)) (fun a b h => f30 a b (nz_X12_sideOf_309__346_358 a b h)) (fun a b h => f30 a b (nz_X12_sideOf_309__361_373 a b h))
  have r46 := y_L.fr r24 (f30 309 20 (by decide)) (fun b => f30 3438 b (nr_X12_sideOf_309__3438 b))
  have r47 := y_BK.fr r25 (by omega) (f30 309 20 (by decide)) (f30 309 58 (by decide)) (fun b => f30 3220 b (nr_X12_sideOf_309__3220 b)) (fun a b h => f30 a b (nz_X12_sideOf_309__3452_3651 a b h))
  have r48 := y_YM.fr r26 (by omega) (f30 309 44 (by decide)) (f30 309 20 (by decide)) (f30 309 58 (by decide)) (fun b => f30 312 b (nr_X12_sideOf_309__312 b)) (fun b => f30 331 b (nr_X12_sideOf_309__331 b)) (fun b => f30 346 b (nr_X12_sideOf_309__346 b)) (fun b => f30 361 b (nr_X12_sideOf_309__361 b)) (fun b => f30 391 b (nr_X12_sideOf_309__391 b)) (fun a b h => f30 a b (nz_X12_sideOf_309__407_606 a b h)) (fun a b h => f30 a b (nz_X12_sideOf_309__3220_3223 a b h)) (fun b => f30 3438 b (nr_X12_sideOf_309__3438 b)) (fun a b h => f30 a b (nz_X12_sideOf_309__3441_3450 a b h)) (fun a b h => f30 a b (nz_X12_sideOf_309__3452_3651 a b h))
  have r49 := y_KM.fr r27 (f30 309 20 (by decide)) (f30 309 36 (by decide)) (f30 309 38 (by decide)) (f30 309 39 (by decide)) (fun b => f30 312 b (nr_X12_sideOf_309__312 b)) (fun b => f30 331 b (nr_X12_sideOf_309__331 b)) (fun b => f30 346 b (nr_X12_sideOf_309__346 b)) (fun b => f30 361 b (nr_X12_sideOf_309__361 b)) (fun b => f30 391 b (nr_X12_sideOf_309__391 b)) (fun a b h => f30 a b (nz_X12_sideOf_309__407_606 a b h)) (fun a b h => f30 a b (nz_X12_sideOf_309__3220_3223 a b h)) (fun a b h => f30 a b (nz_X12_sideOf_309__3235_3437 a b h))
  clear t15
  clear t16
  clear t17
  clear t18
  clear t19
  clear t20
  refine T_ite (fun h50 => ?_) (fun h50 => ?_)
  · exact sj_X12_laysGutters_309Y_J59 hfu r0 s28 c29 f31 a1 a1 0 (by omega) (by omega) (by omega) r43 (by first | exact r44 | exact y_K.b0 (by omega) | exact y_K.k0 (by omega) | exact y_K.bk (by omega) | exact y_K.mk r46 (by omega) r47) r45 (by first | exact y_L.cg r46 (by omega) | exact y_K.L r44 (by omega) (by omega)) (by first | exact r47 | exact y_K.B r44 (by omega) (by omega)) (by omega) (by first | exact r48 | exact y_YM.b0 (by omega) | exact y_YM.k0 (by omega) | exact y_YM.bk (by omega)) (by first | exact r49 | exact y_KM.z (by omega)) M (by omega) (fun s' v1 c' f' w1 z0 z1 z2 z3 z4 z5 z6 pg => hr s' v1 c' f' w1 z0 z1 z2 z3 z4 z5 z6 (by omega)) hk
  · exact sj_X12_laysGutters_309Y_J59 hfu r0 s28 c29 f31 a1 a1 6 (by omega) (by omega) (by omega) r43 (by first | exact r44 | exact y_K.b0 (by omega) | exact y_K.k0 (by omega) | exact y_K.bk (by omega) | exact y_K.mk r46 (by omega) r47) r45 (by first | exact y_L.cg r46 (by omega) | exact y_K.L r44 (by omega) (by omega)) (by first | exact r47 | exact y_K.B r44 (by omega) (by omega)) (by omega) (by first | exact r48 | exact y_YM.b0 (by omega) | exact y_YM.k0 (by omega) | exact y_YM.bk (by omega)) (by first | exact r49 | exact y_KM.z (by omega)) M (by omega) (fun s' v1 c' f' w1 z0 z1 z2 z3 z4 z5 z6 pg => hr s' v1 c' f' w1 z0 z1 z2 z3 z4 z5 z6 (by omega)) hk
theorem sl_X12_laysGutters_309Y_L6 {fu : Nat} (hfu : 8589934592 ≤ fu) (r0 : z_M) {k : z_M → z_O} (hk : ∀ (s' : z_M), z_CI s' → z_Fr R_X12_laysGutters_309 r0 s' → (y_K s') → (y_L s' (s' 309 44)) → (y_BK s') → (y_KM s') → (y_YM s') → z_T (k s') (P_X12_laysGutters_309Y r0)) : ∀ (F : Nat) (s : z_M) (a1 : Int), z_CI s → z_Fr R_X12_laysGutters_309 r0 s → (0 ≤ a1 ∧ a1 ≤ 200) → (y_B s) → (y_K s) → (y_TA s) → (y_L s (s 309 44)) → (y_BK s) → (y_KM s) → (y_YM s) → (2147483647 - a1 < (F : Int)) → z_T (fX12_laysGutters_L6 fu 309 F s a1 k) (P_X12_laysGutters_309Y r0) := by
  intro F
  induction F with
  | zero =>
    intro s a1 c f b1 i0 i1 i2 i3 i4 i5 i6 hm
    have u41 := CI_b c (k := 309) (j := 20) bd_309_20
    have u42 := CI_b c (k := 309) (j := 36) bd_309_36
    have u43 := CI_b c (k := 309) (j := 43) bd_309_43
    have u44 := CI_b c (k := 309) (j := 44) bd_309_44
    have u45 := CI_b c (k := 309) (j := 58) bd_309_58
    have u46 := CI_b c (k := 316) (j := 0) bd_316_0
    exfalso; omega
  | succ F ih =>
    intro s a1 c f b1 i0 i1 i2 i3 i4 i5 i6 hm
    refine T_of (fX12_laysGutters_L6.eq_2 ..) ?_
    have u1 := CI_b c (k := 309) (j := 20) bd_309_20
    have u2 := CI_b c (k := 309) (j := 36) bd_309_36
    have u3 := CI_b c (k := 309) (j := 43) bd_309_43
    have u4 := CI_b c (k := 309) (j := 44) bd_309_44
    have u5 := CI_b c (k := 309) (j := 58) bd_309_58
    have u6 := CI_b c (k := 316) (j := 0) bd_316_0
    have t7 : s 309 20 = r0 309 20 := f 309 20 (by decide)
    have t8 : s 316 0 = r0 316 0 := f 316 0 (by decide)
    refine T_if1 (by decide +kernel) ?_
    refine T_leq (fun x9 e10 => ?_)
    have u11 := CI_b c (k := 309) (j := 44) bd_309_44
    refine T_ite (fun h12 => ?_) (fun h12 => ?_)
    · exact hk s c f (by first | exact i1 | exact y_K.b0 (by omega) | exact y_K.k0 (by omega) | exact y_K.bk (by omega) | exact y_K.mk i3 (by omega) i4) (by first | exact y_L.cg i3 (by omega) | exact y_K.L i1 (by omega) (by omega)) (by first | exact i4 | exact y_K.B i1 (by omega) (by omega)) (by first | exact i5 | exact y_KM.z (by omega)) (by first | exact i6 | exact y_YM.b0 (by omega) | exact y_YM.k0 (by omega) | exact y_YM.bk (by omega))
    · refine T_if1 (by decide +kernel) ?_
      refine T_let 7654 (by decide +kernel) ?_
      refine T_leq (fun x13 e14 => ?_)
      first | (have w15 := z_wx e14 (by omega)) | (have w15 := z_wr e14)
      refine T_if1 (by decide +kernel) ?_
      refine T_leq (fun x16 e17 => ?_)
      have q18 : x9 = x16 := e10.symm.trans e17
      subst q18
      refine T_ite (fun h19 => ?_) (fun h19 => ?_)
      · exact sj_X12_laysGutters_309Y_J38 hfu r0 s c f a1 a1 0 (by omega) (by omega) (by omega) i0 (by first | exact i1 | exact y_K.b0 (by omega) | exact y_K.k0 (by omega) | exact y_K.bk (by omega) | exact y_K.mk i3 (by omega) i4) i2 (by first | exact y_L.cg i3 (by omega) | exact y_K.L i1 (by omega) (by omega)) (by first | exact i4 | exact y_K.B i1 (by omega) (by omega)) (by omega) (by first | exact i6 | exact y_YM.b0 (by omega) | exact y_YM.k0 (by omega) | exact y_YM.bk (by omega)) (by first | exact i5 | exact y_KM.z (by omega)) (2147483647 - a1) (by omega) (fun s' v1 c' f' w1 z0 z1 z2 z3 z4 z5 z6 pg => ih s' v1 c' f' w1 z0 z1 z2 z3 z4 z5 z6 (by omega)) hk
      · refine T_if1 (by decide +kernel) ?_
        refine T_useI (sf_X12_gutterOf_309 hfu s c a1 (by omega) i0 (by first | exact i4 | exact y_K.B i1 (by omega) (by omega)) (by first | exact y_L.cg i3 (by omega) | exact y_K.L i1 (by omega) (by omega)) i2 (by omega)) (fun v25 s20 hq => ?_)
        obtain ⟨c21, f22, ⟨x24, rfl, b26, b27⟩⟩ := hq
        refine T_vI ?_
        have f23 := z_Fr.tr (R := R_X12_laysGutters_309) f f22 rs_X12_gutterOf_309__X12_laysGutters_309
        have t28 : s20 309 20 = s 309 20 := f22 309 20 (by decide)
        have t29 : s20 309 36 = s 309 36 := f22 309 36 (by decide)
        have t30 : s20 309 43 = s 309 43 := f22 309 43 (by decide)
        have t31 : s20 309 44 = x9 := (f22 309 44 (by decide)).trans e10
        have t32 : s20 309 58 = s 309 58 := f22 309 58 (by decide)
        have t33 : s20 316 0 = s 316 0 := f22 316 0 (by decide)
        have r34 := y_B.fr i0 (f22 309 20 (by decide)) (f22 316 0 (by decide)) (fun b => f22 3220 b (nr_X12_gutterOf_309__3220 b)) (fun b => f22 3221 b (nr_X12_gutterOf_309__3221 b)) (fun b => f22 3222 b (nr_X12_gutterOf_309__3222 b)) (fun b => f22 361 b (nr_X12_gutterOf_309__361 b))
        have r35 := y_K.fr i1 (by omega) (by omega) (f22 309 44 (by decide)) (f22 309 20 (by decide)) (f22 309 58 (by decide)) (fun b => f22 3438 b (nr_X12_gutterOf_309__3438 b)) (fun b => f22 3220 b (nr_X12_gutterOf_309__3220 b)) (fun a b h => f22 a b (nz_X12_gutterOf_309__3452_3651 a b h))
        have r36 := y_TA.fr i2 (fun a b h => f22 a b (nz_X12_gutterOf_309__316_328 a b h)) (fun a b h => f22 a b (nz_X12_gutterOf_309__346_358 a b h)) (fun a b h => f22 a b (nz_X12_gutterOf_309__361_373 a b h))
        have r37 := y_L.fr i3 (f22 309 20 (by decide)) (fun b => f22 3438 b (nr_X12_gutterOf_309__3438 b))
        have r38 := y_BK.fr i4 (by omega) (f22 309 20 (by decide)) (f22 309 58 (by decide)) (fun b => f22 3220 b (nr_X12_gutterOf_309__3220 b)) (fun a b h => f22 a b (nz_X12_gutterOf_309__3452_3651 a b h))
        have r39 := y_KM.fr i5 (f22 309 20 (by decide)) (f22 309 36 (by decide)) (f22 309 38 (by decide)) (f22 309 39 (by decide)) (fun b => f22 312 b (nr_X12_gutterOf_309__312 b)) (fun b => f22 331 b (nr_X12_gutterOf_309__331 b)) (fun b => f22 346 b (nr_X12_gutterOf_309__346 b)) (fun b => f22 361 b (nr_X12_gutterOf_309__361 b)) (fun b => f22 391 b (nr_X12_gutterOf_309__391 b)) (fun a b h => f22 a b (nz_X12_gutterOf_309__407_606 a b h)) (fun a b h => f22 a b (nz_X12_gutterOf_309__3220_3223 a b h)) (fun a b h => f22 a b (nz_X12_gutterOf_309__3235_3437 a b h))
        have r40 := y_YM.fr i6 (by omega) (f22 309 44 (by decide)) (f22 309 20 (by decide)) (f22 309 58 (by decide)) (fun b => f22 312 b (nr_X12_gutterOf_309__312 b)) (fun b => f22 331 b (nr_X12_gutterOf_309__331 b)) (fun b => f22 346 b (nr_X12_gutterOf_309__346 b)) (fun b => f22 361 b (nr_X12_gutterOf_309__361 b)) (fun b => f22 391 b (nr_X12_gutterOf_309__391 b)) (fun a b h => f22 a b (nz_X12_gutterOf_309__407_606 a b h)) (fun a b h => f22 a b (nz_X12_gutterOf_309__3220_3223 a b h)) (fun b => f22 3438 b (nr_X12_gutterOf_309__3438 b)) (fun a b h => f22 a b (nz_X12_gutterOf_309__3441_3450 a b h)) (fun a b h => f22 a b (nz_X12_gutterOf_309__3452_3651 a b h))
        exact sj_X12_laysGutters_309Y_J38 hfu r0 s20 c21 f23 a1 a1 x24 (by omega) (by omega) (by omega) r34 (by first | exact r35 | exact y_K.b0 (by omega) | exact y_K.k0 (by omega) | exact y_K.bk (by omega) | exact y_K.mk r37 (by omega) r38) r36 (by first | exact y_L.cg r37 (by omega) | exact y_K.L r35 (by omega) (by omega)) (by first | exact r38 | exact y_K.B r35 (by omega) (by omega)) (by omega) (by first | exact r40 | exact y_YM.b0 (by omega) | exact y_YM.k0 (by omega) | exact y_YM.bk (by omega)) (by first | exact r39 | exact y_KM.z (by omega)) (2147483647 - a1) (by omega) (fun s' v1 c' f' w1 z0 z1 z2 z3 z4 z5 z6 pg => ih s' v1 c' f' w1 z0 z1 z2 z3 z4 z5 z6 (by omega)) hk
theorem sf_X12_laysGutters_309Y {fu : Nat} (hfu : 8589934592 ≤ fu) (r0 : z_M) (c0 : z_CI r0) (p0 : y_B r0) (p1 : y_K r0) (p2 : y_TA r0) (p3 : y_KM r0) (p4 : y_YM r0) : z_T (fX12_laysGutters fu r0 309) (P_X12_laysGutters_309Y r0) := by
  refine T_of (fX12_laysGutters.eq_1 ..) ?_
  have u1 := CI_b c0 (k := 309) (j := 20) bd_309_20
  have u2 := CI_b c0 (k := 309) (j := 36) bd_309_36
  have u3 := CI_b c0 (k := 309) (j := 43) bd_309_43
  have u4 := CI_b c0 (k := 309) (j := 44) bd_309_44
  have u5 := CI_b c0 (k := 309) (j := 58) bd_309_58
  have u6 := CI_b c0 (k := 316) (j := 0) bd_316_0
  refine T_if1 (by decide +kernel) ?_
  refine T_useN (sf_X12_laysAll_309Y hfu r0 c0 p0 (by first | exact p1 | exact y_K.b0 (by omega) | exact y_K.k0 (by omega) | exact y_K.bk (by omega)) (by first | exact p3 | exact y_KM.z (by omega)) (by first | exact p4 | exact y_YM.b0 (by omega) | exact y_YM.k0 (by omega) | exact y_YM.bk (by omega))) (fun v12 s7 hq => ?_)
  obtain ⟨c8, f9, o13, o14, o15, o16, o17, o18, o19, o20, rfl⟩ := hq
  refine T_vN ?_
  have f10 := z_Fr.tr (R := R_X12_laysGutters_309) z_Fr.rf f9 rs_X12_laysAll_309__X12_laysGutters_309
  have t23 : s7 309 20 = r0 309 20 := f9 309 20 (by decide)
  have t24 : s7 316 0 = r0 316 0 := f9 316 0 (by decide)
  have u25 := CI_b c8 (k := 309) (j := 36) bd_309_36
  have u26 := CI_b c8 (k := 309) (j := 43) bd_309_43
  have u27 := CI_b c8 (k := 309) (j := 44) bd_309_44
  have u28 := CI_b c8 (k := 309) (j := 58) bd_309_58
  have r29 := y_B.fr p0 (f9 309 20 (by decide)) (f9 316 0 (by decide)) (fun b => f9 3220 b (nr_X12_laysAll_309__3220 b)) (fun b => f9 3221 b (nr_X12_laysAll_309__3221 b)) (fun b => f9 3222 b (nr_X12_laysAll_309__3222 b)) (fun b => f9 361 b (nr_X12_laysAll_309__361 b))
  have r30 := y_TA.fr p2 (fun a b h => f9 a b (nz_X12_laysAll_309__316_328 a b h)) (fun a b h => f9 a b (nz_X12_laysAll_309__346_358 a b h)) (fun a b h => f9 a b (nz_X12_laysAll_309__361_373 a b h))
  refine sl_X12_laysGutters_309Y_L6 hfu r0 (fun s31 c32 f33 g34 g35 g36 g37 g38 => ?_) fu s7 0 c8 f10 (by omega) r29 (by first | exact o13 | exact y_K.b0 (by omega) | exact y_K.k0 (by omega) | exact y_K.bk (by omega) | exact y_K.mk o14 (by omega) o15) r30 (by first | exact y_L.cg o14 (by omega) | exact y_K.L o13 (by omega) (by omega)) (by first | exact o15 | exact y_K.B o13 (by omega) (by omega)) (by first | exact o19 | exact y_KM.z (by omega)) (by first | exact o20 | exact y_YM.b0 (by omega) | exact y_YM.k0 (by omega) | exact y_YM.bk (by omega)) (by omega)
  have u39 := CI_b c32 (k := 309) (j := 20) bd_309_20
  have u40 := CI_b c32 (k := 309) (j := 36) bd_309_36
  have u41 := CI_b c32 (k := 309) (j := 43) bd_309_43
  have u42 := CI_b c32 (k := 309) (j := 44) bd_309_44
  have u43 := CI_b c32 (k := 309) (j := 58) bd_309_58
  have u44 := CI_b c32 (k := 316) (j := 0) bd_316_0
  have t45 : s31 309 20 = r0 309 20 := f33 309 20 (by decide)
  have t46 : s31 316 0 = r0 316 0 := f33 316 0 (by decide)
  exact T_ret ⟨c32, f33, (by first | exact g34 | exact y_K.b0 (by omega) | exact y_K.k0 (by omega) | exact y_K.bk (by omega) | exact y_K.mk g35 (by omega) g36), (by first | exact y_L.cg g35 (by omega) | exact y_K.L g34 (by omega) (by omega)), (by first | exact g36 | exact y_K.B g34 (by omega) (by omega)), (by first | exact g37 | exact y_KM.z (by omega)), (by first | exact g38 | exact y_YM.b0 (by omega) | exact y_YM.k0 (by omega) | exact y_YM.bk (by omega)), rfl⟩
abbrev P_X12_pages_309Y (r0 : z_M) : z_V → z_M → Prop := fun v s' => z_CI s' ∧ z_Fr R_X12_pages_309 r0 s' ∧ (y_TA s') ∧ (y_DD s') ∧ (y_B s') ∧ (y_K s') ∧ (y_KM s') ∧ (y_YM s') ∧ (∃ x, v = vI x ∧ -2147483648 ≤ x ∧ x ≤ 2147483647)
theorem nz_X12_pagesBy_309__3441_3450 (a b : Int) (h : 3441 ≤ a ∧ a ≤ 3450) : ¬ R_X12_pagesBy_309 a b := by
  unfold R_X12_pagesBy_309; omega
set_option maxHeartbeats 4000000 in
theorem sj_X12_pages_309Y_J23 {fu : Nat} (hfu : 8589934592 ≤ fu) (r0 s : z_M) (c : z_CI s) (f : z_Fr R_X12_pages_309 r0 s) (a1 : Int) (t1 : Int) (b1 : -2147483648 ≤ a1 ∧ a1 ≤ 2147483647) (d1 : 0 ≤ t1 ∧ t1 ≤ 1) (p0 : y_TA s) (p1 : y_DD s) (p2 : y_B s) (p3 : y_K s) (p4 : y_KM s) (p5 : y_YM s) : z_T (fX12_pages_J23 fu s 309 a1 309 t1) (P_X12_pages_309Y r0) := by
  refine T_of (fX12_pages_J23.eq_1 ..) ?_
  have u1 := CI_b c (k := 309) (j := 20) bd_309_20
  have u2 := CI_b c (k := 309) (j := 36) bd_309_36
  have u3 := CI_b c (k := 309) (j := 43) bd_309_43
  have u4 := CI_b c (k := 309) (j := 44) bd_309_44
  have u5 := CI_b c (k := 309) (j := 58) bd_309_58
  have u6 := CI_b c (k := 316) (j := 0) bd_316_0
  have u7 := CI_b c (k := 329) (j := 0) bd_329_0
  have u8 := CI_b c (k := 329) (j := 1) bd_329_1
  have t9 : s 309 20 = r0 309 20 := f 309 20 (by decide)
  have t10 : s 316 0 = r0 316 0 := f 316 0 (by decide)
  have t11 : s 329 0 = r0 329 0 := f 329 0 (by decide)
  have t12 : s 329 1 = r0 329 1 := f 329 1 (by decide)
  refine T_if1 (by decide +kernel) ?_
  refine T_useI (sf_X12_bad_309 hfu s c t1 1 1 (by omega) (by omega) (by omega) (by omega)) (fun v18 s13 hq => ?_)
  obtain ⟨c14, f15, o19, ⟨x17, rfl, b20, b21, o22, o23⟩⟩ := hq
  refine T_vI ?_
  have f16 := z_Fr.tr (R := R_X12_pages_309) f f15 rs_X12_bad_309__X12_pages_309
  have t24 : s13 309 20 = s 309 20 := f15 309 20 (by decide)
  have t25 : s13 309 36 = s 309 36 := f15 309 36 (by decide)
  have t26 : s13 309 43 = s 309 43 := f15 309 43 (by decide)
  have t27 : s13 309 44 = s 309 44 := f15 309 44 (by decide)
  have t28 : s13 309 58 = s 309 58 := f15 309 58 (by decide)
  have t29 : s13 316 0 = s 316 0 := f15 316 0 (by decide)
  have t30 : s13 329 0 = s 329 0 := f15 329 0 (by decide)
  have t31 : s13 329 1 = s 329 1 := f15 329 1 (by decide)
  have r32 := y_TA.fr p0 (fun a b h => f15 a b (nz_X12_bad_309__316_328 a b h)) (fun a b h => f15 a b (nz_X12_bad_309__346_358 a b h)) (fun a b h => f15 a b (nz_X12_bad_309__361_373 a b h))
  have r33 := y_DD.fr p1 (f15 329 0 (by decide)) (f15 329 1 (by decide)) (fun b => f15 359 b (nr_X12_bad_309__359 b)) (fun b => f15 374 b (nr_X12_bad_309__374 b))
  have r34 := y_B.fr p2 (f15 309 20 (by decide)) (f15 316 0 (by decide)) (fun b => f15 3220 b (nr_X12_bad_309__3220 b)) (fun b => f15 3221 b (nr_X12_bad_309__3221 b)) (fun b => f15 3222 b (nr_X12_bad_309__3222 b)) (fun b => f15 361 b (nr_X12_bad_309__361 b))
  have r35 := y_K.fr p3 (by omega) (by omega) (f15 309 44 (by decide)) (f15 309 20 (by decide)) (f15 309 58 (by decide)) (fun b => f15 3438 b (nr_X12_bad_309__3438 b)) (fun b => f15 3220 b (nr_X12_bad_309__3220 b)) (fun a b h => f15 a b (nz_X12_bad_309__3452_3651 a b h))
  have r36 := y_KM.fr p4 (f15 309 20 (by decide)) (f15 309 36 (by decide)) (f15 309 38 (by decide)) (f15 309 39 (by decide)) (fun b => f15 312 b (nr_X12_bad_309__312 b)) (fun b => f15 331 b (nr_X12_bad_309__331 b)) (fun b => f15 346 b (nr_X12_bad_309__346 b)) (fun b => f15 361 b (nr_X12_bad_309__361 b)) (fun b => f15 391 b (nr_X12_bad_309__391 b)) (fun a b h => f15 a b (nz_X12_bad_309__407_606 a b h)) (fun a b h => f15 a b (nz_X12_bad_309__3220_3223 a b h)) (fun a b h => f15 a b (nz_X12_bad_309__3235_3437 a b h))
  have r37 := y_YM.fr p5 (by omega) (f15 309 44 (by decide)) (f15 309 20 (by decide)) (f15 309 58 (by decide)) (fun b => f15 312 b (nr_X12_bad_309__312 b)) (fun b => f15 331 b (nr_X12_bad_309__331 b)) (fun b => f15 346 b (nr_X12_bad_309__346 b)) (fun b => f15 361 b (nr_X12_bad_309__361 b)) (fun b => f15 391 b (nr_X12_bad_309__391 b)) (fun a b h => f15 a b (nz_X12_bad_309__407_606 a b h)) (fun a b h => f15 a b (nz_X12_bad_309__3220_3223 a b h)) (fun b => f15 3438 b (nr_X12_bad_309__3438 b)) (fun a b h => f15 a b (nz_X12_bad_309__3441_3450 a b h)) (fun a b h => f15 a b (nz_X12_bad_309__3452_3651 a b h))
  refine T_ite (fun h38 => ?_) (fun h38 => ?_)
  · refine T_if1 (by decide +kernel) ?_
    refine T_useN (sf_X12_laysGutters_309Y hfu s13 c14 r34 (by first | exact r35 | exact y_K.b0 (by omega) | exact y_K.k0 (by omega) | exact y_K.bk (by omega)) r32 (by first | exact r36 | exact y_KM.z (by omega)) (by first | exact r37 | exact y_YM.b0 (by omega) | exact y_YM.k0 (by omega) | exact y_YM.bk (by omega))) (fun v44 s39 hq => ?_)
    obtain ⟨c40, f41, o45, o46, o47, o48, o49, rfl⟩ := hq
    refine T_vN ?_
    have f42 := z_Fr.tr (R := R_X12_pages_309) f16 f41 rs_X12_laysGutters_309__X12_pages_309
    have t52 : s39 309 20 = s 309 20 := (f41 309 20 (by decide)).trans t24
    have t53 : s39 316 0 = s 316 0 := (f41 316 0 (by decide)).trans t29
    have t54 : s39 329 0 = s 329 0 := (f41 329 0 (by decide)).trans t30
    have t55 : s39 329 1 = s 329 1 := (f41 329 1 (by decide)).trans t31
    have u56 := CI_b c40 (k := 309) (j := 36) bd_309_36
    have u57 := CI_b c40 (k := 309) (j := 43) bd_309_43
    have u58 := CI_b c40 (k := 309) (j := 44) bd_309_44
    have u59 := CI_b c40 (k := 309) (j := 58) bd_309_58
    have r60 := y_TA.fr r32 (fun a b h => f41 a b (nz_X12_laysGutters_309__316_328 a b h)) (fun a b h => f41 a b (nz_X12_laysGutters_309__346_358 a b h)) (fun a b h => f41 a b (nz_X12_laysGutters_309__361_373 a b h))
    have r61 := y_DD.fr r33 (f41 329 0 (by decide)) (f41 329 1 (by decide)) (fun b => f41 359 b (nr_X12_laysGutters_309__359 b)) (fun b => f41 374 b (nr_X12_laysGutters_309__374 b))
    have r62 := y_B.fr r34 (f41 309 20 (by decide)) (f41 316 0 (by decide)) (fun b => f41 3220 b (nr_X12_laysGutters_309__3220 b)) (fun b => f41 3221 b (nr_X12_laysGutters_309__3221 b)) (fun b => f41 3222 b (nr_X12_laysGutters_309__3222 b)) (fun b => f41 361 b (nr_X12_laysGutters_309__361 b))
    clear t24
    clear t29
    clear t30
    clear t31
    refine T_if1 (by decide +kernel) ?_
    refine T_useI (sf_X12_pagesBy_309 hfu s39 c40 a1 (by omega) r62 (by first | exact o47 | exact y_K.B o45 (by omega) (by omega)) (by first | exact y_L.cg o46 (by omega) | exact y_K.L o45 (by omega) (by omega)) r60) (fun v68 s63 hq => ?_)
    obtain ⟨c64, f65, ⟨x67, rfl, b69, b70, o71⟩⟩ := hq
    refine T_vI ?_
    have f66 := z_Fr.tr (R := R_X12_pages_309) f42 f65 rs_X12_pagesBy_309__X12_pages_309
    have t72 : s63 309 20 = s 309 20 := (f65 309 20 (by decide)).trans t52
    have t73 : s63 309 36 = s39 309 36 := f65 309 36 (by decide)
    have t74 : s63 309 43 = s39 309 43 := f65 309 43 (by decide)
    have t75 : s63 309 44 = s39 309 44 := f65 309 44 (by decide)
    have t76 : s63 309 58 = s39 309 58 := f65 309 58 (by decide)
    have t77 : s63 316 0 = s 316 0 := (f65 316 0 (by decide)).trans t53
    have t78 : s63 329 0 = s 329 0 := (f65 329 0 (by decide)).trans t54
    have t79 : s63 329 1 = s 329 1 := (f65 329 1 (by decide)).trans t55
    have r80 := y_TA.fr r60 (fun a b h => f65 a b (nz_X12_pagesBy_309__316_328 a b h)) (fun a b h => f65 a b (nz_X12_pagesBy_309__346_358 a b h)) (fun a b h => f65 a b (nz_X12_pagesBy_309__361_373 a b h))
    have r81 := y_DD.fr r61 (f65 329 0 (by decide)) (f65 329 1 (by decide)) (fun b => f65 359 b (nr_X12_pagesBy_309__359 b)) (fun b => f65 374 b (nr_X12_pagesBy_309__374 b))
    have r82 := y_B.fr r62 (f65 309 20 (by decide)) (f65 316 0 (by decide)) (fun b => f65 3220 b (nr_X12_pagesBy_309__3220 b)) (fun b => f65 3221 b (nr_X12_pagesBy_309__3221 b)) (fun b => f65 3222 b (nr_X12_pagesBy_309__3222 b)) (fun b => f65 361 b (nr_X12_pagesBy_309__361 b))
    have r83 := y_K.fr o45 (by omega) (by omega) (f65 309 44 (by decide)) (f65 309 20 (by decide)) (f65 309 58 (by decide)) (fun b => f65 3438 b (nr_X12_pagesBy_309__3438 b)) (fun b => f65 3220 b (nr_X12_pagesBy_309__3220 b)) (fun a b h => f65 a b (nz_X12_pagesBy_309__3452_3651 a b h))
    have r84 := y_L.fr o46 (f65 309 20 (by decide)) (fun b => f65 3438 b (nr_X12_pagesBy_309__3438 b))
    have r85 := y_BK.fr o47 (by omega) (f65 309 20 (by decide)) (f65 309 58 (by decide)) (fun b => f65 3220 b (nr_X12_pagesBy_309__3220 b)) (fun a b h => f65 a b (nz_X12_pagesBy_309__3452_3651 a b h))
    have r86 := y_KM.fr o48 (f65 309 20 (by decide)) (f65 309 36 (by decide)) (f65 309 38 (by decide)) (f65 309 39 (by decide)) (fun b => f65 312 b (nr_X12_pagesBy_309__312 b)) (fun b => f65 331 b (nr_X12_pagesBy_309__331 b)) (fun b => f65 346 b (nr_X12_pagesBy_309__346 b)) (fun b => f65 361 b (nr_X12_pagesBy_309__361 b)) (fun b => f65 391 b (nr_X12_pagesBy_309__391 b)) (fun a b h => f65 a b (nz_X12_pagesBy_309__407_606 a b h)) (fun a b h => f65 a b (nz_X12_pagesBy_309__3220_3223 a b h)) (fun a b h => f65 a b (nz_X12_pagesBy_309__3235_3437 a b h))
    have r87 := y_YM.fr o49 (by omega) (f65 309 44 (by decide)) (f65 309 20 (by decide)) (f65 309 58 (by decide)) (fun b => f65 312 b (nr_X12_pagesBy_309__312 b)) (fun b => f65 331 b (nr_X12_pagesBy_309__331 b)) (fun b => f65 346 b (nr_X12_pagesBy_309__346 b)) (fun b => f65 361 b (nr_X12_pagesBy_309__361 b)) (fun b => f65 391 b (nr_X12_pagesBy_309__391 b)) (fun a b h => f65 a b (nz_X12_pagesBy_309__407_606 a b h)) (fun a b h => f65 a b (nz_X12_pagesBy_309__3220_3223 a b h)) (fun b => f65 3438 b (nr_X12_pagesBy_309__3438 b)) (fun a b h => f65 a b (nz_X12_pagesBy_309__3441_3450 a b h)) (fun a b h => f65 a b (nz_X12_pagesBy_309__3452_3651 a b h))
    clear t52
    clear t53
    clear t54
    clear t55
    exact T_ret ⟨c64, f66, r80, (by first | exact r81 | exact y_DD.z (by omega) (by omega)), r82, (by first | exact r83 | exact y_K.b0 (by omega) | exact y_K.k0 (by omega) | exact y_K.bk (by omega) | exact y_K.mk r84 (by omega) r85), (by first | exact r86 | exact y_KM.z (by omega)), (by first | exact r87 | exact y_YM.b0 (by omega) | exact y_YM.k0 (by omega) | exact y_YM.bk (by omega)), ⟨x67, rfl, by omega, by omega⟩⟩
  · exact T_ret ⟨c14, f16, r32, (by first | exact r33 | exact y_DD.z (by omega) (by omega)), r34, (by first | exact r35 | exact y_K.b0 (by omega) | exact y_K.k0 (by omega) | exact y_K.bk (by omega)), (by first | exact r36 | exact y_KM.z (by omega)), (by first | exact r37 | exact y_YM.b0 (by omega) | exact y_YM.k0 (by omega) | exact y_YM.bk (by omega)), ⟨0, rfl, by omega, by omega⟩⟩
theorem sf_X12_pages_309Y {fu : Nat} (hfu : 8589934592 ≤ fu) (r0 : z_M) (c0 : z_CI r0) (a1 : Int) (b1 : -2147483648 ≤ a1 ∧ a1 ≤ 2147483647) (p0 : y_TA r0) (p1 : y_DD r0) (p2 : y_B r0) (p3 : y_K r0) (p4 : y_KM r0) (p5 : y_YM r0) : z_T (fX12_pages fu r0 309 a1) (P_X12_pages_309Y r0) := by
  refine T_of (fX12_pages.eq_1 ..) ?_
  have u1 := CI_b c0 (k := 309) (j := 20) bd_309_20
  have u2 := CI_b c0 (k := 309) (j := 36) bd_309_36
  have u3 := CI_b c0 (k := 309) (j := 43) bd_309_43
  have u4 := CI_b c0 (k := 309) (j := 44) bd_309_44
  have u5 := CI_b c0 (k := 309) (j := 58) bd_309_58
  have u6 := CI_b c0 (k := 316) (j := 0) bd_316_0
  have u7 := CI_b c0 (k := 329) (j := 0) bd_329_0
  have u8 := CI_b c0 (k := 329) (j := 1) bd_329_1
  refine T_if1 (by decide +kernel) ?_
  refine T_upg c0 bd_309_0 (by omega) (fun s9 c10 g12 g13 e14 => ?_)
  have f11 := z_Fr.upf (R := R_X12_pages_309) z_Fr.rf g12 g13 (Or.inr (Or.inr (⟨rfl, by decide⟩)))
  have t15 : s9 309 20 = r0 309 20 := g13 20 (by decide)
  have t16 : s9 309 36 = r0 309 36 := g13 36 (by decide)
  have t17 : s9 309 43 = r0 309 43 := g13 43 (by decide)
  have t18 : s9 309 44 = r0 309 44 := g13 44 (by decide)
  have t19 : s9 309 58 = r0 309 58 := g13 58 (by decide)
  have t20 : s9 316 0 = r0 316 0 := g12 316 0 (by decide)
  have t21 : s9 329 0 = r0 329 0 := g12 329 0 (by decide)
  have t22 : s9 329 1 = r0 329 1 := g12 329 1 (by decide)
  have r23 := y_TA.fr p0 (fun a b h => g12 a b (by omega)) (fun a b h => g12 a b (by omega)) (fun a b h => g12 a b (by omega))
  have r24 := y_DD.fr p1 (g12 329 0 (by decide)) (g12 329 1 (by decide)) (fun b => g12 359 b (by decide)) (fun b => g12 374 b (by decide))
  have r25 := y_B.fr p2 (g13 20 (by decide)) (g12 316 0 (by decide)) (fun b => g12 3220 b (by decide)) (fun b => g12 3221 b (by decide)) (fun b => g12 3222 b (by decide)) (fun b => g12 361 b (by decide))
  have r26 := y_K.fr p3 (by omega) (by omega) (g13 44 (by decide)) (g13 20 (by decide)) (g13 58 (by decide)) (fun b => g12 3438 b (by decide)) (fun b => g12 3220 b (by decide)) (fun a b h => g12 a b (by omega))
  have r27 := y_KM.fr p4 (g13 20 (by decide)) (g13 36 (by decide)) (g13 38 (by decide)) (g13 39 (by decide)) (fun b => g12 312 b (by decide)) (fun b => g12 331 b (by decide)) (fun b => g12 346 b (by decide)) (fun b => g12 361 b (by decide)) (fun b => g12 391 b (by decide)) (fun a b h => g12 a b (by omega)) (fun a b h => g12 a b (by omega)) (fun a b h => g12 a b (by omega))
  have r28 := y_YM.fr p5 (by omega) (g13 44 (by decide)) (g13 20 (by decide)) (g13 58 (by decide)) (fun b => g12 312 b (by decide)) (fun b => g12 331 b (by decide)) (fun b => g12 346 b (by decide)) (fun b => g12 361 b (by decide)) (fun b => g12 391 b (by decide)) (fun a b h => g12 a b (by omega)) (fun a b h => g12 a b (by omega)) (fun b => g12 3438 b (by decide)) (fun a b h => g12 a b (by omega)) (fun a b h => g12 a b (by omega))
  refine T_useI (sf_X12_in hfu s9 c10 a1 12 9999 (by omega) (by omega) (by omega)) (fun v34 s29 hq => ?_)
  obtain ⟨c30, f31, ⟨x33, rfl, b35, b36, o37⟩⟩ := hq
  refine T_vI ?_
  have q38 := z_Fr.eq (fun a b h => h) f31
  subst q38
  refine T_ite (fun h39 => ?_) (fun h39 => ?_)
  · exact sj_X12_pages_309Y_J23 hfu r0 s9 c10 f11 a1 0 (by omega) (by omega) r23 (by first | exact r24 | exact y_DD.z (by omega) (by omega)) r25 (by first | exact r26 | exact y_K.b0 (by omega) | exact y_K.k0 (by omega) | exact y_K.bk (by omega)) (by first | exact r27 | exact y_KM.z (by omega)) (by first | exact r28 | exact y_YM.b0 (by omega) | exact y_YM.k0 (by omega) | exact y_YM.bk (by omega))
  · exact sj_X12_pages_309Y_J23 hfu r0 s9 c10 f11 a1 1 (by omega) (by omega) r23 (by first | exact r24 | exact y_DD.z (by omega) (by omega)) r25 (by first | exact r26 | exact y_K.b0 (by omega) | exact y_K.k0 (by omega) | exact y_K.bk (by omega)) (by first | exact r27 | exact y_KM.z (by omega)) (by first | exact r28 | exact y_YM.b0 (by omega) | exact y_YM.k0 (by omega) | exact y_YM.bk (by omega))
abbrev P_X12_page_309Y (r0 : z_M) : z_V → z_M → Prop := fun v s' => z_CI s' ∧ z_Fr R_X12_page_309 r0 s' ∧ (y_TA s') ∧ (y_DD s') ∧ (y_B s') ∧ (y_K s') ∧ (y_KM s') ∧ (y_YM s') ∧ (∃ x, v = vI x ∧ -2147483648 ≤ x ∧ x ≤ 2147483647)
theorem sj_X12_page_309Y_J119 {fu : Nat} (hfu : 8589934592 ≤ fu) (r0 s : z_M) (c : z_CI s) (f : z_Fr R_X12_page_309 r0 s) (t0 : Int) (d0 : -2147483648 ≤ t0 ∧ t0 ≤ 2147483647) (p0 : y_TA s) (p1 : y_DD s) (p2 : y_B s) (p3 : y_K s) (p4 : y_KM s) (p5 : y_YM s) : z_T (fX12_page_J119 fu s t0) (P_X12_page_309Y r0) := by
  refine T_of (fX12_page_J119.eq_1 ..) ?_
  have u1 := CI_b c (k := 309) (j := 20) bd_309_20
  have u2 := CI_b c (k := 309) (j := 36) bd_309_36
  have u3 := CI_b c (k := 309) (j := 43) bd_309_43
  have u4 := CI_b c (k := 309) (j := 44) bd_309_44
  have u5 := CI_b c (k := 309) (j := 58) bd_309_58
  have u6 := CI_b c (k := 316) (j := 0) bd_316_0
  have u7 := CI_b c (k := 329) (j := 0) bd_329_0
  have u8 := CI_b c (k := 329) (j := 1) bd_329_1
  have t9 : s 309 20 = r0 309 20 := f 309 20 (by decide)
  have t10 : s 316 0 = r0 316 0 := f 316 0 (by decide)
  have t11 : s 329 0 = r0 329 0 := f 329 0 (by decide)
  have t12 : s 329 1 = r0 329 1 := f 329 1 (by decide)
  exact T_ret ⟨c, f, p0, (by first | exact p1 | exact y_DD.z (by omega) (by omega)), p2, (by first | exact p3 | exact y_K.b0 (by omega) | exact y_K.k0 (by omega) | exact y_K.bk (by omega)), (by first | exact p4 | exact y_KM.z (by omega)), (by first | exact p5 | exact y_YM.b0 (by omega) | exact y_YM.k0 (by omega) | exact y_YM.bk (by omega)), ⟨t0, rfl, by omega, by omega⟩⟩
set_option maxHeartbeats 4000000 in
theorem sj_X12_page_309Y_J32 {fu : Nat} (hfu : 8589934592 ≤ fu) (r0 s : z_M) (c : z_CI s) (f : z_Fr R_X12_page_309 r0 s) (a1 : Int) (a2 : Int) (a3 : Int) (t1 : Int) (b1 : -2147483648 ≤ a1 ∧ a1 ≤ 2147483647) (b2 : -2147483648 ≤ a2 ∧ a2 ≤ 2147483647) (b3 : -2147483648 ≤ a3 ∧ a3 ≤ 2147483647) (d1 : 0 ≤ t1 ∧ t1 ≤ 1) (p0 : y_TA s) (p1 : y_DD s) (p2 : y_B s) (p3 : y_K s) (p4 : y_KM s) (p5 : y_YM s) : z_T (fX12_page_J32 fu s 309 a1 a2 a3 309 t1) (P_X12_page_309Y r0) := by
  refine T_of (fX12_page_J32.eq_1 ..) ?_
  have u1 := CI_b c (k := 309) (j := 20) bd_309_20
  have u2 := CI_b c (k := 309) (j := 36) bd_309_36
  have u3 := CI_b c (k := 309) (j := 43) bd_309_43
  have u4 := CI_b c (k := 309) (j := 44) bd_309_44
  have u5 := CI_b c (k := 309) (j := 58) bd_309_58
  have u6 := CI_b c (k := 316) (j := 0) bd_316_0
  have u7 := CI_b c (k := 329) (j := 0) bd_329_0
  have u8 := CI_b c (k := 329) (j := 1) bd_329_1
  have t9 : s 309 20 = r0 309 20 := f 309 20 (by decide)
  have t10 : s 316 0 = r0 316 0 := f 316 0 (by decide)
  have t11 : s 329 0 = r0 329 0 := f 329 0 (by decide)
  have t12 : s 329 1 = r0 329 1 := f 329 1 (by decide)
  refine T_if1 (by decide +kernel) ?_
  refine T_useI (sf_X12_bad_309 hfu s c t1 1 1 (by omega) (by omega) (by omega) (by omega)) (fun v18 s13 hq => ?_)
  obtain ⟨c14, f15, o19, ⟨x17, rfl, b20, b21, o22, o23⟩⟩ := hq
  refine T_vI ?_
  have f16 := z_Fr.tr (R := R_X12_page_309) f f15 rs_X12_bad_309__X12_page_309
  have t24 : s13 309 20 = s 309 20 := f15 309 20 (by decide)
  have t25 : s13 309 36 = s 309 36 := f15 309 36 (by decide)
  have t26 : s13 309 43 = s 309 43 := f15 309 43 (by decide)
  have t27 : s13 309 44 = s 309 44 := f15 309 44 (by decide)
  have t28 : s13 309 58 = s 309 58 := f15 309 58 (by decide)
  have t29 : s13 316 0 = s 316 0 := f15 316 0 (by decide)
  have t30 : s13 329 0 = s 329 0 := f15 329 0 (by decide)
  have t31 : s13 329 1 = s 329 1 := f15 329 1 (by decide)
  have r32 := y_TA.fr p0 (fun a b h => f15 a b (nz_X12_bad_309__316_328 a b h)) (fun a b h => f15 a b (nz_X12_bad_309__346_358 a b h)) (fun a b h => f15 a b (nz_X12_bad_309__361_373 a b h))
  have r33 := y_DD.fr p1 (f15 329 0 (by decide)) (f15 329 1 (by decide)) (fun b => f15 359 b (nr_X12_bad_309__359 b)) (fun b => f15 374 b (nr_X12_bad_309__374 b))
  have r34 := y_B.fr p2 (f15 309 20 (by decide)) (f15 316 0 (by decide)) (fun b => f15 3220 b (nr_X12_bad_309__3220 b)) (fun b => f15 3221 b (nr_X12_bad_309__3221 b)) (fun b => f15 3222 b (nr_X12_bad_309__3222 b)) (fun b => f15 361 b (nr_X12_bad_309__361 b))
  have r35 := y_K.fr p3 (by omega) (by omega) (f15 309 44 (by decide)) (f15 309 20 (by decide)) (f15 309 58 (by decide)) (fun b => f15 3438 b (nr_X12_bad_309__3438 b)) (fun b => f15 3220 b (nr_X12_bad_309__3220 b)) (fun a b h => f15 a b (nz_X12_bad_309__3452_3651 a b h))
  have r36 := y_KM.fr p4 (f15 309 20 (by decide)) (f15 309 36 (by decide)) (f15 309 38 (by decide)) (f15 309 39 (by decide)) (fun b => f15 312 b (nr_X12_bad_309__312 b)) (fun b => f15 331 b (nr_X12_bad_309__331 b)) (fun b => f15 346 b (nr_X12_bad_309__346 b)) (fun b => f15 361 b (nr_X12_bad_309__361 b)) (fun b => f15 391 b (nr_X12_bad_309__391 b)) (fun a b h => f15 a b (nz_X12_bad_309__407_606 a b h)) (fun a b h => f15 a b (nz_X12_bad_309__3220_3223 a b h)) (fun a b h => f15 a b (nz_X12_bad_309__3235_3437 a b h))
  have r37 := y_YM.fr p5 (by omega) (f15 309 44 (by decide)) (f15 309 20 (by decide)) (f15 309 58 (by decide)) (fun b => f15 312 b (nr_X12_bad_309__312 b)) (fun b => f15 331 b (nr_X12_bad_309__331 b)) (fun b => f15 346 b (nr_X12_bad_309__346 b)) (fun b => f15 361 b (nr_X12_bad_309__361 b)) (fun b => f15 391 b (nr_X12_bad_309__391 b)) (fun a b h => f15 a b (nz_X12_bad_309__407_606 a b h)) (fun a b h => f15 a b (nz_X12_bad_309__3220_3223 a b h)) (fun b => f15 3438 b (nr_X12_bad_309__3438 b)) (fun a b h => f15 a b (nz_X12_bad_309__3441_3450 a b h)) (fun a b h => f15 a b (nz_X12_bad_309__3452_3651 a b h))
  refine T_ite (fun h38 => ?_) (fun h38 => ?_)
  · refine T_if1 (by decide +kernel) ?_
    refine T_useN (sf_X12_laysGutters_309Y hfu s13 c14 r34 (by first | exact r35 | exact y_K.b0 (by omega) | exact y_K.k0 (by omega) | exact y_K.bk (by omega)) r32 (by first | exact r36 | exact y_KM.z (by omega)) (by first | exact r37 | exact y_YM.b0 (by omega) | exact y_YM.k0 (by omega) | exact y_YM.bk (by omega))) (fun v44 s39 hq => ?_)
    obtain ⟨c40, f41, o45, o46, o47, o48, o49, rfl⟩ := hq
    refine T_vN ?_
    have f42 := z_Fr.tr (R := R_X12_page_309) f16 f41 rs_X12_laysGutters_309__X12_page_309
    have t52 : s39 309 20 = s 309 20 := (f41 309 20 (by decide)).trans t24
    have t53 : s39 316 0 = s 316 0 := (f41 316 0 (by decide)).trans t29
    have t54 : s39 329 0 = s 329 0 := (f41 329 0 (by decide)).trans t30
    have t55 : s39 329 1 = s 329 1 := (f41 329 1 (by decide)).trans t31
    have u56 := CI_b c40 (k := 309) (j := 36) bd_309_36
    have u57 := CI_b c40 (k := 309) (j := 43) bd_309_43
    have u58 := CI_b c40 (k := 309) (j := 44) bd_309_44
    have u59 := CI_b c40 (k := 309) (j := 58) bd_309_58
    have r60 := y_TA.fr r32 (fun a b h => f41 a b (nz_X12_laysGutters_309__316_328 a b h)) (fun a b h => f41 a b (nz_X12_laysGutters_309__346_358 a b h)) (fun a b h => f41 a b (nz_X12_laysGutters_309__361_373 a b h))
    have r61 := y_DD.fr r33 (f41 329 0 (by decide)) (f41 329 1 (by decide)) (fun b => f41 359 b (nr_X12_laysGutters_309__359 b)) (fun b => f41 374 b (nr_X12_laysGutters_309__374 b))
    have r62 := y_B.fr r34 (f41 309 20 (by decide)) (f41 316 0 (by decide)) (fun b => f41 3220 b (nr_X12_laysGutters_309__3220 b)) (fun b => f41 3221 b (nr_X12_laysGutters_309__3221 b)) (fun b => f41 3222 b (nr_X12_laysGutters_309__3222 b)) (fun b => f41 361 b (nr_X12_laysGutters_309__361 b))
    clear t24
    clear t29
    clear t30
    clear t31
    refine T_if1 (by decide +kernel) ?_
    refine T_useI (sf_X12_pagesBy_309 hfu s39 c40 a1 (by omega) r62 (by first | exact o47 | exact y_K.B o45 (by omega) (by omega)) (by first | exact y_L.cg o46 (by omega) | exact y_K.L o45 (by omega) (by omega)) r60) (fun v68 s63 hq => ?_)
    obtain ⟨c64, f65, ⟨x67, rfl, b69, b70, o71⟩⟩ := hq
    refine T_vI ?_
    have f66 := z_Fr.tr (R := R_X12_page_309) f42 f65 rs_X12_pagesBy_309__X12_page_309
    have t72 : s63 309 20 = s 309 20 := (f65 309 20 (by decide)).trans t52
    have t73 : s63 309 36 = s39 309 36 := f65 309 36 (by decide)
    have t74 : s63 309 43 = s39 309 43 := f65 309 43 (by decide)
    have t75 : s63 309 44 = s39 309 44 := f65 309 44 (by decide)
    have t76 : s63 309 58 = s39 309 58 := f65 309 58 (by decide)
    have t77 : s63 316 0 = s 316 0 := (f65 316 0 (by decide)).trans t53
    have t78 : s63 329 0 = s 329 0 := (f65 329 0 (by decide)).trans t54
    have t79 : s63 329 1 = s 329 1 := (f65 329 1 (by decide)).trans t55
    have r80 := y_TA.fr r60 (fun a b h => f65 a b (nz_X12_pagesBy_309__316_328 a b h)) (fun a b h => f65 a b (nz_X12_pagesBy_309__346_358 a b h)) (fun a b h => f65 a b (nz_X12_pagesBy_309__361_373 a b h))
    have r81 := y_DD.fr r61 (f65 329 0 (by decide)) (f65 329 1 (by decide)) (fun b => f65 359 b (nr_X12_pagesBy_309__359 b)) (fun b => f65 374 b (nr_X12_pagesBy_309__374 b))
    have r82 := y_B.fr r62 (f65 309 20 (by decide)) (f65 316 0 (by decide)) (fun b => f65 3220 b (nr_X12_pagesBy_309__3220 b)) (fun b => f65 3221 b (nr_X12_pagesBy_309__3221 b)) (fun b => f65 3222 b (nr_X12_pagesBy_309__3222 b)) (fun b => f65 361 b (nr_X12_pagesBy_309__361 b))
    have r83 := y_K.fr o45 (by omega) (by omega) (f65 309 44 (by decide)) (f65 309 20 (by decide)) (f65 309 58 (by decide)) (fun b => f65 3438 b (nr_X12_pagesBy_309__3438 b)) (fun b => f65 3220 b (nr_X12_pagesBy_309__3220 b)) (fun a b h => f65 a b (nz_X12_pagesBy_309__3452_3651 a b h))
    have r84 := y_L.fr o46 (f65 309 20 (by decide)) (fun b => f65 3438 b (nr_X12_pagesBy_309__3438 b))
    have r85 := y_BK.fr o47 (by omega) (f65 309 20 (by decide)) (f65 309 58 (by decide)) (fun b => f65 3220 b (nr_X12_pagesBy_309__3220 b)) (fun a b h => f65 a b (nz_X12_pagesBy_309__3452_3651 a b h))
    have r86 := y_KM.fr o48 (f65 309 20 (by decide)) (f65 309 36 (by decide)) (f65 309 38 (by decide)) (f65 309 39 (by decide)) (fun b => f65 312 b (nr_X12_pagesBy_309__312 b)) (fun b => f65 331 b (nr_X12_pagesBy_309__331 b)) (fun b => f65 346 b (nr_X12_pagesBy_309__346 b)) (fun b => f65 361 b (nr_X12_pagesBy_309__361 b)) (fun b => f65 391 b (nr_X12_pagesBy_309__391 b)) (fun a b h => f65 a b (nz_X12_pagesBy_309__407_606 a b h)) (fun a b h => f65 a b (nz_X12_pagesBy_309__3220_3223 a b h)) (fun a b h => f65 a b (nz_X12_pagesBy_309__3235_3437 a b h))
    have r87 := y_YM.fr o49 (by omega) (f65 309 44 (by decide)) (f65 309 20 (by decide)) (f65 309 58 (by decide)) (fun b => f65 312 b (nr_X12_pagesBy_309__312 b)) (fun b => f65 331 b (nr_X12_pagesBy_309__331 b)) (fun b => f65 346 b (nr_X12_pagesBy_309__346 b)) (fun b => f65 361 b (nr_X12_pagesBy_309__361 b)) (fun b => f65 391 b (nr_X12_pagesBy_309__391 b)) (fun a b h => f65 a b (nz_X12_pagesBy_309__407_606 a b h)) (fun a b h => f65 a b (nz_X12_pagesBy_309__3220_3223 a b h)) (fun b => f65 3438 b (nr_X12_pagesBy_309__3438 b)) (fun a b h => f65 a b (nz_X12_pagesBy_309__3441_3450 a b h)) (fun a b h => f65 a b (nz_X12_pagesBy_309__3452_3651 a b h))
    clear t52
    clear t53
    clear t54
    clear t55
    refine T_leq (fun x88 e89 => ?_)
    first | (have w90 := z_wx e89 (by omega)) | (have w90 := z_wr e89)
    refine T_useI (sf_X12_in hfu s63 c64 a2 0 x88 (by omega) (by omega) (by omega)) (fun v96 s91 hq => ?_)
    obtain ⟨c92, f93, ⟨x95, rfl, b97, b98, o99⟩⟩ := hq
    refine T_vI ?_
    have q100 := z_Fr.eq (fun a b h => h) f93
    subst q100
    refine T_ite (fun h101 => ?_) (fun h101 => ?_)
    · refine T_ite (fun h102 => ?_) (fun h102 => ?_)
      · refine T_ite (fun h103 => ?_) (fun h103 => ?_)
        · refine T_if1 (by decide +kernel) ?_
          refine T_let 7653 (by decide +kernel) ?_
          refine T_if1 (z_ixl (n := 201) (by decide +kernel) (by omega) (by omega)) ?_
          refine T_leq (fun x104 e105 => ?_)
          have u106 := CI_b c64 (k := 7653) (j := a2) (bdr_7653 a2)
          refine T_if1 (by decide +kernel) ?_
          refine T_let 7653 (by decide +kernel) ?_
          refine T_leq (fun x107 e108 => ?_)
          first | (have w109 := z_wx e108 (by omega)) | (have w109 := z_wr e108)
          have n110 := y_PF.at o71 (i := a2) (j := x107) (by omega) (by omega) (by omega)
          refine T_if1 (z_ixl (n := 201) (by decide +kernel) (by omega) (by omega)) ?_
          refine T_leq (fun x111 e112 => ?_)
          have u113 := CI_b c64 (k := 7653) (j := x107) (bdr_7653 x107)
          refine T_leq (fun x114 e115 => ?_)
          first | (have w116 := z_wx e115 (by omega)) | (have w116 := z_wr e115)
          refine T_if1 (by decide +kernel) ?_
          refine T_useI (sf_X12_thickOf_309 hfu s63 c64 x104 x114 (by omega) (by omega) r82 (by first | exact r85 | exact y_K.B r83 (by omega) (by omega)) (by first | exact y_L.cg r84 (by omega) | exact y_K.L r83 (by omega) (by omega)) r80 (by omega) (by omega)) (fun v122 s117 hq => ?_)
          obtain ⟨c118, f119, ⟨x121, rfl, b123, b124⟩⟩ := hq
          refine T_vI ?_
          have f120 := z_Fr.tr (R := R_X12_page_309) f66 f119 rs_X12_thickOf_309__X12_page_309
          have t125 : s117 309 20 = s 309 20 := (f119 309 20 (by decide)).trans t72
          have t126 : s117 309 36 = s39 309 36 := (f119 309 36 (by decide)).trans t73
          have t127 : s117 309 43 = s39 309 43 := (f119 309 43 (by decide)).trans t74
          have t128 : s117 309 44 = s39 309 44 := (f119 309 44 (by decide)).trans t75
          have t129 : s117 309 58 = s39 309 58 := (f119 309 58 (by decide)).trans t76
          have t130 : s117 316 0 = s 316 0 := (f119 316 0 (by decide)).trans t77
          have t131 : s117 329 0 = s 329 0 := (f119 329 0 (by decide)).trans t78
          have t132 : s117 329 1 = s 329 1 := (f119 329 1 (by decide)).trans t79
          have r133 := y_TA.fr r80 (fun a b h => f119 a b (nz_X12_thickOf_309__316_328 a b h)) (fun a b h => f119 a b (nz_X12_thickOf_309__346_358 a b h)) (fun a b h => f119 a b (nz_X12_thickOf_309__361_373 a b h))
          have r134 := y_DD.fr r81 (f119 329 0 (by decide)) (f119 329 1 (by decide)) (fun b => f119 359 b (nr_X12_thickOf_309__359 b)) (fun b => f119 374 b (nr_X12_thickOf_309__374 b))
          have r135 := y_B.fr r82 (f119 309 20 (by decide)) (f119 316 0 (by decide)) (fun b => f119 3220 b (nr_X12_thickOf_309__3220 b)) (fun b => f119 3221 b (nr_X12_thickOf_309__3221 b)) (fun b => f119 3222 b (nr_X12_thickOf_309__3222 b)) (fun b => f119 361 b (nr_X12_thickOf_309__361 b))
          have r136 := y_K.fr r83 (by omega) (by omega) (f119 309 44 (by decide)) (f119 309 20 (by decide)) (f119 309 58 (by decide)) (fun b => f119 3438 b (nr_X12_thickOf_309__3438 b)) (fun b => f119 3220 b (nr_X12_thickOf_309__3220 b)) (fun a b h => f119 a b (nz_X12_thickOf_309__3452_3651 a b h))
          have r137 := y_L.fr r84 (f119 309 20 (by decide)) (fun b => f119 3438 b (nr_X12_thickOf_309__3438 b))
          have r138 := y_BK.fr r85 (by omega) (f119 309 20 (by decide)) (f119 309 58 (by decide)) (fun b => f119 3220 b (nr_X12_thickOf_309__3220 b)) (fun a b h => f119 a b (nz_X12_thickOf_309__3452_3651 a b h))
          have r139 := y_KM.fr r86 (f119 309 20 (by decide)) (f119 309 36 (by decide)) (f119 309 38 (by decide)) (f119 309 39 (by decide)) (fun b => f119 312 b (nr_X12_thickOf_309__312 b)) (fun b => f119 331 b (nr_X12_thickOf_309__331 b)) (fun b => f119 346 b (nr_X12_thickOf_309__346 b)) (fun b => f119 361 b (nr_X12_thickOf_309__361 b)) (fun b => f119 391 b (nr_X12_thickOf_309__391 b)) (fun a b h => f119 a b (nz_X12_thickOf_309__407_606 a b h)) (fun a b h => f119 a b (nz_X12_thickOf_309__3220_3223 a b h)) (fun a b h => f119 a b (nz_X12_thickOf_309__3235_3437 a b h))
          have r140 := y_YM.fr r87 (by omega) (f119 309 44 (by decide)) (f119 309 20 (by decide)) (f119 309 58 (by decide)) (fun b => f119 312 b (nr_X12_thickOf_309__312 b)) (fun b => f119 331 b (nr_X12_thickOf_309__331 b)) (fun b => f119 346 b (nr_X12_thickOf_309__346 b)) (fun b => f119 361 b (nr_X12_thickOf_309__361 b)) (fun b => f119 391 b (nr_X12_thickOf_309__391 b)) (fun a b h => f119 a b (nz_X12_thickOf_309__407_606 a b h)) (fun a b h => f119 a b (nz_X12_thickOf_309__3220_3223 a b h)) (fun b => f119 3438 b (nr_X12_thickOf_309__3438 b)) (fun a b h => f119 a b (nz_X12_thickOf_309__3441_3450 a b h)) (fun a b h => f119 a b (nz_X12_thickOf_309__3452_3651 a b h))
          have r141 := y_PF.fr o71 (f119 309 44 (by decide)) (fun b => f119 7653 b (nr_X12_thickOf_309__7653 b))
          clear t72
          clear t73
          clear t74
          clear t75
          clear t76
          clear t77
          clear t78
          clear t79
          exact sj_X12_page_309Y_J119 hfu r0 s117 c118 f120 x121 (by omega) r133 (by first | exact r134 | exact y_DD.z (by omega) (by omega)) r135 (by first | exact r136 | exact y_K.b0 (by omega) | exact y_K.k0 (by omega) | exact y_K.bk (by omega) | exact y_K.mk r137 (by omega) r138) (by first | exact r139 | exact y_KM.z (by omega)) (by first | exact r140 | exact y_YM.b0 (by omega) | exact y_YM.k0 (by omega) | exact y_YM.bk (by omega))
        · refine T_if1 (by decide +kernel) ?_
          refine T_let 7653 (by decide +kernel) ?_
          refine T_leq (fun x142 e143 => ?_)
          first | (have w144 := z_wx e143 (by omega)) | (have w144 := z_wr e143)
          refine T_if1 (z_ixl (n := 201) (by decide +kernel) (by omega) (by omega)) ?_
          refine T_leq (fun x145 e146 => ?_)
          have u147 := CI_b c64 (k := 7653) (j := x142) (bdr_7653 x142)
          refine T_if1 (by decide +kernel) ?_
          refine T_let 7653 (by decide +kernel) ?_
          refine T_if1 (z_ixl (n := 201) (by decide +kernel) (by omega) (by omega)) ?_
          refine T_leq (fun x148 e149 => ?_)
          have u150 := CI_b c64 (k := 7653) (j := a2) (bdr_7653 a2)
          refine T_leq (fun x151 e152 => ?_)
          first | (have w153 := z_wx e152 (by omega)) | (have w153 := z_wr e152)
          exact sj_X12_page_309Y_J119 hfu r0 s63 c64 f66 x151 (by omega) r80 (by first | exact r81 | exact y_DD.z (by omega) (by omega)) r82 (by first | exact r83 | exact y_K.b0 (by omega) | exact y_K.k0 (by omega) | exact y_K.bk (by omega) | exact y_K.mk r84 (by omega) r85) (by first | exact r86 | exact y_KM.z (by omega)) (by first | exact r87 | exact y_YM.b0 (by omega) | exact y_YM.k0 (by omega) | exact y_YM.bk (by omega))
      · refine T_if1 (by decide +kernel) ?_
        refine T_let 7653 (by decide +kernel) ?_
        refine T_if1 (z_ixl (n := 201) (by decide +kernel) (by omega) (by omega)) ?_
        refine T_leq (fun x154 e155 => ?_)
        have u156 := CI_b c64 (k := 7653) (j := a2) (bdr_7653 a2)
        exact sj_X12_page_309Y_J119 hfu r0 s63 c64 f66 x154 (by omega) r80 (by first | exact r81 | exact y_DD.z (by omega) (by omega)) r82 (by first | exact r83 | exact y_K.b0 (by omega) | exact y_K.k0 (by omega) | exact y_K.bk (by omega) | exact y_K.mk r84 (by omega) r85) (by first | exact r86 | exact y_KM.z (by omega)) (by first | exact r87 | exact y_YM.b0 (by omega) | exact y_YM.k0 (by omega) | exact y_YM.bk (by omega))
    · exact T_ret ⟨c64, f66, r80, (by first | exact r81 | exact y_DD.z (by omega) (by omega)), r82, (by first | exact r83 | exact y_K.b0 (by omega) | exact y_K.k0 (by omega) | exact y_K.bk (by omega) | exact y_K.mk r84 (by omega) r85), (by first | exact r86 | exact y_KM.z (by omega)), (by first | exact r87 | exact y_YM.b0 (by omega) | exact y_YM.k0 (by omega) | exact y_YM.bk (by omega)), ⟨(-1), rfl, by omega, by omega⟩⟩
  · exact T_ret ⟨c14, f16, r32, (by first | exact r33 | exact y_DD.z (by omega) (by omega)), r34, (by first | exact r35 | exact y_K.b0 (by omega) | exact y_K.k0 (by omega) | exact y_K.bk (by omega)), (by first | exact r36 | exact y_KM.z (by omega)), (by first | exact r37 | exact y_YM.b0 (by omega) | exact y_YM.k0 (by omega) | exact y_YM.bk (by omega)), ⟨0, rfl, by omega, by omega⟩⟩
theorem sj_X12_page_309Y_J27 {fu : Nat} (hfu : 8589934592 ≤ fu) (r0 s : z_M) (c : z_CI s) (f : z_Fr R_X12_page_309 r0 s) (a1 : Int) (a2 : Int) (a3 : Int) (b1 : -2147483648 ≤ a1 ∧ a1 ≤ 2147483647) (b2 : -2147483648 ≤ a2 ∧ a2 ≤ 2147483647) (b3 : -2147483648 ≤ a3 ∧ a3 ≤ 2147483647) (p0 : y_TA s) (p1 : y_DD s) (p2 : y_B s) (p3 : y_K s) (p4 : y_KM s) (p5 : y_YM s) : z_T (fX12_page_J27 fu s 309 a1 a2 a3 309) (P_X12_page_309Y r0) := by
  refine T_of (fX12_page_J27.eq_1 ..) ?_
  have u1 := CI_b c (k := 309) (j := 20) bd_309_20
  have u2 := CI_b c (k := 309) (j := 36) bd_309_36
  have u3 := CI_b c (k := 309) (j := 43) bd_309_43
  have u4 := CI_b c (k := 309) (j := 44) bd_309_44
  have u5 := CI_b c (k := 309) (j := 58) bd_309_58
  have u6 := CI_b c (k := 316) (j := 0) bd_316_0
  have u7 := CI_b c (k := 329) (j := 0) bd_329_0
  have u8 := CI_b c (k := 329) (j := 1) bd_329_1
  have t9 : s 309 20 = r0 309 20 := f 309 20 (by decide)
  have t10 : s 316 0 = r0 316 0 := f 316 0 (by decide)
  have t11 : s 329 0 = r0 329 0 := f 329 0 (by decide)
  have t12 : s 329 1 = r0 329 1 := f 329 1 (by decide)
  exact sj_X12_page_309Y_J32 hfu r0 s c f a1 a2 a3 1 (by omega) (by omega) (by omega) (by omega) p0 (by first | exact p1 | exact y_DD.z (by omega) (by omega)) p2 (by first | exact p3 | exact y_K.b0 (by omega) | exact y_K.k0 (by omega) | exact y_K.bk (by omega)) (by first | exact p4 | exact y_KM.z (by omega)) (by first | exact p5 | exact y_YM.b0 (by omega) | exact y_YM.k0 (by omega) | exact y_YM.bk (by omega))
theorem sf_X12_page_309Y {fu : Nat} (hfu : 8589934592 ≤ fu) (r0 : z_M) (c0 : z_CI r0) (a1 : Int) (a2 : Int) (a3 : Int) (b1 : -2147483648 ≤ a1 ∧ a1 ≤ 2147483647) (b2 : -2147483648 ≤ a2 ∧ a2 ≤ 2147483647) (b3 : -2147483648 ≤ a3 ∧ a3 ≤ 2147483647) (p0 : y_TA r0) (p1 : y_DD r0) (p2 : y_B r0) (p3 : y_K r0) (p4 : y_KM r0) (p5 : y_YM r0) : z_T (fX12_page fu r0 309 a1 a2 a3) (P_X12_page_309Y r0) := by
  refine T_of (fX12_page.eq_1 ..) ?_
  have u1 := CI_b c0 (k := 309) (j := 20) bd_309_20
  have u2 := CI_b c0 (k := 309) (j := 36) bd_309_36
  have u3 := CI_b c0 (k := 309) (j := 43) bd_309_43
  have u4 := CI_b c0 (k := 309) (j := 44) bd_309_44
  have u5 := CI_b c0 (k := 309) (j := 58) bd_309_58
  have u6 := CI_b c0 (k := 316) (j := 0) bd_316_0
  have u7 := CI_b c0 (k := 329) (j := 0) bd_329_0
  have u8 := CI_b c0 (k := 329) (j := 1) bd_329_1
  refine T_if1 (by decide +kernel) ?_
  refine T_upg c0 bd_309_0 (by omega) (fun s9 c10 g12 g13 e14 => ?_)
  have f11 := z_Fr.upf (R := R_X12_page_309) z_Fr.rf g12 g13 (Or.inr (Or.inr (⟨rfl, by decide⟩)))
  have t15 : s9 309 20 = r0 309 20 := g13 20 (by decide)
  have t16 : s9 309 36 = r0 309 36 := g13 36 (by decide)
  have t17 : s9 309 43 = r0 309 43 := g13 43 (by decide)
  have t18 : s9 309 44 = r0 309 44 := g13 44 (by decide)
  have t19 : s9 309 58 = r0 309 58 := g13 58 (by decide)
  have t20 : s9 316 0 = r0 316 0 := g12 316 0 (by decide)
  have t21 : s9 329 0 = r0 329 0 := g12 329 0 (by decide)
  have t22 : s9 329 1 = r0 329 1 := g12 329 1 (by decide)
  have r23 := y_TA.fr p0 (fun a b h => g12 a b (by omega)) (fun a b h => g12 a b (by omega)) (fun a b h => g12 a b (by omega))
  have r24 := y_DD.fr p1 (g12 329 0 (by decide)) (g12 329 1 (by decide)) (fun b => g12 359 b (by decide)) (fun b => g12 374 b (by decide))
  have r25 := y_B.fr p2 (g13 20 (by decide)) (g12 316 0 (by decide)) (fun b => g12 3220 b (by decide)) (fun b => g12 3221 b (by decide)) (fun b => g12 3222 b (by decide)) (fun b => g12 361 b (by decide))
  have r26 := y_K.fr p3 (by omega) (by omega) (g13 44 (by decide)) (g13 20 (by decide)) (g13 58 (by decide)) (fun b => g12 3438 b (by decide)) (fun b => g12 3220 b (by decide)) (fun a b h => g12 a b (by omega))
  have r27 := y_KM.fr p4 (g13 20 (by decide)) (g13 36 (by decide)) (g13 38 (by decide)) (g13 39 (by decide)) (fun b => g12 312 b (by decide)) (fun b => g12 331 b (by decide)) (fun b => g12 346 b (by decide)) (fun b => g12 361 b (by decide)) (fun b => g12 391 b (by decide)) (fun a b h => g12 a b (by omega)) (fun a b h => g12 a b (by omega)) (fun a b h => g12 a b (by omega))
  have r28 := y_YM.fr p5 (by omega) (g13 44 (by decide)) (g13 20 (by decide)) (g13 58 (by decide)) (fun b => g12 312 b (by decide)) (fun b => g12 331 b (by decide)) (fun b => g12 346 b (by decide)) (fun b => g12 361 b (by decide)) (fun b => g12 391 b (by decide)) (fun a b h => g12 a b (by omega)) (fun a b h => g12 a b (by omega)) (fun b => g12 3438 b (by decide)) (fun a b h => g12 a b (by omega)) (fun a b h => g12 a b (by omega))
  refine T_useI (sf_X12_in hfu s9 c10 a1 12 9999 (by omega) (by omega) (by omega)) (fun v34 s29 hq => ?_)
  obtain ⟨c30, f31, ⟨x33, rfl, b35, b36, o37⟩⟩ := hq
  refine T_vI ?_
  have q38 := z_Fr.eq (fun a b h => h) f31
  subst q38
  refine T_ite (fun h39 => ?_) (fun h39 => ?_)
  · exact sj_X12_page_309Y_J27 hfu r0 s9 c10 f11 a1 a2 a3 (by omega) (by omega) (by omega) r23 (by first | exact r24 | exact y_DD.z (by omega) (by omega)) r25 (by first | exact r26 | exact y_K.b0 (by omega) | exact y_K.k0 (by omega) | exact y_K.bk (by omega)) (by first | exact r27 | exact y_KM.z (by omega)) (by first | exact r28 | exact y_YM.b0 (by omega) | exact y_YM.k0 (by omega) | exact y_YM.bk (by omega))
  · refine T_useI (sf_X12_in hfu s9 c10 a3 0 2 (by omega) (by omega) (by omega)) (fun v45 s40 hq => ?_)
    obtain ⟨c41, f42, ⟨x44, rfl, b46, b47, o48⟩⟩ := hq
    refine T_vI ?_
    have q49 := z_Fr.eq (fun a b h => h) f42
    subst q49
    refine T_ite (fun h50 => ?_) (fun h50 => ?_)
    · exact sj_X12_page_309Y_J32 hfu r0 s9 c10 f11 a1 a2 a3 0 (by omega) (by omega) (by omega) (by omega) r23 (by first | exact r24 | exact y_DD.z (by omega) (by omega)) r25 (by first | exact r26 | exact y_K.b0 (by omega) | exact y_K.k0 (by omega) | exact y_K.bk (by omega)) (by first | exact r27 | exact y_KM.z (by omega)) (by first | exact r28 | exact y_YM.b0 (by omega) | exact y_YM.k0 (by omega) | exact y_YM.bk (by omega))
    · exact sj_X12_page_309Y_J27 hfu r0 s9 c10 f11 a1 a2 a3 (by omega) (by omega) (by omega) r23 (by first | exact r24 | exact y_DD.z (by omega) (by omega)) r25 (by first | exact r26 | exact y_K.b0 (by omega) | exact y_K.k0 (by omega) | exact y_K.bk (by omega)) (by first | exact r27 | exact y_KM.z (by omega)) (by first | exact r28 | exact y_YM.b0 (by omega) | exact y_YM.k0 (by omega) | exact y_YM.bk (by omega))
abbrev P_X12_narrow_309Y (r0 : z_M) : z_V → z_M → Prop := fun v s' => z_CI s' ∧ z_Fr R_X12_narrow_309 r0 s' ∧ (y_TA s') ∧ (y_DD s') ∧ (y_B s') ∧ (y_K s') ∧ (y_KM s') ∧ (y_YM s') ∧ (∃ x, v = vI x ∧ -2147483648 ≤ x ∧ x ≤ 2147483647)
theorem sl_X12_narrow_309Y_L39 {fu : Nat} (hfu : 8589934592 ≤ fu) (r0 : z_M) (a1 : Int) (b1 : -2147483648 ≤ a1 ∧ a1 ≤ 2147483647) {k : z_M → z_O} (hk : ∀ (s' : z_M), z_CI s' → z_Fr R_X12_narrow_309 r0 s' → (y_TA s') → (y_DD s') → (y_B s') → (y_K s') → (y_KM s') → (y_YM s') → z_T (k s') (P_X12_narrow_309Y r0)) : ∀ (F : Nat) (s : z_M) (a2 : Int), z_CI s → z_Fr R_X12_narrow_309 r0 s → (12 ≤ a2 ∧ a2 ≤ 10000) → (y_L s (s 309 44)) → (y_BK s) → (y_TA s) → (y_DD s) → (y_B s) → (y_K s) → (y_KM s) → (y_YM s) → (2147483647 - a2 < (F : Int)) → z_T (fX12_narrow_L39 fu 309 a1 F s a2 k) (P_X12_narrow_309Y r0) := by
  intro F
  induction F with
  | zero =>
    intro s a2 c f b2 i0 i1 i2 i3 i4 i5 i6 i7 hm
    have u43 := CI_b c (k := 309) (j := 20) bd_309_20
    have u44 := CI_b c (k := 309) (j := 36) bd_309_36
    have u45 := CI_b c (k := 309) (j := 43) bd_309_43
    have u46 := CI_b c (k := 309) (j := 44) bd_309_44
    have u47 := CI_b c (k := 309) (j := 58) bd_309_58
    have u48 := CI_b c (k := 316) (j := 0) bd_316_0
    have u49 := CI_b c (k := 329) (j := 0) bd_329_0
    have u50 := CI_b c (k := 329) (j := 1) bd_329_1
    exfalso; omega
  | succ F ih =>
    intro s a2 c f b2 i0 i1 i2 i3 i4 i5 i6 i7 hm
    refine T_of (fX12_narrow_L39.eq_2 ..) ?_
    have u1 := CI_b c (k := 309) (j := 20) bd_309_20
    have u2 := CI_b c (k := 309) (j := 36) bd_309_36
    have u3 := CI_b c (k := 309) (j := 43) bd_309_43
    have u4 := CI_b c (k := 309) (j := 44) bd_309_44
    have u5 := CI_b c (k := 309) (j := 58) bd_309_58
    have u6 := CI_b c (k := 316) (j := 0) bd_316_0
    have u7 := CI_b c (k := 329) (j := 0) bd_329_0
    have u8 := CI_b c (k := 329) (j := 1) bd_329_1
    have t9 : s 309 20 = r0 309 20 := f 309 20 (by decide)
    have t10 : s 316 0 = r0 316 0 := f 316 0 (by decide)
    have t11 : s 329 0 = r0 329 0 := f 329 0 (by decide)
    have t12 : s 329 1 = r0 329 1 := f 329 1 (by decide)
    refine T_ite (fun h13 => ?_) (fun h13 => ?_)
    · exact hk s c f i2 (by first | exact i3 | exact y_DD.z (by omega) (by omega)) i4 (by first | exact i5 | exact y_K.b0 (by omega) | exact y_K.k0 (by omega) | exact y_K.bk (by omega) | exact y_K.mk i0 (by omega) i1) (by first | exact i6 | exact y_KM.z (by omega)) (by first | exact i7 | exact y_YM.b0 (by omega) | exact y_YM.k0 (by omega) | exact y_YM.bk (by omega))
    · refine T_if1 (by decide +kernel) ?_
      refine T_useI (sf_X12_pagesBy_309 hfu s c a2 (by omega) i4 (by first | exact i1 | exact y_K.B i5 (by omega) (by omega)) (by first | exact y_L.cg i0 (by omega) | exact y_K.L i5 (by omega) (by omega)) i2) (fun v19 s14 hq => ?_)
      obtain ⟨c15, f16, ⟨x18, rfl, b20, b21, o22⟩⟩ := hq
      refine T_vI ?_
      have f17 := z_Fr.tr (R := R_X12_narrow_309) f f16 rs_X12_pagesBy_309__X12_narrow_309
      have t23 : s14 309 20 = s 309 20 := f16 309 20 (by decide)
      have t24 : s14 309 36 = s 309 36 := f16 309 36 (by decide)
      have t25 : s14 309 43 = s 309 43 := f16 309 43 (by decide)
      have t26 : s14 309 44 = s 309 44 := f16 309 44 (by decide)
      have t27 : s14 309 58 = s 309 58 := f16 309 58 (by decide)
      have t28 : s14 316 0 = s 316 0 := f16 316 0 (by decide)
      have t29 : s14 329 0 = s 329 0 := f16 329 0 (by decide)
      have t30 : s14 329 1 = s 329 1 := f16 329 1 (by decide)
      have r31 := y_L.fr i0 (f16 309 20 (by decide)) (fun b => f16 3438 b (nr_X12_pagesBy_309__3438 b))
      have r32 := y_BK.fr i1 (by omega) (f16 309 20 (by decide)) (f16 309 58 (by decide)) (fun b => f16 3220 b (nr_X12_pagesBy_309__3220 b)) (fun a b h => f16 a b (nz_X12_pagesBy_309__3452_3651 a b h))
      have r33 := y_TA.fr i2 (fun a b h => f16 a b (nz_X12_pagesBy_309__316_328 a b h)) (fun a b h => f16 a b (nz_X12_pagesBy_309__346_358 a b h)) (fun a b h => f16 a b (nz_X12_pagesBy_309__361_373 a b h))
      have r34 := y_DD.fr i3 (f16 329 0 (by decide)) (f16 329 1 (by decide)) (fun b => f16 359 b (nr_X12_pagesBy_309__359 b)) (fun b => f16 374 b (nr_X12_pagesBy_309__374 b))
      have r35 := y_B.fr i4 (f16 309 20 (by decide)) (f16 316 0 (by decide)) (fun b => f16 3220 b (nr_X12_pagesBy_309__3220 b)) (fun b => f16 3221 b (nr_X12_pagesBy_309__3221 b)) (fun b => f16 3222 b (nr_X12_pagesBy_309__3222 b)) (fun b => f16 361 b (nr_X12_pagesBy_309__361 b))
      have r36 := y_K.fr i5 (by omega) (by omega) (f16 309 44 (by decide)) (f16 309 20 (by decide)) (f16 309 58 (by decide)) (fun b => f16 3438 b (nr_X12_pagesBy_309__3438 b)) (fun b => f16 3220 b (nr_X12_pagesBy_309__3220 b)) (fun a b h => f16 a b (nz_X12_pagesBy_309__3452_3651 a b h))
      have r37 := y_KM.fr i6 (f16 309 20 (by decide)) (f16 309 36 (by decide)) (f16 309 38 (by decide)) (f16 309 39 (by decide)) (fun b => f16 312 b (nr_X12_pagesBy_309__312 b)) (fun b => f16 331 b (nr_X12_pagesBy_309__331 b)) (fun b => f16 346 b (nr_X12_pagesBy_309__346 b)) (fun b => f16 361 b (nr_X12_pagesBy_309__361 b)) (fun b => f16 391 b (nr_X12_pagesBy_309__391 b)) (fun a b h => f16 a b (nz_X12_pagesBy_309__407_606 a b h)) (fun a b h => f16 a b (nz_X12_pagesBy_309__3220_3223 a b h)) (fun a b h => f16 a b (nz_X12_pagesBy_309__3235_3437 a b h))
      have r38 := y_YM.fr i7 (by omega) (f16 309 44 (by decide)) (f16 309 20 (by decide)) (f16 309 58 (by decide)) (fun b => f16 312 b (nr_X12_pagesBy_309__312 b)) (fun b => f16 331 b (nr_X12_pagesBy_309__331 b)) (fun b => f16 346 b (nr_X12_pagesBy_309__346 b)) (fun b => f16 361 b (nr_X12_pagesBy_309__361 b)) (fun b => f16 391 b (nr_X12_pagesBy_309__391 b)) (fun a b h => f16 a b (nz_X12_pagesBy_309__407_606 a b h)) (fun a b h => f16 a b (nz_X12_pagesBy_309__3220_3223 a b h)) (fun b => f16 3438 b (nr_X12_pagesBy_309__3438 b)) (fun a b h => f16 a b (nz_X12_pagesBy_309__3441_3450 a b h)) (fun a b h => f16 a b (nz_X12_pagesBy_309__3452_3651 a b h))
      refine T_ite (fun h39 => ?_) (fun h39 => ?_)
      · refine T_leq (fun x40 e41 => ?_)
        first | (have w42 := z_wx e41 (by omega)) | (have w42 := z_wr e41)
        exact ih s14 x40 c15 f17 (by omega) (by first | exact y_L.cg r31 (by omega) | exact y_K.L r36 (by omega) (by omega)) (by first | exact r32 | exact y_K.B r36 (by omega) (by omega)) r33 (by first | exact r34 | exact y_DD.z (by omega) (by omega)) r35 (by first | exact r36 | exact y_K.b0 (by omega) | exact y_K.k0 (by omega) | exact y_K.bk (by omega) | exact y_K.mk r31 (by omega) r32) (by first | exact r37 | exact y_KM.z (by omega)) (by first | exact r38 | exact y_YM.b0 (by omega) | exact y_YM.k0 (by omega) | exact y_YM.bk (by omega)) (by omega)
      · exact T_ret ⟨c15, f17, r33, (by first | exact r34 | exact y_DD.z (by omega) (by omega)), r35, (by first | exact r36 | exact y_K.b0 (by omega) | exact y_K.k0 (by omega) | exact y_K.bk (by omega) | exact y_K.mk r31 (by omega) r32), (by first | exact r37 | exact y_KM.z (by omega)), (by first | exact r38 | exact y_YM.b0 (by omega) | exact y_YM.k0 (by omega) | exact y_YM.bk (by omega)), ⟨a2, rfl, by omega, by omega⟩⟩
theorem sj_X12_narrow_309Y_J22 {fu : Nat} (hfu : 8589934592 ≤ fu) (r0 s : z_M) (c : z_CI s) (f : z_Fr R_X12_narrow_309 r0 s) (a1 : Int) (t1 : Int) (b1 : -2147483648 ≤ a1 ∧ a1 ≤ 2147483647) (d1 : 0 ≤ t1 ∧ t1 ≤ 1) (p0 : y_TA s) (p1 : y_DD s) (p2 : y_B s) (p3 : y_K s) (p4 : y_KM s) (p5 : y_YM s) : z_T (fX12_narrow_J22 fu s 309 a1 309 t1) (P_X12_narrow_309Y r0) := by
  refine T_of (fX12_narrow_J22.eq_1 ..) ?_
  have u1 := CI_b c (k := 309) (j := 20) bd_309_20
  have u2 := CI_b c (k := 309) (j := 36) bd_309_36
  have u3 := CI_b c (k := 309) (j := 43) bd_309_43
  have u4 := CI_b c (k := 309) (j := 44) bd_309_44
  have u5 := CI_b c (k := 309) (j := 58) bd_309_58
  have u6 := CI_b c (k := 316) (j := 0) bd_316_0
  have u7 := CI_b c (k := 329) (j := 0) bd_329_0
  have u8 := CI_b c (k := 329) (j := 1) bd_329_1
  have t9 : s 309 20 = r0 309 20 := f 309 20 (by decide)
  have t10 : s 316 0 = r0 316 0 := f 316 0 (by decide)
  have t11 : s 329 0 = r0 329 0 := f 329 0 (by decide)
  have t12 : s 329 1 = r0 329 1 := f 329 1 (by decide)
  refine T_if1 (by decide +kernel) ?_
  refine T_useI (sf_X12_bad_309 hfu s c t1 1 1 (by omega) (by omega) (by omega) (by omega)) (fun v18 s13 hq => ?_)
  obtain ⟨c14, f15, o19, ⟨x17, rfl, b20, b21, o22, o23⟩⟩ := hq
  refine T_vI ?_
  have f16 := z_Fr.tr (R := R_X12_narrow_309) f f15 rs_X12_bad_309__X12_narrow_309
  have t24 : s13 309 20 = s 309 20 := f15 309 20 (by decide)
  have t25 : s13 309 36 = s 309 36 := f15 309 36 (by decide)
  have t26 : s13 309 43 = s 309 43 := f15 309 43 (by decide)
  have t27 : s13 309 44 = s 309 44 := f15 309 44 (by decide)
  have t28 : s13 309 58 = s 309 58 := f15 309 58 (by decide)
  have t29 : s13 316 0 = s 316 0 := f15 316 0 (by decide)
  have t30 : s13 329 0 = s 329 0 := f15 329 0 (by decide)
  have t31 : s13 329 1 = s 329 1 := f15 329 1 (by decide)
  have r32 := y_TA.fr p0 (fun a b h => f15 a b (nz_X12_bad_309__316_328 a b h)) (fun a b h => f15 a b (nz_X12_bad_309__346_358 a b h)) (fun a b h => f15 a b (nz_X12_bad_309__361_373 a b h))
  have r33 := y_DD.fr p1 (f15 329 0 (by decide)) (f15 329 1 (by decide)) (fun b => f15 359 b (nr_X12_bad_309__359 b)) (fun b => f15 374 b (nr_X12_bad_309__374 b))
  have r34 := y_B.fr p2 (f15 309 20 (by decide)) (f15 316 0 (by decide)) (fun b => f15 3220 b (nr_X12_bad_309__3220 b)) (fun b => f15 3221 b (nr_X12_bad_309__3221 b)) (fun b => f15 3222 b (nr_X12_bad_309__3222 b)) (fun b => f15 361 b (nr_X12_bad_309__361 b))
  have r35 := y_K.fr p3 (by omega) (by omega) (f15 309 44 (by decide)) (f15 309 20 (by decide)) (f15 309 58 (by decide)) (fun b => f15 3438 b (nr_X12_bad_309__3438 b)) (fun b => f15 3220 b (nr_X12_bad_309__3220 b)) (fun a b h => f15 a b (nz_X12_bad_309__3452_3651 a b h))
  have r36 := y_KM.fr p4 (f15 309 20 (by decide)) (f15 309 36 (by decide)) (f15 309 38 (by decide)) (f15 309 39 (by decide)) (fun b => f15 312 b (nr_X12_bad_309__312 b)) (fun b => f15 331 b (nr_X12_bad_309__331 b)) (fun b => f15 346 b (nr_X12_bad_309__346 b)) (fun b => f15 361 b (nr_X12_bad_309__361 b)) (fun b => f15 391 b (nr_X12_bad_309__391 b)) (fun a b h => f15 a b (nz_X12_bad_309__407_606 a b h)) (fun a b h => f15 a b (nz_X12_bad_309__3220_3223 a b h)) (fun a b h => f15 a b (nz_X12_bad_309__3235_3437 a b h))
  have r37 := y_YM.fr p5 (by omega) (f15 309 44 (by decide)) (f15 309 20 (by decide)) (f15 309 58 (by decide)) (fun b => f15 312 b (nr_X12_bad_309__312 b)) (fun b => f15 331 b (nr_X12_bad_309__331 b)) (fun b => f15 346 b (nr_X12_bad_309__346 b)) (fun b => f15 361 b (nr_X12_bad_309__361 b)) (fun b => f15 391 b (nr_X12_bad_309__391 b)) (fun a b h => f15 a b (nz_X12_bad_309__407_606 a b h)) (fun a b h => f15 a b (nz_X12_bad_309__3220_3223 a b h)) (fun b => f15 3438 b (nr_X12_bad_309__3438 b)) (fun a b h => f15 a b (nz_X12_bad_309__3441_3450 a b h)) (fun a b h => f15 a b (nz_X12_bad_309__3452_3651 a b h))
  refine T_ite (fun h38 => ?_) (fun h38 => ?_)
  · refine T_if1 (by decide +kernel) ?_
    refine T_useN (sf_X12_laysGutters_309Y hfu s13 c14 r34 (by first | exact r35 | exact y_K.b0 (by omega) | exact y_K.k0 (by omega) | exact y_K.bk (by omega)) r32 (by first | exact r36 | exact y_KM.z (by omega)) (by first | exact r37 | exact y_YM.b0 (by omega) | exact y_YM.k0 (by omega) | exact y_YM.bk (by omega))) (fun v44 s39 hq => ?_)
    obtain ⟨c40, f41, o45, o46, o47, o48, o49, rfl⟩ := hq
    refine T_vN ?_
    have f42 := z_Fr.tr (R := R_X12_narrow_309) f16 f41 rs_X12_laysGutters_309__X12_narrow_309
    have t52 : s39 309 20 = s 309 20 := (f41 309 20 (by decide)).trans t24
    have t53 : s39 316 0 = s 316 0 := (f41 316 0 (by decide)).trans t29
    have t54 : s39 329 0 = s 329 0 := (f41 329 0 (by decide)).trans t30
    have t55 : s39 329 1 = s 329 1 := (f41 329 1 (by decide)).trans t31
    have u56 := CI_b c40 (k := 309) (j := 36) bd_309_36
    have u57 := CI_b c40 (k := 309) (j := 43) bd_309_43
    have u58 := CI_b c40 (k := 309) (j := 44) bd_309_44
    have u59 := CI_b c40 (k := 309) (j := 58) bd_309_58
    have r60 := y_TA.fr r32 (fun a b h => f41 a b (nz_X12_laysGutters_309__316_328 a b h)) (fun a b h => f41 a b (nz_X12_laysGutters_309__346_358 a b h)) (fun a b h => f41 a b (nz_X12_laysGutters_309__361_373 a b h))
    have r61 := y_DD.fr r33 (f41 329 0 (by decide)) (f41 329 1 (by decide)) (fun b => f41 359 b (nr_X12_laysGutters_309__359 b)) (fun b => f41 374 b (nr_X12_laysGutters_309__374 b))
    have r62 := y_B.fr r34 (f41 309 20 (by decide)) (f41 316 0 (by decide)) (fun b => f41 3220 b (nr_X12_laysGutters_309__3220 b)) (fun b => f41 3221 b (nr_X12_laysGutters_309__3221 b)) (fun b => f41 3222 b (nr_X12_laysGutters_309__3222 b)) (fun b => f41 361 b (nr_X12_laysGutters_309__361 b))
    clear t24
    clear t29
    clear t30
    clear t31
    refine sl_X12_narrow_309Y_L39 hfu r0 a1 (by omega) (fun s63 c64 f65 g66 g67 g68 g69 g70 g71 => ?_) fu s39 12 c40 f42 (by omega) (by first | exact y_L.cg o46 (by omega) | exact y_K.L o45 (by omega) (by omega)) (by first | exact o47 | exact y_K.B o45 (by omega) (by omega)) r60 (by first | exact r61 | exact y_DD.z (by omega) (by omega)) r62 (by first | exact o45 | exact y_K.b0 (by omega) | exact y_K.k0 (by omega) | exact y_K.bk (by omega) | exact y_K.mk o46 (by omega) o47) (by first | exact o48 | exact y_KM.z (by omega)) (by first | exact o49 | exact y_YM.b0 (by omega) | exact y_YM.k0 (by omega) | exact y_YM.bk (by omega)) (by omega)
    have u72 := CI_b c64 (k := 309) (j := 20) bd_309_20
    have u73 := CI_b c64 (k := 309) (j := 36) bd_309_36
    have u74 := CI_b c64 (k := 309) (j := 43) bd_309_43
    have u75 := CI_b c64 (k := 309) (j := 44) bd_309_44
    have u76 := CI_b c64 (k := 309) (j := 58) bd_309_58
    have u77 := CI_b c64 (k := 316) (j := 0) bd_316_0
    have u78 := CI_b c64 (k := 329) (j := 0) bd_329_0
    have u79 := CI_b c64 (k := 329) (j := 1) bd_329_1
    have t80 : s63 309 20 = r0 309 20 := f65 309 20 (by decide)
    have t81 : s63 316 0 = r0 316 0 := f65 316 0 (by decide)
    have t82 : s63 329 0 = r0 329 0 := f65 329 0 (by decide)
    have t83 : s63 329 1 = r0 329 1 := f65 329 1 (by decide)
    exact T_ret ⟨c64, f65, g66, (by first | exact g67 | exact y_DD.z (by omega) (by omega)), g68, (by first | exact g69 | exact y_K.b0 (by omega) | exact y_K.k0 (by omega) | exact y_K.bk (by omega)), (by first | exact g70 | exact y_KM.z (by omega)), (by first | exact g71 | exact y_YM.b0 (by omega) | exact y_YM.k0 (by omega) | exact y_YM.bk (by omega)), ⟨(-1), rfl, by omega, by omega⟩⟩
  · exact T_ret ⟨c14, f16, r32, (by first | exact r33 | exact y_DD.z (by omega) (by omega)), r34, (by first | exact r35 | exact y_K.b0 (by omega) | exact y_K.k0 (by omega) | exact y_K.bk (by omega)), (by first | exact r36 | exact y_KM.z (by omega)), (by first | exact r37 | exact y_YM.b0 (by omega) | exact y_YM.k0 (by omega) | exact y_YM.bk (by omega)), ⟨0, rfl, by omega, by omega⟩⟩
theorem sf_X12_narrow_309Y {fu : Nat} (hfu : 8589934592 ≤ fu) (r0 : z_M) (c0 : z_CI r0) (a1 : Int) (b1 : -2147483648 ≤ a1 ∧ a1 ≤ 2147483647) (p0 : y_TA r0) (p1 : y_DD r0) (p2 : y_B r0) (p3 : y_K r0) (p4 : y_KM r0) (p5 : y_YM r0) : z_T (fX12_narrow fu r0 309 a1) (P_X12_narrow_309Y r0) := by
  refine T_of (fX12_narrow.eq_1 ..) ?_
  have u1 := CI_b c0 (k := 309) (j := 20) bd_309_20
  have u2 := CI_b c0 (k := 309) (j := 36) bd_309_36
  have u3 := CI_b c0 (k := 309) (j := 43) bd_309_43
  have u4 := CI_b c0 (k := 309) (j := 44) bd_309_44
  have u5 := CI_b c0 (k := 309) (j := 58) bd_309_58
  have u6 := CI_b c0 (k := 316) (j := 0) bd_316_0
  have u7 := CI_b c0 (k := 329) (j := 0) bd_329_0
  have u8 := CI_b c0 (k := 329) (j := 1) bd_329_1
  refine T_if1 (by decide +kernel) ?_
  refine T_upg c0 bd_309_0 (by omega) (fun s9 c10 g12 g13 e14 => ?_)
  have f11 := z_Fr.upf (R := R_X12_narrow_309) z_Fr.rf g12 g13 (Or.inr (Or.inr (⟨rfl, by decide⟩)))
  have t15 : s9 309 20 = r0 309 20 := g13 20 (by decide)
  have t16 : s9 309 36 = r0 309 36 := g13 36 (by decide)
  have t17 : s9 309 43 = r0 309 43 := g13 43 (by decide)
  have t18 : s9 309 44 = r0 309 44 := g13 44 (by decide)
  have t19 : s9 309 58 = r0 309 58 := g13 58 (by decide)
  have t20 : s9 316 0 = r0 316 0 := g12 316 0 (by decide)
  have t21 : s9 329 0 = r0 329 0 := g12 329 0 (by decide)
  have t22 : s9 329 1 = r0 329 1 := g12 329 1 (by decide)
  have r23 := y_TA.fr p0 (fun a b h => g12 a b (by omega)) (fun a b h => g12 a b (by omega)) (fun a b h => g12 a b (by omega))
  have r24 := y_DD.fr p1 (g12 329 0 (by decide)) (g12 329 1 (by decide)) (fun b => g12 359 b (by decide)) (fun b => g12 374 b (by decide))
  have r25 := y_B.fr p2 (g13 20 (by decide)) (g12 316 0 (by decide)) (fun b => g12 3220 b (by decide)) (fun b => g12 3221 b (by decide)) (fun b => g12 3222 b (by decide)) (fun b => g12 361 b (by decide))
  have r26 := y_K.fr p3 (by omega) (by omega) (g13 44 (by decide)) (g13 20 (by decide)) (g13 58 (by decide)) (fun b => g12 3438 b (by decide)) (fun b => g12 3220 b (by decide)) (fun a b h => g12 a b (by omega))
  have r27 := y_KM.fr p4 (g13 20 (by decide)) (g13 36 (by decide)) (g13 38 (by decide)) (g13 39 (by decide)) (fun b => g12 312 b (by decide)) (fun b => g12 331 b (by decide)) (fun b => g12 346 b (by decide)) (fun b => g12 361 b (by decide)) (fun b => g12 391 b (by decide)) (fun a b h => g12 a b (by omega)) (fun a b h => g12 a b (by omega)) (fun a b h => g12 a b (by omega))
  have r28 := y_YM.fr p5 (by omega) (g13 44 (by decide)) (g13 20 (by decide)) (g13 58 (by decide)) (fun b => g12 312 b (by decide)) (fun b => g12 331 b (by decide)) (fun b => g12 346 b (by decide)) (fun b => g12 361 b (by decide)) (fun b => g12 391 b (by decide)) (fun a b h => g12 a b (by omega)) (fun a b h => g12 a b (by omega)) (fun b => g12 3438 b (by decide)) (fun a b h => g12 a b (by omega)) (fun a b h => g12 a b (by omega))
  refine T_useI (sf_X12_in hfu s9 c10 a1 1 200 (by omega) (by omega) (by omega)) (fun v34 s29 hq => ?_)
  obtain ⟨c30, f31, ⟨x33, rfl, b35, b36, o37⟩⟩ := hq
  refine T_vI ?_
  have q38 := z_Fr.eq (fun a b h => h) f31
  subst q38
  refine T_ite (fun h39 => ?_) (fun h39 => ?_)
  · exact sj_X12_narrow_309Y_J22 hfu r0 s9 c10 f11 a1 0 (by omega) (by omega) r23 (by first | exact r24 | exact y_DD.z (by omega) (by omega)) r25 (by first | exact r26 | exact y_K.b0 (by omega) | exact y_K.k0 (by omega) | exact y_K.bk (by omega)) (by first | exact r27 | exact y_KM.z (by omega)) (by first | exact r28 | exact y_YM.b0 (by omega) | exact y_YM.k0 (by omega) | exact y_YM.bk (by omega))
  · exact sj_X12_narrow_309Y_J22 hfu r0 s9 c10 f11 a1 1 (by omega) (by omega) r23 (by first | exact r24 | exact y_DD.z (by omega) (by omega)) r25 (by first | exact r26 | exact y_K.b0 (by omega) | exact y_K.k0 (by omega) | exact y_K.bk (by omega)) (by first | exact r27 | exact y_KM.z (by omega)) (by first | exact r28 | exact y_YM.b0 (by omega) | exact y_YM.k0 (by omega) | exact y_YM.bk (by omega))
abbrev P_X12_ends_309Y (r0 : z_M) : z_V → z_M → Prop := fun v s' => z_CI s' ∧ z_Fr R_X12_ends_309 r0 s' ∧ (y_TA s') ∧ (y_DD s') ∧ (y_B s') ∧ (y_K s') ∧ (y_KM s') ∧ (y_YM s') ∧ (∃ x, v = vI x ∧ 0 ≤ x ∧ x ≤ 1)
theorem nz_X12_mayEnd_309__3441_3450 (a b : Int) (h : 3441 ≤ a ∧ a ≤ 3450) : ¬ R_X12_mayEnd_309 a b := by
  unfold R_X12_mayEnd_309; omega
theorem sj_X12_ends_309Y_J19 {fu : Nat} (hfu : 8589934592 ≤ fu) (r0 s : z_M) (c : z_CI s) (f : z_Fr R_X12_ends_309 r0 s) (a1 : Int) (t1 : Int) (b1 : -2147483648 ≤ a1 ∧ a1 ≤ 2147483647) (d1 : 0 ≤ t1 ∧ t1 ≤ 1) (p0 : t1 = 1 ∨ (0 ≤ a1 ∧ a1 < s 309 20)) (p1 : y_TA s) (p2 : y_DD s) (p3 : y_B s) (p4 : y_K s) (p5 : y_KM s) (p6 : y_YM s) : z_T (fX12_ends_J19 fu s 309 a1 309 t1) (P_X12_ends_309Y r0) := by
  refine T_of (fX12_ends_J19.eq_1 ..) ?_
  have u1 := CI_b c (k := 309) (j := 20) bd_309_20
  have u2 := CI_b c (k := 309) (j := 36) bd_309_36
  have u3 := CI_b c (k := 309) (j := 43) bd_309_43
  have u4 := CI_b c (k := 309) (j := 44) bd_309_44
  have u5 := CI_b c (k := 309) (j := 58) bd_309_58
  have u6 := CI_b c (k := 316) (j := 0) bd_316_0
  have u7 := CI_b c (k := 329) (j := 0) bd_329_0
  have u8 := CI_b c (k := 329) (j := 1) bd_329_1
  have t9 : s 309 20 = r0 309 20 := f 309 20 (by decide)
  have t10 : s 309 44 = r0 309 44 := f 309 44 (by decide)
  have t11 : s 309 58 = r0 309 58 := f 309 58 (by decide)
  have t12 : s 316 0 = r0 316 0 := f 316 0 (by decide)
  have t13 : s 329 0 = r0 329 0 := f 329 0 (by decide)
  have t14 : s 329 1 = r0 329 1 := f 329 1 (by decide)
  refine T_if1 (by decide +kernel) ?_
  refine T_useI (sf_X12_bad_309 hfu s c t1 1 0 (by omega) (by omega) (by omega) (by omega)) (fun v20 s15 hq => ?_)
  obtain ⟨c16, f17, o21, ⟨x19, rfl, b22, b23, o24, o25⟩⟩ := hq
  refine T_vI ?_
  have f18 := z_Fr.tr (R := R_X12_ends_309) f f17 rs_X12_bad_309__X12_ends_309
  have t26 : s15 309 20 = s 309 20 := f17 309 20 (by decide)
  have t27 : s15 309 36 = s 309 36 := f17 309 36 (by decide)
  have t28 : s15 309 43 = s 309 43 := f17 309 43 (by decide)
  have t29 : s15 309 44 = s 309 44 := f17 309 44 (by decide)
  have t30 : s15 309 58 = s 309 58 := f17 309 58 (by decide)
  have t31 : s15 316 0 = s 316 0 := f17 316 0 (by decide)
  have t32 : s15 329 0 = s 329 0 := f17 329 0 (by decide)
  have t33 : s15 329 1 = s 329 1 := f17 329 1 (by decide)
  have r34 := y_TA.fr p1 (fun a b h => f17 a b (nz_X12_bad_309__316_328 a b h)) (fun a b h => f17 a b (nz_X12_bad_309__346_358 a b h)) (fun a b h => f17 a b (nz_X12_bad_309__361_373 a b h))
  have r35 := y_DD.fr p2 (f17 329 0 (by decide)) (f17 329 1 (by decide)) (fun b => f17 359 b (nr_X12_bad_309__359 b)) (fun b => f17 374 b (nr_X12_bad_309__374 b))
  have r36 := y_B.fr p3 (f17 309 20 (by decide)) (f17 316 0 (by decide)) (fun b => f17 3220 b (nr_X12_bad_309__3220 b)) (fun b => f17 3221 b (nr_X12_bad_309__3221 b)) (fun b => f17 3222 b (nr_X12_bad_309__3222 b)) (fun b => f17 361 b (nr_X12_bad_309__361 b))
  have r37 := y_K.fr p4 (by omega) (by omega) (f17 309 44 (by decide)) (f17 309 20 (by decide)) (f17 309 58 (by decide)) (fun b => f17 3438 b (nr_X12_bad_309__3438 b)) (fun b => f17 3220 b (nr_X12_bad_309__3220 b)) (fun a b h => f17 a b (nz_X12_bad_309__3452_3651 a b h))
  have r38 := y_KM.fr p5 (f17 309 20 (by decide)) (f17 309 36 (by decide)) (f17 309 38 (by decide)) (f17 309 39 (by decide)) (fun b => f17 312 b (nr_X12_bad_309__312 b)) (fun b => f17 331 b (nr_X12_bad_309__331 b)) (fun b => f17 346 b (nr_X12_bad_309__346 b)) (fun b => f17 361 b (nr_X12_bad_309__361 b)) (fun b => f17 391 b (nr_X12_bad_309__391 b)) (fun a b h => f17 a b (nz_X12_bad_309__407_606 a b h)) (fun a b h => f17 a b (nz_X12_bad_309__3220_3223 a b h)) (fun a b h => f17 a b (nz_X12_bad_309__3235_3437 a b h))
  have r39 := y_YM.fr p6 (by omega) (f17 309 44 (by decide)) (f17 309 20 (by decide)) (f17 309 58 (by decide)) (fun b => f17 312 b (nr_X12_bad_309__312 b)) (fun b => f17 331 b (nr_X12_bad_309__331 b)) (fun b => f17 346 b (nr_X12_bad_309__346 b)) (fun b => f17 361 b (nr_X12_bad_309__361 b)) (fun b => f17 391 b (nr_X12_bad_309__391 b)) (fun a b h => f17 a b (nz_X12_bad_309__407_606 a b h)) (fun a b h => f17 a b (nz_X12_bad_309__3220_3223 a b h)) (fun b => f17 3438 b (nr_X12_bad_309__3438 b)) (fun a b h => f17 a b (nz_X12_bad_309__3441_3450 a b h)) (fun a b h => f17 a b (nz_X12_bad_309__3452_3651 a b h))
  refine T_ite (fun h40 => ?_) (fun h40 => ?_)
  · refine T_if1 (by decide +kernel) ?_
    refine T_useI (sf_X12_mayEnd_309K hfu s15 c16 a1 (by omega) r36 (by first | exact r38 | exact y_KM.z (by omega))) (fun v46 s41 hq => ?_)
    obtain ⟨c42, f43, o47, o48, o49, o50, ⟨x45, rfl, b51, b52⟩⟩ := hq
    refine T_vI ?_
    have f44 := z_Fr.tr (R := R_X12_ends_309) f18 f43 rs_X12_mayEnd_309__X12_ends_309
    have t53 : s41 309 20 = s 309 20 := (f43 309 20 (by decide)).trans t26
    have t54 : s41 309 44 = s 309 44 := (f43 309 44 (by decide)).trans t29
    have t55 : s41 309 58 = s 309 58 := (f43 309 58 (by decide)).trans t30
    have t56 : s41 316 0 = s 316 0 := (f43 316 0 (by decide)).trans t31
    have t57 : s41 329 0 = s 329 0 := (f43 329 0 (by decide)).trans t32
    have t58 : s41 329 1 = s 329 1 := (f43 329 1 (by decide)).trans t33
    have u59 := CI_b c42 (k := 309) (j := 36) bd_309_36
    have u60 := CI_b c42 (k := 309) (j := 43) bd_309_43
    have r61 := y_TA.fr r34 (fun a b h => f43 a b (nz_X12_mayEnd_309__316_328 a b h)) (fun a b h => f43 a b (nz_X12_mayEnd_309__346_358 a b h)) (fun a b h => f43 a b (nz_X12_mayEnd_309__361_373 a b h))
    have r62 := y_DD.fr r35 (f43 329 0 (by decide)) (f43 329 1 (by decide)) (fun b => f43 359 b (nr_X12_mayEnd_309__359 b)) (fun b => f43 374 b (nr_X12_mayEnd_309__374 b))
    have r63 := y_B.fr r36 (f43 309 20 (by decide)) (f43 316 0 (by decide)) (fun b => f43 3220 b (nr_X12_mayEnd_309__3220 b)) (fun b => f43 3221 b (nr_X12_mayEnd_309__3221 b)) (fun b => f43 3222 b (nr_X12_mayEnd_309__3222 b)) (fun b => f43 361 b (nr_X12_mayEnd_309__361 b))
    have r64 := y_K.fr r37 (by omega) (by omega) (f43 309 44 (by decide)) (f43 309 20 (by decide)) (f43 309 58 (by decide)) (fun b => f43 3438 b (nr_X12_mayEnd_309__3438 b)) (fun b => f43 3220 b (nr_X12_mayEnd_309__3220 b)) (fun a b h => f43 a b (nz_X12_mayEnd_309__3452_3651 a b h))
    have r65 := y_YM.fr r39 (by omega) (f43 309 44 (by decide)) (f43 309 20 (by decide)) (f43 309 58 (by decide)) (fun b => f43 312 b (nr_X12_mayEnd_309__312 b)) (fun b => f43 331 b (nr_X12_mayEnd_309__331 b)) (fun b => f43 346 b (nr_X12_mayEnd_309__346 b)) (fun b => f43 361 b (nr_X12_mayEnd_309__361 b)) (fun b => f43 391 b (nr_X12_mayEnd_309__391 b)) (fun a b h => f43 a b (nz_X12_mayEnd_309__407_606 a b h)) (fun a b h => f43 a b (nz_X12_mayEnd_309__3220_3223 a b h)) (fun b => f43 3438 b (nr_X12_mayEnd_309__3438 b)) (fun a b h => f43 a b (nz_X12_mayEnd_309__3441_3450 a b h)) (fun a b h => f43 a b (nz_X12_mayEnd_309__3452_3651 a b h))
    clear t26
    clear t29
    clear t30
    clear t31
    clear t32
    clear t33
    refine T_if1 (by unfold z_bl; omega) ?_
    exact T_ret ⟨c42, f44, r61, (by first | exact r62 | exact y_DD.z (by omega) (by omega)), r63, (by first | exact r64 | exact y_K.b0 (by omega) | exact y_K.k0 (by omega) | exact y_K.bk (by omega)), (by first | exact o50 | exact y_KM.z (by omega)), (by first | exact r65 | exact y_YM.b0 (by omega) | exact y_YM.k0 (by omega) | exact y_YM.bk (by omega)), ⟨x45, rfl, by omega, by omega⟩⟩
  · refine T_if1 (by unfold z_bl; omega) ?_
    exact T_ret ⟨c16, f18, r34, (by first | exact r35 | exact y_DD.z (by omega) (by omega)), r36, (by first | exact r37 | exact y_K.b0 (by omega) | exact y_K.k0 (by omega) | exact y_K.bk (by omega)), (by first | exact r38 | exact y_KM.z (by omega)), (by first | exact r39 | exact y_YM.b0 (by omega) | exact y_YM.k0 (by omega) | exact y_YM.bk (by omega)), ⟨0, rfl, by omega, by omega⟩⟩
theorem sf_X12_ends_309Y {fu : Nat} (hfu : 8589934592 ≤ fu) (r0 : z_M) (c0 : z_CI r0) (a1 : Int) (b1 : -2147483648 ≤ a1 ∧ a1 ≤ 2147483647) (p0 : y_TA r0) (p1 : y_DD r0) (p2 : y_B r0) (p3 : y_K r0) (p4 : y_KM r0) (p5 : y_YM r0) : z_T (fX12_ends fu r0 309 a1) (P_X12_ends_309Y r0) := by
  refine T_of (fX12_ends.eq_1 ..) ?_
  have u1 := CI_b c0 (k := 309) (j := 20) bd_309_20
  have u2 := CI_b c0 (k := 309) (j := 36) bd_309_36
  have u3 := CI_b c0 (k := 309) (j := 43) bd_309_43
  have u4 := CI_b c0 (k := 309) (j := 44) bd_309_44
  have u5 := CI_b c0 (k := 309) (j := 58) bd_309_58
  have u6 := CI_b c0 (k := 316) (j := 0) bd_316_0
  have u7 := CI_b c0 (k := 329) (j := 0) bd_329_0
  have u8 := CI_b c0 (k := 329) (j := 1) bd_329_1
  refine T_if1 (by decide +kernel) ?_
  refine T_upg c0 bd_309_0 (by omega) (fun s9 c10 g12 g13 e14 => ?_)
  have f11 := z_Fr.upf (R := R_X12_ends_309) z_Fr.rf g12 g13 (Or.inr (Or.inr (⟨rfl, by decide⟩)))
  have t15 : s9 309 20 = r0 309 20 := g13 20 (by decide)
  have t16 : s9 309 36 = r0 309 36 := g13 36 (by decide)
  have t17 : s9 309 43 = r0 309 43 := g13 43 (by decide)
  have t18 : s9 309 44 = r0 309 44 := g13 44 (by decide)
  have t19 : s9 309 58 = r0 309 58 := g13 58 (by decide)
  have t20 : s9 316 0 = r0 316 0 := g12 316 0 (by decide)
  have t21 : s9 329 0 = r0 329 0 := g12 329 0 (by decide)
  have t22 : s9 329 1 = r0 329 1 := g12 329 1 (by decide)
  have r23 := y_TA.fr p0 (fun a b h => g12 a b (by omega)) (fun a b h => g12 a b (by omega)) (fun a b h => g12 a b (by omega))
  have r24 := y_DD.fr p1 (g12 329 0 (by decide)) (g12 329 1 (by decide)) (fun b => g12 359 b (by decide)) (fun b => g12 374 b (by decide))
  have r25 := y_B.fr p2 (g13 20 (by decide)) (g12 316 0 (by decide)) (fun b => g12 3220 b (by decide)) (fun b => g12 3221 b (by decide)) (fun b => g12 3222 b (by decide)) (fun b => g12 361 b (by decide))
  have r26 := y_K.fr p3 (by omega) (by omega) (g13 44 (by decide)) (g13 20 (by decide)) (g13 58 (by decide)) (fun b => g12 3438 b (by decide)) (fun b => g12 3220 b (by decide)) (fun a b h => g12 a b (by omega))
  have r27 := y_KM.fr p4 (g13 20 (by decide)) (g13 36 (by decide)) (g13 38 (by decide)) (g13 39 (by decide)) (fun b => g12 312 b (by decide)) (fun b => g12 331 b (by decide)) (fun b => g12 346 b (by decide)) (fun b => g12 361 b (by decide)) (fun b => g12 391 b (by decide)) (fun a b h => g12 a b (by omega)) (fun a b h => g12 a b (by omega)) (fun a b h => g12 a b (by omega))
  have r28 := y_YM.fr p5 (by omega) (g13 44 (by decide)) (g13 20 (by decide)) (g13 58 (by decide)) (fun b => g12 312 b (by decide)) (fun b => g12 331 b (by decide)) (fun b => g12 346 b (by decide)) (fun b => g12 361 b (by decide)) (fun b => g12 391 b (by decide)) (fun a b h => g12 a b (by omega)) (fun a b h => g12 a b (by omega)) (fun b => g12 3438 b (by decide)) (fun a b h => g12 a b (by omega)) (fun a b h => g12 a b (by omega))
  refine T_if1 (by decide +kernel) ?_
  refine T_useI (sf_X12_isUnit_309 hfu s9 c10 a1 (by omega)) (fun v34 s29 hq => ?_)
  obtain ⟨c30, f31, ⟨x33, rfl, b35, b36, o37⟩⟩ := hq
  refine T_vI ?_
  have q38 := z_Fr.eq (fun a b h => h) f31
  subst q38
  refine T_ite (fun h39 => ?_) (fun h39 => ?_)
  · exact sj_X12_ends_309Y_J19 hfu r0 s9 c10 f11 a1 0 (by omega) (by omega) (by omega) r23 (by first | exact r24 | exact y_DD.z (by omega) (by omega)) r25 (by first | exact r26 | exact y_K.b0 (by omega) | exact y_K.k0 (by omega) | exact y_K.bk (by omega)) (by first | exact r27 | exact y_KM.z (by omega)) (by first | exact r28 | exact y_YM.b0 (by omega) | exact y_YM.k0 (by omega) | exact y_YM.bk (by omega))
  · exact sj_X12_ends_309Y_J19 hfu r0 s9 c10 f11 a1 1 (by omega) (by omega) (by omega) r23 (by first | exact r24 | exact y_DD.z (by omega) (by omega)) r25 (by first | exact r26 | exact y_K.b0 (by omega) | exact y_K.k0 (by omega) | exact y_K.bk (by omega)) (by first | exact r27 | exact y_KM.z (by omega)) (by first | exact r28 | exact y_YM.b0 (by omega) | exact y_YM.k0 (by omega) | exact y_YM.bk (by omega))
abbrev P_X12_longOf_309Y (r0 : z_M) : z_V → z_M → Prop := fun v s' => z_CI s' ∧ z_Fr R_X12_longOf_309 r0 s' ∧ (y_TA s') ∧ (y_DD s') ∧ (y_B s') ∧ (y_K s') ∧ (y_KM s') ∧ (y_YM s') ∧ (∃ x, v = vI x ∧ -2147483648 ≤ x ∧ x ≤ 2147483647)
theorem sj_X12_longOf_309Y_J54 {fu : Nat} (hfu : 8589934592 ≤ fu) (r0 s : z_M) (c : z_CI s) (f : z_Fr R_X12_longOf_309 r0 s) (p0 : y_TA s) (p1 : y_DD s) (p2 : y_B s) (p3 : y_K s) (p4 : y_KM s) (p5 : y_YM s) : z_T (fX12_longOf_J54 fu s) (P_X12_longOf_309Y r0) := by
  refine T_of (fX12_longOf_J54.eq_1 ..) ?_
  have u1 := CI_b c (k := 309) (j := 20) bd_309_20
  have u2 := CI_b c (k := 309) (j := 36) bd_309_36
  have u3 := CI_b c (k := 309) (j := 43) bd_309_43
  have u4 := CI_b c (k := 309) (j := 44) bd_309_44
  have u5 := CI_b c (k := 309) (j := 58) bd_309_58
  have u6 := CI_b c (k := 316) (j := 0) bd_316_0
  have u7 := CI_b c (k := 329) (j := 0) bd_329_0
  have u8 := CI_b c (k := 329) (j := 1) bd_329_1
  have t9 : s 309 20 = r0 309 20 := f 309 20 (by decide)
  have t10 : s 309 44 = r0 309 44 := f 309 44 (by decide)
  have t11 : s 309 58 = r0 309 58 := f 309 58 (by decide)
  have t12 : s 316 0 = r0 316 0 := f 316 0 (by decide)
  have t13 : s 329 0 = r0 329 0 := f 329 0 (by decide)
  have t14 : s 329 1 = r0 329 1 := f 329 1 (by decide)
  exact T_ret ⟨c, f, p0, (by first | exact p1 | exact y_DD.z (by omega) (by omega)), p2, (by first | exact p3 | exact y_K.b0 (by omega) | exact y_K.k0 (by omega) | exact y_K.bk (by omega)), (by first | exact p4 | exact y_KM.z (by omega)), (by first | exact p5 | exact y_YM.b0 (by omega) | exact y_YM.k0 (by omega) | exact y_YM.bk (by omega)), ⟨0, rfl, by omega, by omega⟩⟩
theorem nz_X12_longAs_309__3441_3450 (a b : Int) (h : 3441 ≤ a ∧ a ≤ 3450) : ¬ R_X12_longAs_309 a b := by
  unfold R_X12_longAs_309; omega
theorem sj_X12_longOf_309Y_J46 {fu : Nat} (hfu : 8589934592 ≤ fu) (r0 s : z_M) (c : z_CI s) (f : z_Fr R_X12_longOf_309 r0 s) (a1 : Int) (a2 : Int) (t1 : Int) (b1 : -2147483648 ≤ a1 ∧ a1 ≤ 2147483647) (b2 : -2147483648 ≤ a2 ∧ a2 ≤ 2147483647) (d1 : 0 ≤ t1 ∧ t1 ≤ 1) (p0 : 0 ≤ a1 ∧ a1 < s 309 20 ∧ 0 ≤ a2 ∧ a2 < s 309 20) (p1 : t1 = 1 ∨ a1 ≤ a2) (p2 : y_TA s) (p3 : y_DD s) (p4 : y_B s) (p5 : y_K s) (p6 : y_KM s) (p7 : y_YM s) : z_T (fX12_longOf_J46 fu s 309 a1 a2 309 t1) (P_X12_longOf_309Y r0) := by
  refine T_of (fX12_longOf_J46.eq_1 ..) ?_
  have u1 := CI_b c (k := 309) (j := 20) bd_309_20
  have u2 := CI_b c (k := 309) (j := 36) bd_309_36
  have u3 := CI_b c (k := 309) (j := 43) bd_309_43
  have u4 := CI_b c (k := 309) (j := 44) bd_309_44
  have u5 := CI_b c (k := 309) (j := 58) bd_309_58
  have u6 := CI_b c (k := 316) (j := 0) bd_316_0
  have u7 := CI_b c (k := 329) (j := 0) bd_329_0
  have u8 := CI_b c (k := 329) (j := 1) bd_329_1
  have t9 : s 309 20 = r0 309 20 := f 309 20 (by decide)
  have t10 : s 309 44 = r0 309 44 := f 309 44 (by decide)
  have t11 : s 309 58 = r0 309 58 := f 309 58 (by decide)
  have t12 : s 316 0 = r0 316 0 := f 316 0 (by decide)
  have t13 : s 329 0 = r0 329 0 := f 329 0 (by decide)
  have t14 : s 329 1 = r0 329 1 := f 329 1 (by decide)
  refine T_if1 (by decide +kernel) ?_
  refine T_useI (sf_X12_bad_309 hfu s c t1 2 1 (by omega) (by omega) (by omega) (by omega)) (fun v20 s15 hq => ?_)
  obtain ⟨c16, f17, o21, ⟨x19, rfl, b22, b23, o24, o25⟩⟩ := hq
  refine T_vI ?_
  have f18 := z_Fr.tr (R := R_X12_longOf_309) f f17 rs_X12_bad_309__X12_longOf_309
  have t26 : s15 309 20 = s 309 20 := f17 309 20 (by decide)
  have t27 : s15 309 36 = s 309 36 := f17 309 36 (by decide)
  have t28 : s15 309 43 = s 309 43 := f17 309 43 (by decide)
  have t29 : s15 309 44 = s 309 44 := f17 309 44 (by decide)
  have t30 : s15 309 58 = s 309 58 := f17 309 58 (by decide)
  have t31 : s15 316 0 = s 316 0 := f17 316 0 (by decide)
  have t32 : s15 329 0 = s 329 0 := f17 329 0 (by decide)
  have t33 : s15 329 1 = s 329 1 := f17 329 1 (by decide)
  have r34 := y_TA.fr p2 (fun a b h => f17 a b (nz_X12_bad_309__316_328 a b h)) (fun a b h => f17 a b (nz_X12_bad_309__346_358 a b h)) (fun a b h => f17 a b (nz_X12_bad_309__361_373 a b h))
  have r35 := y_DD.fr p3 (f17 329 0 (by decide)) (f17 329 1 (by decide)) (fun b => f17 359 b (nr_X12_bad_309__359 b)) (fun b => f17 374 b (nr_X12_bad_309__374 b))
  have r36 := y_B.fr p4 (f17 309 20 (by decide)) (f17 316 0 (by decide)) (fun b => f17 3220 b (nr_X12_bad_309__3220 b)) (fun b => f17 3221 b (nr_X12_bad_309__3221 b)) (fun b => f17 3222 b (nr_X12_bad_309__3222 b)) (fun b => f17 361 b (nr_X12_bad_309__361 b))
  have r37 := y_K.fr p5 (by omega) (by omega) (f17 309 44 (by decide)) (f17 309 20 (by decide)) (f17 309 58 (by decide)) (fun b => f17 3438 b (nr_X12_bad_309__3438 b)) (fun b => f17 3220 b (nr_X12_bad_309__3220 b)) (fun a b h => f17 a b (nz_X12_bad_309__3452_3651 a b h))
  have r38 := y_KM.fr p6 (f17 309 20 (by decide)) (f17 309 36 (by decide)) (f17 309 38 (by decide)) (f17 309 39 (by decide)) (fun b => f17 312 b (nr_X12_bad_309__312 b)) (fun b => f17 331 b (nr_X12_bad_309__331 b)) (fun b => f17 346 b (nr_X12_bad_309__346 b)) (fun b => f17 361 b (nr_X12_bad_309__361 b)) (fun b => f17 391 b (nr_X12_bad_309__391 b)) (fun a b h => f17 a b (nz_X12_bad_309__407_606 a b h)) (fun a b h => f17 a b (nz_X12_bad_309__3220_3223 a b h)) (fun a b h => f17 a b (nz_X12_bad_309__3235_3437 a b h))
  have r39 := y_YM.fr p7 (by omega) (f17 309 44 (by decide)) (f17 309 20 (by decide)) (f17 309 58 (by decide)) (fun b => f17 312 b (nr_X12_bad_309__312 b)) (fun b => f17 331 b (nr_X12_bad_309__331 b)) (fun b => f17 346 b (nr_X12_bad_309__346 b)) (fun b => f17 361 b (nr_X12_bad_309__361 b)) (fun b => f17 391 b (nr_X12_bad_309__391 b)) (fun a b h => f17 a b (nz_X12_bad_309__407_606 a b h)) (fun a b h => f17 a b (nz_X12_bad_309__3220_3223 a b h)) (fun b => f17 3438 b (nr_X12_bad_309__3438 b)) (fun a b h => f17 a b (nz_X12_bad_309__3441_3450 a b h)) (fun a b h => f17 a b (nz_X12_bad_309__3452_3651 a b h))
  refine T_ite (fun h40 => ?_) (fun h40 => ?_)
  · refine T_if1 (by decide +kernel) ?_
    refine T_useI (sf_X12_longAs_309K hfu s15 c16 a1 a2 (by omega) (by omega) r36 (by omega) (by omega) (by first | exact r38 | exact y_KM.z (by omega))) (fun v46 s41 hq => ?_)
    obtain ⟨c42, f43, o47, o48, o49, o50, ⟨x45, rfl, b51, b52⟩⟩ := hq
    refine T_vI ?_
    have f44 := z_Fr.tr (R := R_X12_longOf_309) f18 f43 rs_X12_longAs_309__X12_longOf_309
    have t53 : s41 309 20 = s 309 20 := (f43 309 20 (by decide)).trans t26
    have t54 : s41 309 44 = s 309 44 := (f43 309 44 (by decide)).trans t29
    have t55 : s41 309 58 = s 309 58 := (f43 309 58 (by decide)).trans t30
    have t56 : s41 316 0 = s 316 0 := (f43 316 0 (by decide)).trans t31
    have t57 : s41 329 0 = s 329 0 := (f43 329 0 (by decide)).trans t32
    have t58 : s41 329 1 = s 329 1 := (f43 329 1 (by decide)).trans t33
    have u59 := CI_b c42 (k := 309) (j := 36) bd_309_36
    have u60 := CI_b c42 (k := 309) (j := 43) bd_309_43
    have r61 := y_TA.fr r34 (fun a b h => f43 a b (nz_X12_longAs_309__316_328 a b h)) (fun a b h => f43 a b (nz_X12_longAs_309__346_358 a b h)) (fun a b h => f43 a b (nz_X12_longAs_309__361_373 a b h))
    have r62 := y_DD.fr r35 (f43 329 0 (by decide)) (f43 329 1 (by decide)) (fun b => f43 359 b (nr_X12_longAs_309__359 b)) (fun b => f43 374 b (nr_X12_longAs_309__374 b))
    have r63 := y_B.fr r36 (f43 309 20 (by decide)) (f43 316 0 (by decide)) (fun b => f43 3220 b (nr_X12_longAs_309__3220 b)) (fun b => f43 3221 b (nr_X12_longAs_309__3221 b)) (fun b => f43 3222 b (nr_X12_longAs_309__3222 b)) (fun b => f43 361 b (nr_X12_longAs_309__361 b))
    have r64 := y_K.fr r37 (by omega) (by omega) (f43 309 44 (by decide)) (f43 309 20 (by decide)) (f43 309 58 (by decide)) (fun b => f43 3438 b (nr_X12_longAs_309__3438 b)) (fun b => f43 3220 b (nr_X12_longAs_309__3220 b)) (fun a b h => f43 a b (nz_X12_longAs_309__3452_3651 a b h))
    have r65 := y_YM.fr r39 (by omega) (f43 309 44 (by decide)) (f43 309 20 (by decide)) (f43 309 58 (by decide)) (fun b => f43 312 b (nr_X12_longAs_309__312 b)) (fun b => f43 331 b (nr_X12_longAs_309__331 b)) (fun b => f43 346 b (nr_X12_longAs_309__346 b)) (fun b => f43 361 b (nr_X12_longAs_309__361 b)) (fun b => f43 391 b (nr_X12_longAs_309__391 b)) (fun a b h => f43 a b (nz_X12_longAs_309__407_606 a b h)) (fun a b h => f43 a b (nz_X12_longAs_309__3220_3223 a b h)) (fun b => f43 3438 b (nr_X12_longAs_309__3438 b)) (fun a b h => f43 a b (nz_X12_longAs_309__3441_3450 a b h)) (fun a b h => f43 a b (nz_X12_longAs_309__3452_3651 a b h))
    clear t26
    clear t29
    clear t30
    clear t31
    clear t32
    clear t33
    exact T_ret ⟨c42, f44, r61, (by first | exact r62 | exact y_DD.z (by omega) (by omega)), r63, (by first | exact r64 | exact y_K.b0 (by omega) | exact y_K.k0 (by omega) | exact y_K.bk (by omega)), (by first | exact o50 | exact y_KM.z (by omega)), (by first | exact r65 | exact y_YM.b0 (by omega) | exact y_YM.k0 (by omega) | exact y_YM.bk (by omega)), ⟨x45, rfl, by omega, by omega⟩⟩
  · exact sj_X12_longOf_309Y_J54 hfu r0 s15 c16 f18 r34 (by first | exact r35 | exact y_DD.z (by omega) (by omega)) r36 (by first | exact r37 | exact y_K.b0 (by omega) | exact y_K.k0 (by omega) | exact y_K.bk (by omega)) (by first | exact r38 | exact y_KM.z (by omega)) (by first | exact r39 | exact y_YM.b0 (by omega) | exact y_YM.k0 (by omega) | exact y_YM.bk (by omega))
theorem sj_X12_longOf_309Y_J27 {fu : Nat} (hfu : 8589934592 ≤ fu) (r0 s : z_M) (c : z_CI s) (f : z_Fr R_X12_longOf_309 r0 s) (a1 : Int) (a2 : Int) (t1 : Int) (b1 : -2147483648 ≤ a1 ∧ a1 ≤ 2147483647) (b2 : -2147483648 ≤ a2 ∧ a2 ≤ 2147483647) (d1 : 0 ≤ t1 ∧ t1 ≤ 1) (p0 : t1 = 1 ∨ (0 ≤ a1 ∧ a1 < s 309 20 ∧ 0 ≤ a2 ∧ a2 < s 309 20)) (p1 : y_TA s) (p2 : y_DD s) (p3 : y_B s) (p4 : y_K s) (p5 : y_KM s) (p6 : y_YM s) : z_T (fX12_longOf_J27 fu s 309 a1 a2 309 t1) (P_X12_longOf_309Y r0) := by
  refine T_of (fX12_longOf_J27.eq_1 ..) ?_
  have u1 := CI_b c (k := 309) (j := 20) bd_309_20
  have u2 := CI_b c (k := 309) (j := 36) bd_309_36
  have u3 := CI_b c (k := 309) (j := 43) bd_309_43
  have u4 := CI_b c (k := 309) (j := 44) bd_309_44
  have u5 := CI_b c (k := 309) (j := 58) bd_309_58
  have u6 := CI_b c (k := 316) (j := 0) bd_316_0
  have u7 := CI_b c (k := 329) (j := 0) bd_329_0
  have u8 := CI_b c (k := 329) (j := 1) bd_329_1
  have t9 : s 309 20 = r0 309 20 := f 309 20 (by decide)
  have t10 : s 309 44 = r0 309 44 := f 309 44 (by decide)
  have t11 : s 309 58 = r0 309 58 := f 309 58 (by decide)
  have t12 : s 316 0 = r0 316 0 := f 316 0 (by decide)
  have t13 : s 329 0 = r0 329 0 := f 329 0 (by decide)
  have t14 : s 329 1 = r0 329 1 := f 329 1 (by decide)
  refine T_if1 (by decide +kernel) ?_
  refine T_useI (sf_X12_bad_309 hfu s c t1 1 0 (by omega) (by omega) (by omega) (by omega)) (fun v20 s15 hq => ?_)
  obtain ⟨c16, f17, o21, ⟨x19, rfl, b22, b23, o24, o25⟩⟩ := hq
  refine T_vI ?_
  have f18 := z_Fr.tr (R := R_X12_longOf_309) f f17 rs_X12_bad_309__X12_longOf_309
  have t26 : s15 309 20 = s 309 20 := f17 309 20 (by decide)
  have t27 : s15 309 36 = s 309 36 := f17 309 36 (by decide)
  have t28 : s15 309 43 = s 309 43 := f17 309 43 (by decide)
  have t29 : s15 309 44 = s 309 44 := f17 309 44 (by decide)
  have t30 : s15 309 58 = s 309 58 := f17 309 58 (by decide)
  have t31 : s15 316 0 = s 316 0 := f17 316 0 (by decide)
  have t32 : s15 329 0 = s 329 0 := f17 329 0 (by decide)
  have t33 : s15 329 1 = s 329 1 := f17 329 1 (by decide)
  have r34 := y_TA.fr p1 (fun a b h => f17 a b (nz_X12_bad_309__316_328 a b h)) (fun a b h => f17 a b (nz_X12_bad_309__346_358 a b h)) (fun a b h => f17 a b (nz_X12_bad_309__361_373 a b h))
  have r35 := y_DD.fr p2 (f17 329 0 (by decide)) (f17 329 1 (by decide)) (fun b => f17 359 b (nr_X12_bad_309__359 b)) (fun b => f17 374 b (nr_X12_bad_309__374 b))
  have r36 := y_B.fr p3 (f17 309 20 (by decide)) (f17 316 0 (by decide)) (fun b => f17 3220 b (nr_X12_bad_309__3220 b)) (fun b => f17 3221 b (nr_X12_bad_309__3221 b)) (fun b => f17 3222 b (nr_X12_bad_309__3222 b)) (fun b => f17 361 b (nr_X12_bad_309__361 b))
  have r37 := y_K.fr p4 (by omega) (by omega) (f17 309 44 (by decide)) (f17 309 20 (by decide)) (f17 309 58 (by decide)) (fun b => f17 3438 b (nr_X12_bad_309__3438 b)) (fun b => f17 3220 b (nr_X12_bad_309__3220 b)) (fun a b h => f17 a b (nz_X12_bad_309__3452_3651 a b h))
  have r38 := y_KM.fr p5 (f17 309 20 (by decide)) (f17 309 36 (by decide)) (f17 309 38 (by decide)) (f17 309 39 (by decide)) (fun b => f17 312 b (nr_X12_bad_309__312 b)) (fun b => f17 331 b (nr_X12_bad_309__331 b)) (fun b => f17 346 b (nr_X12_bad_309__346 b)) (fun b => f17 361 b (nr_X12_bad_309__361 b)) (fun b => f17 391 b (nr_X12_bad_309__391 b)) (fun a b h => f17 a b (nz_X12_bad_309__407_606 a b h)) (fun a b h => f17 a b (nz_X12_bad_309__3220_3223 a b h)) (fun a b h => f17 a b (nz_X12_bad_309__3235_3437 a b h))
  have r39 := y_YM.fr p6 (by omega) (f17 309 44 (by decide)) (f17 309 20 (by decide)) (f17 309 58 (by decide)) (fun b => f17 312 b (nr_X12_bad_309__312 b)) (fun b => f17 331 b (nr_X12_bad_309__331 b)) (fun b => f17 346 b (nr_X12_bad_309__346 b)) (fun b => f17 361 b (nr_X12_bad_309__361 b)) (fun b => f17 391 b (nr_X12_bad_309__391 b)) (fun a b h => f17 a b (nz_X12_bad_309__407_606 a b h)) (fun a b h => f17 a b (nz_X12_bad_309__3220_3223 a b h)) (fun b => f17 3438 b (nr_X12_bad_309__3438 b)) (fun a b h => f17 a b (nz_X12_bad_309__3441_3450 a b h)) (fun a b h => f17 a b (nz_X12_bad_309__3452_3651 a b h))
  refine T_ite (fun h40 => ?_) (fun h40 => ?_)
  · exact sj_X12_longOf_309Y_J54 hfu r0 s15 c16 f18 r34 (by first | exact r35 | exact y_DD.z (by omega) (by omega)) r36 (by first | exact r37 | exact y_K.b0 (by omega) | exact y_K.k0 (by omega) | exact y_K.bk (by omega)) (by first | exact r38 | exact y_KM.z (by omega)) (by first | exact r39 | exact y_YM.b0 (by omega) | exact y_YM.k0 (by omega) | exact y_YM.bk (by omega))
  · refine T_ite (fun h41 => ?_) (fun h41 => ?_)
    · exact sj_X12_longOf_309Y_J46 hfu r0 s15 c16 f18 a1 a2 0 (by omega) (by omega) (by omega) (by omega) (by omega) r34 (by first | exact r35 | exact y_DD.z (by omega) (by omega)) r36 (by first | exact r37 | exact y_K.b0 (by omega) | exact y_K.k0 (by omega) | exact y_K.bk (by omega)) (by first | exact r38 | exact y_KM.z (by omega)) (by first | exact r39 | exact y_YM.b0 (by omega) | exact y_YM.k0 (by omega) | exact y_YM.bk (by omega))
    · exact sj_X12_longOf_309Y_J46 hfu r0 s15 c16 f18 a1 a2 1 (by omega) (by omega) (by omega) (by omega) (by omega) r34 (by first | exact r35 | exact y_DD.z (by omega) (by omega)) r36 (by first | exact r37 | exact y_K.b0 (by omega) | exact y_K.k0 (by omega) | exact y_K.bk (by omega)) (by first | exact r38 | exact y_KM.z (by omega)) (by first | exact r39 | exact y_YM.b0 (by omega) | exact y_YM.k0 (by omega) | exact y_YM.bk (by omega))
theorem sj_X12_longOf_309Y_J22 {fu : Nat} (hfu : 8589934592 ≤ fu) (r0 s : z_M) (c : z_CI s) (f : z_Fr R_X12_longOf_309 r0 s) (a1 : Int) (a2 : Int) (b1 : -2147483648 ≤ a1 ∧ a1 ≤ 2147483647) (b2 : -2147483648 ≤ a2 ∧ a2 ≤ 2147483647) (p0 : y_TA s) (p1 : y_DD s) (p2 : y_B s) (p3 : y_K s) (p4 : y_KM s) (p5 : y_YM s) : z_T (fX12_longOf_J22 fu s 309 a1 a2 309) (P_X12_longOf_309Y r0) := by
  refine T_of (fX12_longOf_J22.eq_1 ..) ?_
  have u1 := CI_b c (k := 309) (j := 20) bd_309_20
  have u2 := CI_b c (k := 309) (j := 36) bd_309_36
  have u3 := CI_b c (k := 309) (j := 43) bd_309_43
  have u4 := CI_b c (k := 309) (j := 44) bd_309_44
  have u5 := CI_b c (k := 309) (j := 58) bd_309_58
  have u6 := CI_b c (k := 316) (j := 0) bd_316_0
  have u7 := CI_b c (k := 329) (j := 0) bd_329_0
  have u8 := CI_b c (k := 329) (j := 1) bd_329_1
  have t9 : s 309 20 = r0 309 20 := f 309 20 (by decide)
  have t10 : s 309 44 = r0 309 44 := f 309 44 (by decide)
  have t11 : s 309 58 = r0 309 58 := f 309 58 (by decide)
  have t12 : s 316 0 = r0 316 0 := f 316 0 (by decide)
  have t13 : s 329 0 = r0 329 0 := f 329 0 (by decide)
  have t14 : s 329 1 = r0 329 1 := f 329 1 (by decide)
  exact sj_X12_longOf_309Y_J27 hfu r0 s c f a1 a2 1 (by omega) (by omega) (by omega) (by omega) p0 (by first | exact p1 | exact y_DD.z (by omega) (by omega)) p2 (by first | exact p3 | exact y_K.b0 (by omega) | exact y_K.k0 (by omega) | exact y_K.bk (by omega)) (by first | exact p4 | exact y_KM.z (by omega)) (by first | exact p5 | exact y_YM.b0 (by omega) | exact y_YM.k0 (by omega) | exact y_YM.bk (by omega))
theorem sf_X12_longOf_309Y {fu : Nat} (hfu : 8589934592 ≤ fu) (r0 : z_M) (c0 : z_CI r0) (a1 : Int) (a2 : Int) (b1 : -2147483648 ≤ a1 ∧ a1 ≤ 2147483647) (b2 : -2147483648 ≤ a2 ∧ a2 ≤ 2147483647) (p0 : y_TA r0) (p1 : y_DD r0) (p2 : y_B r0) (p3 : y_K r0) (p4 : y_KM r0) (p5 : y_YM r0) : z_T (fX12_longOf fu r0 309 a1 a2) (P_X12_longOf_309Y r0) := by
  refine T_of (fX12_longOf.eq_1 ..) ?_
  have u1 := CI_b c0 (k := 309) (j := 20) bd_309_20
  have u2 := CI_b c0 (k := 309) (j := 36) bd_309_36
  have u3 := CI_b c0 (k := 309) (j := 43) bd_309_43
  have u4 := CI_b c0 (k := 309) (j := 44) bd_309_44
  have u5 := CI_b c0 (k := 309) (j := 58) bd_309_58
  have u6 := CI_b c0 (k := 316) (j := 0) bd_316_0
  have u7 := CI_b c0 (k := 329) (j := 0) bd_329_0
  have u8 := CI_b c0 (k := 329) (j := 1) bd_329_1
  refine T_if1 (by decide +kernel) ?_
  refine T_upg c0 bd_309_0 (by omega) (fun s9 c10 g12 g13 e14 => ?_)
  have f11 := z_Fr.upf (R := R_X12_longOf_309) z_Fr.rf g12 g13 (Or.inr (Or.inr (⟨rfl, by decide⟩)))
  have t15 : s9 309 20 = r0 309 20 := g13 20 (by decide)
  have t16 : s9 309 36 = r0 309 36 := g13 36 (by decide)
  have t17 : s9 309 43 = r0 309 43 := g13 43 (by decide)
  have t18 : s9 309 44 = r0 309 44 := g13 44 (by decide)
  have t19 : s9 309 58 = r0 309 58 := g13 58 (by decide)
  have t20 : s9 316 0 = r0 316 0 := g12 316 0 (by decide)
  have t21 : s9 329 0 = r0 329 0 := g12 329 0 (by decide)
  have t22 : s9 329 1 = r0 329 1 := g12 329 1 (by decide)
  have r23 := y_TA.fr p0 (fun a b h => g12 a b (by omega)) (fun a b h => g12 a b (by omega)) (fun a b h => g12 a b (by omega))
  have r24 := y_DD.fr p1 (g12 329 0 (by decide)) (g12 329 1 (by decide)) (fun b => g12 359 b (by decide)) (fun b => g12 374 b (by decide))
  have r25 := y_B.fr p2 (g13 20 (by decide)) (g12 316 0 (by decide)) (fun b => g12 3220 b (by decide)) (fun b => g12 3221 b (by decide)) (fun b => g12 3222 b (by decide)) (fun b => g12 361 b (by decide))
  have r26 := y_K.fr p3 (by omega) (by omega) (g13 44 (by decide)) (g13 20 (by decide)) (g13 58 (by decide)) (fun b => g12 3438 b (by decide)) (fun b => g12 3220 b (by decide)) (fun a b h => g12 a b (by omega))
  have r27 := y_KM.fr p4 (g13 20 (by decide)) (g13 36 (by decide)) (g13 38 (by decide)) (g13 39 (by decide)) (fun b => g12 312 b (by decide)) (fun b => g12 331 b (by decide)) (fun b => g12 346 b (by decide)) (fun b => g12 361 b (by decide)) (fun b => g12 391 b (by decide)) (fun a b h => g12 a b (by omega)) (fun a b h => g12 a b (by omega)) (fun a b h => g12 a b (by omega))
  have r28 := y_YM.fr p5 (by omega) (g13 44 (by decide)) (g13 20 (by decide)) (g13 58 (by decide)) (fun b => g12 312 b (by decide)) (fun b => g12 331 b (by decide)) (fun b => g12 346 b (by decide)) (fun b => g12 361 b (by decide)) (fun b => g12 391 b (by decide)) (fun a b h => g12 a b (by omega)) (fun a b h => g12 a b (by omega)) (fun b => g12 3438 b (by decide)) (fun a b h => g12 a b (by omega)) (fun a b h => g12 a b (by omega))
  refine T_if1 (by decide +kernel) ?_
  refine T_useI (sf_X12_isUnit_309 hfu s9 c10 a1 (by omega)) (fun v34 s29 hq => ?_)
  obtain ⟨c30, f31, ⟨x33, rfl, b35, b36, o37⟩⟩ := hq
  refine T_vI ?_
  have q38 := z_Fr.eq (fun a b h => h) f31
  subst q38
  refine T_ite (fun h39 => ?_) (fun h39 => ?_)
  · exact sj_X12_longOf_309Y_J22 hfu r0 s9 c10 f11 a1 a2 (by omega) (by omega) r23 (by first | exact r24 | exact y_DD.z (by omega) (by omega)) r25 (by first | exact r26 | exact y_K.b0 (by omega) | exact y_K.k0 (by omega) | exact y_K.bk (by omega)) (by first | exact r27 | exact y_KM.z (by omega)) (by first | exact r28 | exact y_YM.b0 (by omega) | exact y_YM.k0 (by omega) | exact y_YM.bk (by omega))
  · refine T_if1 (by decide +kernel) ?_
    refine T_useI (sf_X12_isUnit_309 hfu s9 c10 a2 (by omega)) (fun v45 s40 hq => ?_)
    obtain ⟨c41, f42, ⟨x44, rfl, b46, b47, o48⟩⟩ := hq
    refine T_vI ?_
    have q49 := z_Fr.eq (fun a b h => h) f42
    subst q49
    refine T_ite (fun h50 => ?_) (fun h50 => ?_)
    · exact sj_X12_longOf_309Y_J27 hfu r0 s9 c10 f11 a1 a2 0 (by omega) (by omega) (by omega) (by omega) r23 (by first | exact r24 | exact y_DD.z (by omega) (by omega)) r25 (by first | exact r26 | exact y_K.b0 (by omega) | exact y_K.k0 (by omega) | exact y_K.bk (by omega)) (by first | exact r27 | exact y_KM.z (by omega)) (by first | exact r28 | exact y_YM.b0 (by omega) | exact y_YM.k0 (by omega) | exact y_YM.bk (by omega))
    · exact sj_X12_longOf_309Y_J22 hfu r0 s9 c10 f11 a1 a2 (by omega) (by omega) r23 (by first | exact r24 | exact y_DD.z (by omega) (by omega)) r25 (by first | exact r26 | exact y_K.b0 (by omega) | exact y_K.k0 (by omega) | exact y_K.bk (by omega)) (by first | exact r27 | exact y_KM.z (by omega)) (by first | exact r28 | exact y_YM.b0 (by omega) | exact y_YM.k0 (by omega) | exact y_YM.bk (by omega))
abbrev P_X12_lines_309Y (r0 : z_M) : z_V → z_M → Prop := fun v s' => z_CI s' ∧ z_Fr R_X12_lines_309 r0 s' ∧ (y_TA s') ∧ (y_DD s') ∧ (y_B s') ∧ (y_K s') ∧ (y_KM s') ∧ (y_YM s') ∧ (∃ x, v = vI x ∧ -2147483648 ≤ x ∧ x ≤ 2147483647)
theorem nz_X12_breaks_309__3441_3450 (a b : Int) (h : 3441 ≤ a ∧ a ≤ 3450) : ¬ R_X12_breaks_309 a b := by
  unfold R_X12_breaks_309; omega
set_option maxHeartbeats 4000000 in
theorem sj_X12_lines_309Y_J32 {fu : Nat} (hfu : 8589934592 ≤ fu) (r0 s : z_M) (c : z_CI s) (f : z_Fr R_X12_lines_309 r0 s) (a1 : Int) (a2 : Int) (t1 : Int) (b1 : -2147483648 ≤ a1 ∧ a1 ≤ 2147483647) (b2 : -2147483648 ≤ a2 ∧ a2 ≤ 2147483647) (d1 : 0 ≤ t1 ∧ t1 ≤ 1) (p0 : y_TA s) (p1 : y_DD s) (p2 : y_B s) (p3 : y_K s) (p4 : y_KM s) (p5 : y_YM s) : z_T (fX12_lines_J32 fu s 309 a1 a2 309 t1) (P_X12_lines_309Y r0) := by
  refine T_of (fX12_lines_J32.eq_1 ..) ?_
  have u1 := CI_b c (k := 309) (j := 20) bd_309_20
  have u2 := CI_b c (k := 309) (j := 36) bd_309_36
  have u3 := CI_b c (k := 309) (j := 43) bd_309_43
  have u4 := CI_b c (k := 309) (j := 44) bd_309_44
  have u5 := CI_b c (k := 309) (j := 58) bd_309_58
  have u6 := CI_b c (k := 316) (j := 0) bd_316_0
  have u7 := CI_b c (k := 329) (j := 0) bd_329_0
  have u8 := CI_b c (k := 329) (j := 1) bd_329_1
  have t9 : s 309 20 = r0 309 20 := f 309 20 (by decide)
  have t10 : s 309 44 = r0 309 44 := f 309 44 (by decide)
  have t11 : s 309 58 = r0 309 58 := f 309 58 (by decide)
  have t12 : s 316 0 = r0 316 0 := f 316 0 (by decide)
  have t13 : s 329 0 = r0 329 0 := f 329 0 (by decide)
  have t14 : s 329 1 = r0 329 1 := f 329 1 (by decide)
  refine T_if1 (by decide +kernel) ?_
  refine T_useI (sf_X12_bad_309 hfu s c t1 1 1 (by omega) (by omega) (by omega) (by omega)) (fun v20 s15 hq => ?_)
  obtain ⟨c16, f17, o21, ⟨x19, rfl, b22, b23, o24, o25⟩⟩ := hq
  refine T_vI ?_
  have f18 := z_Fr.tr (R := R_X12_lines_309) f f17 rs_X12_bad_309__X12_lines_309
  have t26 : s15 309 20 = s 309 20 := f17 309 20 (by decide)
  have t27 : s15 309 36 = s 309 36 := f17 309 36 (by decide)
  have t28 : s15 309 43 = s 309 43 := f17 309 43 (by decide)
  have t29 : s15 309 44 = s 309 44 := f17 309 44 (by decide)
  have t30 : s15 309 58 = s 309 58 := f17 309 58 (by decide)
  have t31 : s15 316 0 = s 316 0 := f17 316 0 (by decide)
  have t32 : s15 329 0 = s 329 0 := f17 329 0 (by decide)
  have t33 : s15 329 1 = s 329 1 := f17 329 1 (by decide)
  have r34 := y_TA.fr p0 (fun a b h => f17 a b (nz_X12_bad_309__316_328 a b h)) (fun a b h => f17 a b (nz_X12_bad_309__346_358 a b h)) (fun a b h => f17 a b (nz_X12_bad_309__361_373 a b h))
  have r35 := y_DD.fr p1 (f17 329 0 (by decide)) (f17 329 1 (by decide)) (fun b => f17 359 b (nr_X12_bad_309__359 b)) (fun b => f17 374 b (nr_X12_bad_309__374 b))
  have r36 := y_B.fr p2 (f17 309 20 (by decide)) (f17 316 0 (by decide)) (fun b => f17 3220 b (nr_X12_bad_309__3220 b)) (fun b => f17 3221 b (nr_X12_bad_309__3221 b)) (fun b => f17 3222 b (nr_X12_bad_309__3222 b)) (fun b => f17 361 b (nr_X12_bad_309__361 b))
  have r37 := y_K.fr p3 (by omega) (by omega) (f17 309 44 (by decide)) (f17 309 20 (by decide)) (f17 309 58 (by decide)) (fun b => f17 3438 b (nr_X12_bad_309__3438 b)) (fun b => f17 3220 b (nr_X12_bad_309__3220 b)) (fun a b h => f17 a b (nz_X12_bad_309__3452_3651 a b h))
  have r38 := y_KM.fr p4 (f17 309 20 (by decide)) (f17 309 36 (by decide)) (f17 309 38 (by decide)) (f17 309 39 (by decide)) (fun b => f17 312 b (nr_X12_bad_309__312 b)) (fun b => f17 331 b (nr_X12_bad_309__331 b)) (fun b => f17 346 b (nr_X12_bad_309__346 b)) (fun b => f17 361 b (nr_X12_bad_309__361 b)) (fun b => f17 391 b (nr_X12_bad_309__391 b)) (fun a b h => f17 a b (nz_X12_bad_309__407_606 a b h)) (fun a b h => f17 a b (nz_X12_bad_309__3220_3223 a b h)) (fun a b h => f17 a b (nz_X12_bad_309__3235_3437 a b h))
  have r39 := y_YM.fr p5 (by omega) (f17 309 44 (by decide)) (f17 309 20 (by decide)) (f17 309 58 (by decide)) (fun b => f17 312 b (nr_X12_bad_309__312 b)) (fun b => f17 331 b (nr_X12_bad_309__331 b)) (fun b => f17 346 b (nr_X12_bad_309__346 b)) (fun b => f17 361 b (nr_X12_bad_309__361 b)) (fun b => f17 391 b (nr_X12_bad_309__391 b)) (fun a b h => f17 a b (nz_X12_bad_309__407_606 a b h)) (fun a b h => f17 a b (nz_X12_bad_309__3220_3223 a b h)) (fun b => f17 3438 b (nr_X12_bad_309__3438 b)) (fun a b h => f17 a b (nz_X12_bad_309__3441_3450 a b h)) (fun a b h => f17 a b (nz_X12_bad_309__3452_3651 a b h))
  refine T_ite (fun h40 => ?_) (fun h40 => ?_)
  · refine T_if1 (by decide +kernel) ?_
    refine T_useI (sf_X12_breaks_309K hfu s15 c16 a1 a2 (by omega) (by omega) r36 (by first | exact r38 | exact y_KM.z (by omega))) (fun v46 s41 hq => ?_)
    obtain ⟨c42, f43, o47, o48, o49, ⟨x45, rfl, b50, b51, o52⟩⟩ := hq
    refine T_vI ?_
    have f44 := z_Fr.tr (R := R_X12_lines_309) f18 f43 rs_X12_breaks_309__X12_lines_309
    have t53 : s41 309 20 = s 309 20 := (f43 309 20 (by decide)).trans t26
    have t54 : s41 309 44 = s 309 44 := (f43 309 44 (by decide)).trans t29
    have t55 : s41 309 58 = s 309 58 := (f43 309 58 (by decide)).trans t30
    have t56 : s41 316 0 = s 316 0 := (f43 316 0 (by decide)).trans t31
    have t57 : s41 329 0 = s 329 0 := (f43 329 0 (by decide)).trans t32
    have t58 : s41 329 1 = s 329 1 := (f43 329 1 (by decide)).trans t33
    have u59 := CI_b c42 (k := 309) (j := 36) bd_309_36
    have u60 := CI_b c42 (k := 309) (j := 43) bd_309_43
    have r61 := y_TA.fr r34 (fun a b h => f43 a b (nz_X12_breaks_309__316_328 a b h)) (fun a b h => f43 a b (nz_X12_breaks_309__346_358 a b h)) (fun a b h => f43 a b (nz_X12_breaks_309__361_373 a b h))
    have r62 := y_DD.fr r35 (f43 329 0 (by decide)) (f43 329 1 (by decide)) (fun b => f43 359 b (nr_X12_breaks_309__359 b)) (fun b => f43 374 b (nr_X12_breaks_309__374 b))
    have r63 := y_B.fr r36 (f43 309 20 (by decide)) (f43 316 0 (by decide)) (fun b => f43 3220 b (nr_X12_breaks_309__3220 b)) (fun b => f43 3221 b (nr_X12_breaks_309__3221 b)) (fun b => f43 3222 b (nr_X12_breaks_309__3222 b)) (fun b => f43 361 b (nr_X12_breaks_309__361 b))
    clear t26
    clear t29
    clear t30
    clear t31
    clear t32
    clear t33
    refine T_if1 ⟨(by decide +kernel), by unfold z_bl; omega⟩ ?_
    refine T_upg c42 bd_309_43 (by omega) (fun s64 c65 g67 g68 e69 => ?_)
    have f66 := z_Fr.upf (R := R_X12_lines_309) f44 g67 g68 (Or.inr (Or.inr (⟨rfl, by decide⟩)))
    have t70 : s64 309 20 = s 309 20 := (g68 20 (by decide)).trans t53
    have t71 : s64 309 36 = s41 309 36 := g68 36 (by decide)
    have t72 : s64 309 44 = s 309 44 := (g68 44 (by decide)).trans t54
    have t73 : s64 309 58 = s 309 58 := (g68 58 (by decide)).trans t55
    have t74 : s64 316 0 = s 316 0 := (g67 316 0 (by decide)).trans t56
    have t75 : s64 329 0 = s 329 0 := (g67 329 0 (by decide)).trans t57
    have t76 : s64 329 1 = s 329 1 := (g67 329 1 (by decide)).trans t58
    have u77 := CI_b c65 (k := 309) (j := 43) bd_309_43
    have r78 := y_TA.fr r61 (fun a b h => g67 a b (by omega)) (fun a b h => g67 a b (by omega)) (fun a b h => g67 a b (by omega))
    have r79 := y_DD.fr r62 (g67 329 0 (by decide)) (g67 329 1 (by decide)) (fun b => g67 359 b (by decide)) (fun b => g67 374 b (by decide))
    have r80 := y_B.fr r63 (g68 20 (by decide)) (g67 316 0 (by decide)) (fun b => g67 3220 b (by decide)) (fun b => g67 3221 b (by decide)) (fun b => g67 3222 b (by decide)) (fun b => g67 361 b (by decide))
    have r81 := y_KM.fr o49 (g68 20 (by decide)) (g68 36 (by decide)) (g68 38 (by decide)) (g68 39 (by decide)) (fun b => g67 312 b (by decide)) (fun b => g67 331 b (by decide)) (fun b => g67 346 b (by decide)) (fun b => g67 361 b (by decide)) (fun b => g67 391 b (by decide)) (fun a b h => g67 a b (by omega)) (fun a b h => g67 a b (by omega)) (fun a b h => g67 a b (by omega))
    have r82 := y_L.fr o52 (g68 20 (by decide)) (fun b => g67 3438 b (by decide))
    clear t53
    clear t54
    clear t55
    clear t56
    clear t57
    clear t58
    exact T_ret ⟨c65, f66, r78, (by first | exact r79 | exact y_DD.z (by omega) (by omega)), r80, (by first | exact y_K.b0 (by omega) | exact y_K.k0 (by omega) | exact y_K.bk (by omega)), (by first | exact r81 | exact y_KM.z (by omega)), (by first | exact y_YM.b0 (by omega) | exact y_YM.k0 (by omega) | exact y_YM.bk (by omega)), ⟨x45, rfl, by omega, by omega⟩⟩
  · exact T_ret ⟨c16, f18, r34, (by first | exact r35 | exact y_DD.z (by omega) (by omega)), r36, (by first | exact r37 | exact y_K.b0 (by omega) | exact y_K.k0 (by omega) | exact y_K.bk (by omega)), (by first | exact r38 | exact y_KM.z (by omega)), (by first | exact r39 | exact y_YM.b0 (by omega) | exact y_YM.k0 (by omega) | exact y_YM.bk (by omega)), ⟨0, rfl, by omega, by omega⟩⟩
theorem sj_X12_lines_309Y_J27 {fu : Nat} (hfu : 8589934592 ≤ fu) (r0 s : z_M) (c : z_CI s) (f : z_Fr R_X12_lines_309 r0 s) (a1 : Int) (a2 : Int) (b1 : -2147483648 ≤ a1 ∧ a1 ≤ 2147483647) (b2 : -2147483648 ≤ a2 ∧ a2 ≤ 2147483647) (p0 : y_TA s) (p1 : y_DD s) (p2 : y_B s) (p3 : y_K s) (p4 : y_KM s) (p5 : y_YM s) : z_T (fX12_lines_J27 fu s 309 a1 a2 309) (P_X12_lines_309Y r0) := by
  refine T_of (fX12_lines_J27.eq_1 ..) ?_
  have u1 := CI_b c (k := 309) (j := 20) bd_309_20
  have u2 := CI_b c (k := 309) (j := 36) bd_309_36
  have u3 := CI_b c (k := 309) (j := 43) bd_309_43
  have u4 := CI_b c (k := 309) (j := 44) bd_309_44
  have u5 := CI_b c (k := 309) (j := 58) bd_309_58
  have u6 := CI_b c (k := 316) (j := 0) bd_316_0
  have u7 := CI_b c (k := 329) (j := 0) bd_329_0
  have u8 := CI_b c (k := 329) (j := 1) bd_329_1
  have t9 : s 309 20 = r0 309 20 := f 309 20 (by decide)
  have t10 : s 309 44 = r0 309 44 := f 309 44 (by decide)
  have t11 : s 309 58 = r0 309 58 := f 309 58 (by decide)
  have t12 : s 316 0 = r0 316 0 := f 316 0 (by decide)
  have t13 : s 329 0 = r0 329 0 := f 329 0 (by decide)
  have t14 : s 329 1 = r0 329 1 := f 329 1 (by decide)
  exact sj_X12_lines_309Y_J32 hfu r0 s c f a1 a2 1 (by omega) (by omega) (by omega) p0 (by first | exact p1 | exact y_DD.z (by omega) (by omega)) p2 (by first | exact p3 | exact y_K.b0 (by omega) | exact y_K.k0 (by omega) | exact y_K.bk (by omega)) (by first | exact p4 | exact y_KM.z (by omega)) (by first | exact p5 | exact y_YM.b0 (by omega) | exact y_YM.k0 (by omega) | exact y_YM.bk (by omega))
theorem sf_X12_lines_309Y {fu : Nat} (hfu : 8589934592 ≤ fu) (r0 : z_M) (c0 : z_CI r0) (a1 : Int) (a2 : Int) (b1 : -2147483648 ≤ a1 ∧ a1 ≤ 2147483647) (b2 : -2147483648 ≤ a2 ∧ a2 ≤ 2147483647) (p0 : y_TA r0) (p1 : y_DD r0) (p2 : y_B r0) (p3 : y_K r0) (p4 : y_KM r0) (p5 : y_YM r0) : z_T (fX12_lines fu r0 309 a1 a2) (P_X12_lines_309Y r0) := by
  refine T_of (fX12_lines.eq_1 ..) ?_
  have u1 := CI_b c0 (k := 309) (j := 20) bd_309_20
  have u2 := CI_b c0 (k := 309) (j := 36) bd_309_36
  have u3 := CI_b c0 (k := 309) (j := 43) bd_309_43
  have u4 := CI_b c0 (k := 309) (j := 44) bd_309_44
  have u5 := CI_b c0 (k := 309) (j := 58) bd_309_58
  have u6 := CI_b c0 (k := 316) (j := 0) bd_316_0
  have u7 := CI_b c0 (k := 329) (j := 0) bd_329_0
  have u8 := CI_b c0 (k := 329) (j := 1) bd_329_1
  refine T_if1 (by decide +kernel) ?_
  refine T_upg c0 bd_309_0 (by omega) (fun s9 c10 g12 g13 e14 => ?_)
  have f11 := z_Fr.upf (R := R_X12_lines_309) z_Fr.rf g12 g13 (Or.inr (Or.inr (⟨rfl, by decide⟩)))
  have t15 : s9 309 20 = r0 309 20 := g13 20 (by decide)
  have t16 : s9 309 36 = r0 309 36 := g13 36 (by decide)
  have t17 : s9 309 43 = r0 309 43 := g13 43 (by decide)
  have t18 : s9 309 44 = r0 309 44 := g13 44 (by decide)
  have t19 : s9 309 58 = r0 309 58 := g13 58 (by decide)
  have t20 : s9 316 0 = r0 316 0 := g12 316 0 (by decide)
  have t21 : s9 329 0 = r0 329 0 := g12 329 0 (by decide)
  have t22 : s9 329 1 = r0 329 1 := g12 329 1 (by decide)
  have r23 := y_TA.fr p0 (fun a b h => g12 a b (by omega)) (fun a b h => g12 a b (by omega)) (fun a b h => g12 a b (by omega))
  have r24 := y_DD.fr p1 (g12 329 0 (by decide)) (g12 329 1 (by decide)) (fun b => g12 359 b (by decide)) (fun b => g12 374 b (by decide))
  have r25 := y_B.fr p2 (g13 20 (by decide)) (g12 316 0 (by decide)) (fun b => g12 3220 b (by decide)) (fun b => g12 3221 b (by decide)) (fun b => g12 3222 b (by decide)) (fun b => g12 361 b (by decide))
  have r26 := y_K.fr p3 (by omega) (by omega) (g13 44 (by decide)) (g13 20 (by decide)) (g13 58 (by decide)) (fun b => g12 3438 b (by decide)) (fun b => g12 3220 b (by decide)) (fun a b h => g12 a b (by omega))
  have r27 := y_KM.fr p4 (g13 20 (by decide)) (g13 36 (by decide)) (g13 38 (by decide)) (g13 39 (by decide)) (fun b => g12 312 b (by decide)) (fun b => g12 331 b (by decide)) (fun b => g12 346 b (by decide)) (fun b => g12 361 b (by decide)) (fun b => g12 391 b (by decide)) (fun a b h => g12 a b (by omega)) (fun a b h => g12 a b (by omega)) (fun a b h => g12 a b (by omega))
  have r28 := y_YM.fr p5 (by omega) (g13 44 (by decide)) (g13 20 (by decide)) (g13 58 (by decide)) (fun b => g12 312 b (by decide)) (fun b => g12 331 b (by decide)) (fun b => g12 346 b (by decide)) (fun b => g12 361 b (by decide)) (fun b => g12 391 b (by decide)) (fun a b h => g12 a b (by omega)) (fun a b h => g12 a b (by omega)) (fun b => g12 3438 b (by decide)) (fun a b h => g12 a b (by omega)) (fun a b h => g12 a b (by omega))
  refine T_useI (sf_X12_in hfu s9 c10 a1 12 999 (by omega) (by omega) (by omega)) (fun v34 s29 hq => ?_)
  obtain ⟨c30, f31, ⟨x33, rfl, b35, b36, o37⟩⟩ := hq
  refine T_vI ?_
  have q38 := z_Fr.eq (fun a b h => h) f31
  subst q38
  refine T_ite (fun h39 => ?_) (fun h39 => ?_)
  · exact sj_X12_lines_309Y_J27 hfu r0 s9 c10 f11 a1 a2 (by omega) (by omega) r23 (by first | exact r24 | exact y_DD.z (by omega) (by omega)) r25 (by first | exact r26 | exact y_K.b0 (by omega) | exact y_K.k0 (by omega) | exact y_K.bk (by omega)) (by first | exact r27 | exact y_KM.z (by omega)) (by first | exact r28 | exact y_YM.b0 (by omega) | exact y_YM.k0 (by omega) | exact y_YM.bk (by omega))
  · refine T_useI (sf_X12_in hfu s9 c10 a2 0 1 (by omega) (by omega) (by omega)) (fun v45 s40 hq => ?_)
    obtain ⟨c41, f42, ⟨x44, rfl, b46, b47, o48⟩⟩ := hq
    refine T_vI ?_
    have q49 := z_Fr.eq (fun a b h => h) f42
    subst q49
    refine T_ite (fun h50 => ?_) (fun h50 => ?_)
    · exact sj_X12_lines_309Y_J32 hfu r0 s9 c10 f11 a1 a2 0 (by omega) (by omega) (by omega) r23 (by first | exact r24 | exact y_DD.z (by omega) (by omega)) r25 (by first | exact r26 | exact y_K.b0 (by omega) | exact y_K.k0 (by omega) | exact y_K.bk (by omega)) (by first | exact r27 | exact y_KM.z (by omega)) (by first | exact r28 | exact y_YM.b0 (by omega) | exact y_YM.k0 (by omega) | exact y_YM.bk (by omega))
    · exact sj_X12_lines_309Y_J27 hfu r0 s9 c10 f11 a1 a2 (by omega) (by omega) r23 (by first | exact r24 | exact y_DD.z (by omega) (by omega)) r25 (by first | exact r26 | exact y_K.b0 (by omega) | exact y_K.k0 (by omega) | exact y_K.bk (by omega)) (by first | exact r27 | exact y_KM.z (by omega)) (by first | exact r28 | exact y_YM.b0 (by omega) | exact y_YM.k0 (by omega) | exact y_YM.bk (by omega))
abbrev P_X12_least_309Y (r0 : z_M) : z_V → z_M → Prop := fun v s' => z_CI s' ∧ z_Fr R_X12_least_309 r0 s' ∧ (y_TA s') ∧ (y_DD s') ∧ (y_B s') ∧ (y_K s') ∧ (y_KM s') ∧ (y_YM s') ∧ (∃ x, v = vI x ∧ -2147483648 ≤ x ∧ x ≤ 2147483647)
theorem sj_X12_least_309Y_J116 {fu : Nat} (hfu : 8589934592 ≤ fu) (r0 s : z_M) (c : z_CI s) (f : z_Fr R_X12_least_309 r0 s) (a1 : Int) (a2 : Int) (a3 : Int) (a5 : Int) (t0 : Int) (b1 : -2147483648 ≤ a1 ∧ a1 ≤ 2147483647) (b2 : 12 ≤ a2 ∧ a2 ≤ 999) (b3 : 0 ≤ a3 ∧ a3 ≤ 200) (b5 : 0 ≤ a5 ∧ a5 ≤ 199) (d0 : 0 ≤ t0 ∧ t0 ≤ 1) (p0 : s 309 43 = 0 ∨ s 309 36 = 0) (p1 : y_L s a3) (p2 : y_TA s) (p3 : y_DD s) (p4 : y_B s) (p5 : y_K s) (p6 : y_KM s) (p7 : y_YM s) (M : Int) (pm : 2147483647 - a5 ≤ M) {r : z_M → Int → Int → z_O} {k : z_M → Int → z_O} (hr : ∀ (s' : z_M) (v4 : Int) (v5 : Int), z_CI s' → z_Fr R_X12_least_309 r0 s' → (0 ≤ v4 ∧ v4 ≤ 1) → (0 ≤ v5 ∧ v5 ≤ 200) → (s' 309 43 = 0 ∨ s' 309 36 = 0) → (y_L s' a3) → (y_TA s') → (y_DD s') → (y_B s') → (y_K s') → (y_KM s') → (y_YM s') → (2147483647 - v5 < M) → z_T (r s' v4 v5) (P_X12_least_309Y r0)) (hk : ∀ (s' : z_M) (v4 : Int), z_CI s' → z_Fr R_X12_least_309 r0 s' → (0 ≤ v4 ∧ v4 ≤ 1) → (s' 309 43 = 0 ∨ s' 309 36 = 0) → (y_TA s') → (y_DD s') → (y_B s') → (y_K s') → (y_KM s') → (y_YM s') → z_T (k s' v4) (P_X12_least_309Y r0)) : z_T (fX12_least_J116 fu s 309 a1 a2 a3 a5 t0 r k) (P_X12_least_309Y r0) := by
  refine T_of (fX12_least_J116.eq_1 ..) ?_
  have u1 := CI_b c (k := 309) (j := 20) bd_309_20
  have u2 := CI_b c (k := 309) (j := 36) bd_309_36
  have u3 := CI_b c (k := 309) (j := 43) bd_309_43
  have u4 := CI_b c (k := 309) (j := 44) bd_309_44
  have u5 := CI_b c (k := 309) (j := 58) bd_309_58
  have u6 := CI_b c (k := 316) (j := 0) bd_316_0
  have u7 := CI_b c (k := 329) (j := 0) bd_329_0
  have u8 := CI_b c (k := 329) (j := 1) bd_329_1
  have t9 : s 309 20 = r0 309 20 := f 309 20 (by decide)
  have t10 : s 309 44 = r0 309 44 := f 309 44 (by decide)
  have t11 : s 309 58 = r0 309 58 := f 309 58 (by decide)
  have t12 : s 316 0 = r0 316 0 := f 316 0 (by decide)
  have t13 : s 329 0 = r0 329 0 := f 329 0 (by decide)
  have t14 : s 329 1 = r0 329 1 := f 329 1 (by decide)
  refine T_leq (fun x15 e16 => ?_)
  first | (have w17 := z_wx e16 (by omega)) | (have w17 := z_wr e16)
  exact hr s t0 x15 c f (by omega) (by omega) (by omega) (by first | exact y_L.cg p1 (by omega) | exact y_K.L p5 (by omega) (by omega)) p2 (by first | exact p3 | exact y_DD.z (by omega) (by omega)) p4 (by first | exact p5 | exact y_K.b0 (by omega) | exact y_K.k0 (by omega) | exact y_K.bk (by omega)) (by first | exact p6 | exact y_KM.z (by omega)) (by first | exact p7 | exact y_YM.b0 (by omega) | exact y_YM.k0 (by omega) | exact y_YM.bk (by omega)) (by omega)
theorem sl_X12_least_309Y_L74 {fu : Nat} (hfu : 8589934592 ≤ fu) (r0 : z_M) (a1 : Int) (a2 : Int) (a3 : Int) (b1 : -2147483648 ≤ a1 ∧ a1 ≤ 2147483647) (b2 : 12 ≤ a2 ∧ a2 ≤ 999) (b3 : 0 ≤ a3 ∧ a3 ≤ 200) {k : z_M → Int → z_O} (hk : ∀ (s' : z_M) (v4 : Int), z_CI s' → z_Fr R_X12_least_309 r0 s' → (0 ≤ v4 ∧ v4 ≤ 1) → (s' 309 43 = 0 ∨ s' 309 36 = 0) → (y_TA s') → (y_DD s') → (y_B s') → (y_K s') → (y_KM s') → (y_YM s') → z_T (k s' v4) (P_X12_least_309Y r0)) : ∀ (F : Nat) (s : z_M) (a4 : Int) (a5 : Int), z_CI s → z_Fr R_X12_least_309 r0 s → (0 ≤ a4 ∧ a4 ≤ 1) → (0 ≤ a5 ∧ a5 ≤ 200) → (s 309 43 = 0 ∨ s 309 36 = 0) → (y_L s a3) → (y_TA s) → (y_DD s) → (y_B s) → (y_K s) → (y_KM s) → (y_YM s) → (2147483647 - a5 < (F : Int)) → z_T (fX12_least_L74 fu 309 a1 a2 a3 F s a4 a5 k) (P_X12_least_309Y r0) := by
  intro F
  induction F with
  | zero =>
    intro s a4 a5 c f b4 b5 i0 i1 i2 i3 i4 i5 i6 i7 hm
    have u57 := CI_b c (k := 309) (j := 20) bd_309_20
    have u58 := CI_b c (k := 309) (j := 36) bd_309_36
    have u59 := CI_b c (k := 309) (j := 43) bd_309_43
    have u60 := CI_b c (k := 309) (j := 44) bd_309_44
    have u61 := CI_b c (k := 309) (j := 58) bd_309_58
    have u62 := CI_b c (k := 316) (j := 0) bd_316_0
    have u63 := CI_b c (k := 329) (j := 0) bd_329_0
    have u64 := CI_b c (k := 329) (j := 1) bd_329_1
    exfalso; omega
  | succ F ih =>
    intro s a4 a5 c f b4 b5 i0 i1 i2 i3 i4 i5 i6 i7 hm
    refine T_of (fX12_least_L74.eq_2 ..) ?_
    have u1 := CI_b c (k := 309) (j := 20) bd_309_20
    have u2 := CI_b c (k := 309) (j := 36) bd_309_36
    have u3 := CI_b c (k := 309) (j := 43) bd_309_43
    have u4 := CI_b c (k := 309) (j := 44) bd_309_44
    have u5 := CI_b c (k := 309) (j := 58) bd_309_58
    have u6 := CI_b c (k := 316) (j := 0) bd_316_0
    have u7 := CI_b c (k := 329) (j := 0) bd_329_0
    have u8 := CI_b c (k := 329) (j := 1) bd_329_1
    have t9 : s 309 20 = r0 309 20 := f 309 20 (by decide)
    have t10 : s 309 44 = r0 309 44 := f 309 44 (by decide)
    have t11 : s 309 58 = r0 309 58 := f 309 58 (by decide)
    have t12 : s 316 0 = r0 316 0 := f 316 0 (by decide)
    have t13 : s 329 0 = r0 329 0 := f 329 0 (by decide)
    have t14 : s 329 1 = r0 329 1 := f 329 1 (by decide)
    refine T_ite (fun h15 => ?_) (fun h15 => ?_)
    · exact hk s a4 c f (by omega) (by omega) i2 (by first | exact i3 | exact y_DD.z (by omega) (by omega)) i4 (by first | exact i5 | exact y_K.b0 (by omega) | exact y_K.k0 (by omega) | exact y_K.bk (by omega)) (by first | exact i6 | exact y_KM.z (by omega)) (by first | exact i7 | exact y_YM.b0 (by omega) | exact y_YM.k0 (by omega) | exact y_YM.bk (by omega))
    · refine T_ite (fun h16 => ?_) (fun h16 => ?_)
      · exact hk s a4 c f (by omega) (by omega) i2 (by first | exact i3 | exact y_DD.z (by omega) (by omega)) i4 (by first | exact i5 | exact y_K.b0 (by omega) | exact y_K.k0 (by omega) | exact y_K.bk (by omega)) (by first | exact i6 | exact y_KM.z (by omega)) (by first | exact i7 | exact y_YM.b0 (by omega) | exact y_YM.k0 (by omega) | exact y_YM.bk (by omega))
      · refine T_if1 (by decide +kernel) ?_
        refine T_let 3438 (by decide +kernel) ?_
        refine T_if1 (z_ixl (n := 201) (by decide +kernel) (by omega) (by omega)) ?_
        refine T_leq (fun x17 e18 => ?_)
        have u19 := CI_b c (k := 3438) (j := a5) (bdr_3438 a5)
        refine T_if1 (by decide +kernel) ?_
        refine T_let 3438 (by decide +kernel) ?_
        refine T_leq (fun x20 e21 => ?_)
        first | (have w22 := z_wx e21 (by omega)) | (have w22 := z_wr e21)
        have n23 := y_L.at i1 (i := a5) (j := x20) (by omega) (by omega) (by omega)
        refine T_if1 (z_ixl (n := 201) (by decide +kernel) (by omega) (by omega)) ?_
        refine T_leq (fun x24 e25 => ?_)
        have u26 := CI_b c (k := 3438) (j := x20) (bdr_3438 x20)
        refine T_leq (fun x27 e28 => ?_)
        first | (have w29 := z_wx e28 (by omega)) | (have w29 := z_wr e28)
        refine T_if1 (by decide +kernel) ?_
        refine T_useI (sf_X12_longAs_309K hfu s c x17 x27 (by omega) (by omega) i4 (by omega) (by omega) (by first | exact i6 | exact y_KM.z (by omega))) (fun v35 s30 hq => ?_)
        obtain ⟨c31, f32, o36, o37, o38, o39, ⟨x34, rfl, b40, b41⟩⟩ := hq
        refine T_vI ?_
        have f33 := z_Fr.tr (R := R_X12_least_309) f f32 rs_X12_longAs_309__X12_least_309
        have t42 : s30 309 20 = s 309 20 := f32 309 20 (by decide)
        have t43 : s30 309 44 = s 309 44 := f32 309 44 (by decide)
        have t44 : s30 309 58 = s 309 58 := f32 309 58 (by decide)
        have t45 : s30 316 0 = s 316 0 := f32 316 0 (by decide)
        have t46 : s30 329 0 = s 329 0 := f32 329 0 (by decide)
        have t47 : s30 329 1 = s 329 1 := f32 329 1 (by decide)
        have u48 := CI_b c31 (k := 309) (j := 36) bd_309_36
        have u49 := CI_b c31 (k := 309) (j := 43) bd_309_43
        have r50 := y_L.fr i1 (f32 309 20 (by decide)) (fun b => f32 3438 b (nr_X12_longAs_309__3438 b))
        have r51 := y_TA.fr i2 (fun a b h => f32 a b (nz_X12_longAs_309__316_328 a b h)) (fun a b h => f32 a b (nz_X12_longAs_309__346_358 a b h)) (fun a b h => f32 a b (nz_X12_longAs_309__361_373 a b h))
        have r52 := y_DD.fr i3 (f32 329 0 (by decide)) (f32 329 1 (by decide)) (fun b => f32 359 b (nr_X12_longAs_309__359 b)) (fun b => f32 374 b (nr_X12_longAs_309__374 b))
        have r53 := y_B.fr i4 (f32 309 20 (by decide)) (f32 316 0 (by decide)) (fun b => f32 3220 b (nr_X12_longAs_309__3220 b)) (fun b => f32 3221 b (nr_X12_longAs_309__3221 b)) (fun b => f32 3222 b (nr_X12_longAs_309__3222 b)) (fun b => f32 361 b (nr_X12_longAs_309__361 b))
        have r54 := y_K.fr i5 (by omega) (by omega) (f32 309 44 (by decide)) (f32 309 20 (by decide)) (f32 309 58 (by decide)) (fun b => f32 3438 b (nr_X12_longAs_309__3438 b)) (fun b => f32 3220 b (nr_X12_longAs_309__3220 b)) (fun a b h => f32 a b (nz_X12_longAs_309__3452_3651 a b h))
        have r55 := y_YM.fr i7 (by omega) (f32 309 44 (by decide)) (f32 309 20 (by decide)) (f32 309 58 (by decide)) (fun b => f32 312 b (nr_X12_longAs_309__312 b)) (fun b => f32 331 b (nr_X12_longAs_309__331 b)) (fun b => f32 346 b (nr_X12_longAs_309__346 b)) (fun b => f32 361 b (nr_X12_longAs_309__361 b)) (fun b => f32 391 b (nr_X12_longAs_309__391 b)) (fun a b h => f32 a b (nz_X12_longAs_309__407_606 a b h)) (fun a b h => f32 a b (nz_X12_longAs_309__3220_3223 a b h)) (fun b => f32 3438 b (nr_X12_longAs_309__3438 b)) (fun a b h => f32 a b (nz_X12_longAs_309__3441_3450 a b h)) (fun a b h => f32 a b (nz_X12_longAs_309__3452_3651 a b h))
        refine T_ite (fun h56 => ?_) (fun h56 => ?_)
        · exact sj_X12_least_309Y_J116 hfu r0 s30 c31 f33 a1 a2 a3 a5 0 (by omega) (by omega) (by omega) (by omega) (by omega) (by omega) (by first | exact y_L.cg r50 (by omega) | exact y_K.L r54 (by omega) (by omega)) r51 (by first | exact r52 | exact y_DD.z (by omega) (by omega)) r53 (by first | exact r54 | exact y_K.b0 (by omega) | exact y_K.k0 (by omega) | exact y_K.bk (by omega)) (by first | exact o39 | exact y_KM.z (by omega)) (by first | exact r55 | exact y_YM.b0 (by omega) | exact y_YM.k0 (by omega) | exact y_YM.bk (by omega)) (2147483647 - a5) (by omega) (fun s' v4 v5 c' f' w4 w5 z0 z1 z2 z3 z4 z5 z6 z7 pg => ih s' v4 v5 c' f' w4 w5 z0 z1 z2 z3 z4 z5 z6 z7 (by omega)) hk
        · exact sj_X12_least_309Y_J116 hfu r0 s30 c31 f33 a1 a2 a3 a5 1 (by omega) (by omega) (by omega) (by omega) (by omega) (by omega) (by first | exact y_L.cg r50 (by omega) | exact y_K.L r54 (by omega) (by omega)) r51 (by first | exact r52 | exact y_DD.z (by omega) (by omega)) r53 (by first | exact r54 | exact y_K.b0 (by omega) | exact y_K.k0 (by omega) | exact y_K.bk (by omega)) (by first | exact o39 | exact y_KM.z (by omega)) (by first | exact r55 | exact y_YM.b0 (by omega) | exact y_YM.k0 (by omega) | exact y_YM.bk (by omega)) (2147483647 - a5) (by omega) (fun s' v4 v5 c' f' w4 w5 z0 z1 z2 z3 z4 z5 z6 z7 pg => ih s' v4 v5 c' f' w4 w5 z0 z1 z2 z3 z4 z5 z6 z7 (by omega)) hk
theorem sj_X12_least_309Y_J124 {fu : Nat} (hfu : 8589934592 ≤ fu) (r0 s : z_M) (c : z_CI s) (f : z_Fr R_X12_least_309 r0 s) (a1 : Int) (a2 : Int) (a4 : Int) (b1 : -2147483648 ≤ a1 ∧ a1 ≤ 2147483647) (b2 : 12 ≤ a2 ∧ a2 ≤ 999) (b4 : 0 ≤ a4 ∧ a4 ≤ 1) (p0 : s 309 43 = 0 ∨ s 309 36 = 0) (p1 : y_TA s) (p2 : y_DD s) (p3 : y_B s) (p4 : y_K s) (p5 : y_KM s) (p6 : y_YM s) (M : Int) (pm : 2147483647 - a2 ≤ M) {r : z_M → Int → z_O} {k : z_M → z_O} (hr : ∀ (s' : z_M) (v2 : Int), z_CI s' → z_Fr R_X12_least_309 r0 s' → (12 ≤ v2 ∧ v2 ≤ 1000) → (s' 309 43 = 0 ∨ s' 309 36 = 0) → (y_TA s') → (y_DD s') → (y_B s') → (y_K s') → (y_KM s') → (y_YM s') → (2147483647 - v2 < M) → z_T (r s' v2) (P_X12_least_309Y r0)) (hk : ∀ (s' : z_M), z_CI s' → z_Fr R_X12_least_309 r0 s' → (y_TA s') → (y_DD s') → (y_B s') → (y_K s') → (y_KM s') → (y_YM s') → z_T (k s') (P_X12_least_309Y r0)) : z_T (fX12_least_J124 fu s 309 a1 a2 a4 r k) (P_X12_least_309Y r0) := by
  refine T_of (fX12_least_J124.eq_1 ..) ?_
  have u1 := CI_b c (k := 309) (j := 20) bd_309_20
  have u2 := CI_b c (k := 309) (j := 36) bd_309_36
  have u3 := CI_b c (k := 309) (j := 43) bd_309_43
  have u4 := CI_b c (k := 309) (j := 44) bd_309_44
  have u5 := CI_b c (k := 309) (j := 58) bd_309_58
  have u6 := CI_b c (k := 316) (j := 0) bd_316_0
  have u7 := CI_b c (k := 329) (j := 0) bd_329_0
  have u8 := CI_b c (k := 329) (j := 1) bd_329_1
  have t9 : s 309 20 = r0 309 20 := f 309 20 (by decide)
  have t10 : s 309 44 = r0 309 44 := f 309 44 (by decide)
  have t11 : s 309 58 = r0 309 58 := f 309 58 (by decide)
  have t12 : s 316 0 = r0 316 0 := f 316 0 (by decide)
  have t13 : s 329 0 = r0 329 0 := f 329 0 (by decide)
  have t14 : s 329 1 = r0 329 1 := f 329 1 (by decide)
  refine T_ite (fun h15 => ?_) (fun h15 => ?_)
  · refine T_leq (fun x16 e17 => ?_)
    first | (have w18 := z_wx e17 (by omega)) | (have w18 := z_wr e17)
    exact hr s x16 c f (by omega) (by omega) p1 (by first | exact p2 | exact y_DD.z (by omega) (by omega)) p3 (by first | exact p4 | exact y_K.b0 (by omega) | exact y_K.k0 (by omega) | exact y_K.bk (by omega)) (by first | exact p5 | exact y_KM.z (by omega)) (by first | exact p6 | exact y_YM.b0 (by omega) | exact y_YM.k0 (by omega) | exact y_YM.bk (by omega)) (by omega)
  · exact T_ret ⟨c, f, p1, (by first | exact p2 | exact y_DD.z (by omega) (by omega)), p3, (by first | exact p4 | exact y_K.b0 (by omega) | exact y_K.k0 (by omega) | exact y_K.bk (by omega)), (by first | exact p5 | exact y_KM.z (by omega)), (by first | exact p6 | exact y_YM.b0 (by omega) | exact y_YM.k0 (by omega) | exact y_YM.bk (by omega)), ⟨a2, rfl, by omega, by omega⟩⟩
theorem sj_X12_least_309Y_J69 {fu : Nat} (hfu : 8589934592 ≤ fu) (r0 s : z_M) (c : z_CI s) (f : z_Fr R_X12_least_309 r0 s) (a1 : Int) (a2 : Int) (a3 : Int) (t0 : Int) (b1 : -2147483648 ≤ a1 ∧ a1 ≤ 2147483647) (b2 : 12 ≤ a2 ∧ a2 ≤ 999) (b3 : 0 ≤ a3 ∧ a3 ≤ 200) (d0 : 0 ≤ t0 ∧ t0 ≤ 1) (p0 : s 309 43 = 0 ∨ s 309 36 = 0) (p1 : y_L s a3) (p2 : y_TA s) (p3 : y_DD s) (p4 : y_B s) (p5 : y_K s) (p6 : y_KM s) (p7 : y_YM s) (M : Int) (pm : 2147483647 - a2 ≤ M) {r : z_M → Int → z_O} {k : z_M → z_O} (hr : ∀ (s' : z_M) (v2 : Int), z_CI s' → z_Fr R_X12_least_309 r0 s' → (12 ≤ v2 ∧ v2 ≤ 1000) → (s' 309 43 = 0 ∨ s' 309 36 = 0) → (y_TA s') → (y_DD s') → (y_B s') → (y_K s') → (y_KM s') → (y_YM s') → (2147483647 - v2 < M) → z_T (r s' v2) (P_X12_least_309Y r0)) (hk : ∀ (s' : z_M), z_CI s' → z_Fr R_X12_least_309 r0 s' → (y_TA s') → (y_DD s') → (y_B s') → (y_K s') → (y_KM s') → (y_YM s') → z_T (k s') (P_X12_least_309Y r0)) : z_T (fX12_least_J69 fu s 309 a1 a2 a3 t0 r k) (P_X12_least_309Y r0) := by
  refine T_of (fX12_least_J69.eq_1 ..) ?_
  have u1 := CI_b c (k := 309) (j := 20) bd_309_20
  have u2 := CI_b c (k := 309) (j := 36) bd_309_36
  have u3 := CI_b c (k := 309) (j := 43) bd_309_43
  have u4 := CI_b c (k := 309) (j := 44) bd_309_44
  have u5 := CI_b c (k := 309) (j := 58) bd_309_58
  have u6 := CI_b c (k := 316) (j := 0) bd_316_0
  have u7 := CI_b c (k := 329) (j := 0) bd_329_0
  have u8 := CI_b c (k := 329) (j := 1) bd_329_1
  have t9 : s 309 20 = r0 309 20 := f 309 20 (by decide)
  have t10 : s 309 44 = r0 309 44 := f 309 44 (by decide)
  have t11 : s 309 58 = r0 309 58 := f 309 58 (by decide)
  have t12 : s 316 0 = r0 316 0 := f 316 0 (by decide)
  have t13 : s 329 0 = r0 329 0 := f 329 0 (by decide)
  have t14 : s 329 1 = r0 329 1 := f 329 1 (by decide)
  refine sl_X12_least_309Y_L74 hfu r0 a1 a2 a3 (by omega) (by omega) (by omega) (fun s15 y18 c16 f17 b19 g20 g21 g22 g23 g24 g25 g26 => ?_) fu s t0 0 c f (by omega) (by omega) (by omega) (by first | exact y_L.cg p1 (by omega) | exact y_K.L p5 (by omega) (by omega)) p2 (by first | exact p3 | exact y_DD.z (by omega) (by omega)) p4 (by first | exact p5 | exact y_K.b0 (by omega) | exact y_K.k0 (by omega) | exact y_K.bk (by omega)) (by first | exact p6 | exact y_KM.z (by omega)) (by first | exact p7 | exact y_YM.b0 (by omega) | exact y_YM.k0 (by omega) | exact y_YM.bk (by omega)) (by omega)
  have u27 := CI_b c16 (k := 309) (j := 20) bd_309_20
  have u28 := CI_b c16 (k := 309) (j := 36) bd_309_36
  have u29 := CI_b c16 (k := 309) (j := 43) bd_309_43
  have u30 := CI_b c16 (k := 309) (j := 44) bd_309_44
  have u31 := CI_b c16 (k := 309) (j := 58) bd_309_58
  have u32 := CI_b c16 (k := 316) (j := 0) bd_316_0
  have u33 := CI_b c16 (k := 329) (j := 0) bd_329_0
  have u34 := CI_b c16 (k := 329) (j := 1) bd_329_1
  have t35 : s15 309 20 = r0 309 20 := f17 309 20 (by decide)
  have t36 : s15 309 44 = r0 309 44 := f17 309 44 (by decide)
  have t37 : s15 309 58 = r0 309 58 := f17 309 58 (by decide)
  have t38 : s15 316 0 = r0 316 0 := f17 316 0 (by decide)
  have t39 : s15 329 0 = r0 329 0 := f17 329 0 (by decide)
  have t40 : s15 329 1 = r0 329 1 := f17 329 1 (by decide)
  exact sj_X12_least_309Y_J124 hfu r0 s15 c16 f17 a1 a2 y18 (by omega) (by omega) (by omega) (by omega) g21 (by first | exact g22 | exact y_DD.z (by omega) (by omega)) g23 (by first | exact g24 | exact y_K.b0 (by omega) | exact y_K.k0 (by omega) | exact y_K.bk (by omega)) (by first | exact g25 | exact y_KM.z (by omega)) (by first | exact g26 | exact y_YM.b0 (by omega) | exact y_YM.k0 (by omega) | exact y_YM.bk (by omega)) M (by omega) (fun s' v2 c' f' w2 z0 z1 z2 z3 z4 z5 z6 pg => hr s' v2 c' f' w2 z0 z1 z2 z3 z4 z5 z6 (by omega)) hk
theorem sl_X12_least_309Y_L40 {fu : Nat} (hfu : 8589934592 ≤ fu) (r0 : z_M) (a1 : Int) (b1 : -2147483648 ≤ a1 ∧ a1 ≤ 2147483647) {k : z_M → z_O} (hk : ∀ (s' : z_M), z_CI s' → z_Fr R_X12_least_309 r0 s' → (y_TA s') → (y_DD s') → (y_B s') → (y_K s') → (y_KM s') → (y_YM s') → z_T (k s') (P_X12_least_309Y r0)) : ∀ (F : Nat) (s : z_M) (a2 : Int), z_CI s → z_Fr R_X12_least_309 r0 s → (12 ≤ a2 ∧ a2 ≤ 1000) → (s 309 43 = 0 ∨ s 309 36 = 0) → (y_TA s) → (y_DD s) → (y_B s) → (y_K s) → (y_KM s) → (y_YM s) → (2147483647 - a2 < (F : Int)) → z_T (fX12_least_L40 fu 309 a1 F s a2 k) (P_X12_least_309Y r0) := by
  intro F
  induction F with
  | zero =>
    intro s a2 c f b2 i0 i1 i2 i3 i4 i5 i6 hm
    have u43 := CI_b c (k := 309) (j := 20) bd_309_20
    have u44 := CI_b c (k := 309) (j := 36) bd_309_36
    have u45 := CI_b c (k := 309) (j := 43) bd_309_43
    have u46 := CI_b c (k := 309) (j := 44) bd_309_44
    have u47 := CI_b c (k := 309) (j := 58) bd_309_58
    have u48 := CI_b c (k := 316) (j := 0) bd_316_0
    have u49 := CI_b c (k := 329) (j := 0) bd_329_0
    have u50 := CI_b c (k := 329) (j := 1) bd_329_1
    exfalso; omega
  | succ F ih =>
    intro s a2 c f b2 i0 i1 i2 i3 i4 i5 i6 hm
    refine T_of (fX12_least_L40.eq_2 ..) ?_
    have u1 := CI_b c (k := 309) (j := 20) bd_309_20
    have u2 := CI_b c (k := 309) (j := 36) bd_309_36
    have u3 := CI_b c (k := 309) (j := 43) bd_309_43
    have u4 := CI_b c (k := 309) (j := 44) bd_309_44
    have u5 := CI_b c (k := 309) (j := 58) bd_309_58
    have u6 := CI_b c (k := 316) (j := 0) bd_316_0
    have u7 := CI_b c (k := 329) (j := 0) bd_329_0
    have u8 := CI_b c (k := 329) (j := 1) bd_329_1
    have t9 : s 309 20 = r0 309 20 := f 309 20 (by decide)
    have t10 : s 309 44 = r0 309 44 := f 309 44 (by decide)
    have t11 : s 309 58 = r0 309 58 := f 309 58 (by decide)
    have t12 : s 316 0 = r0 316 0 := f 316 0 (by decide)
    have t13 : s 329 0 = r0 329 0 := f 329 0 (by decide)
    have t14 : s 329 1 = r0 329 1 := f 329 1 (by decide)
    refine T_ite (fun h15 => ?_) (fun h15 => ?_)
    · exact hk s c f i1 (by first | exact i2 | exact y_DD.z (by omega) (by omega)) i3 (by first | exact i4 | exact y_K.b0 (by omega) | exact y_K.k0 (by omega) | exact y_K.bk (by omega)) (by first | exact i5 | exact y_KM.z (by omega)) (by first | exact i6 | exact y_YM.b0 (by omega) | exact y_YM.k0 (by omega) | exact y_YM.bk (by omega))
    · refine T_if1 (by decide +kernel) ?_
      refine T_let 312 (by decide +kernel) ?_
      refine T_if1 (z_ixl (n := 9) (by decide +kernel) (by omega) (by omega)) ?_
      refine T_leq (fun x16 e17 => ?_)
      have u18 := CI_b c (k := 312) (j := 3) (bdr_312 3)
      refine T_if1 (by decide +kernel) ?_
      refine T_useI (sf_X12_breaks_309K hfu s c a2 x16 (by omega) (by omega) i3 (by first | exact i5 | exact y_KM.z (by omega))) (fun v24 s19 hq => ?_)
      obtain ⟨c20, f21, o25, o26, o27, ⟨x23, rfl, b28, b29, o30⟩⟩ := hq
      refine T_vI ?_
      have f22 := z_Fr.tr (R := R_X12_least_309) f f21 rs_X12_breaks_309__X12_least_309
      have t31 : s19 309 20 = s 309 20 := f21 309 20 (by decide)
      have t32 : s19 309 44 = s 309 44 := f21 309 44 (by decide)
      have t33 : s19 309 58 = s 309 58 := f21 309 58 (by decide)
      have t34 : s19 316 0 = s 316 0 := f21 316 0 (by decide)
      have t35 : s19 329 0 = s 329 0 := f21 329 0 (by decide)
      have t36 : s19 329 1 = s 329 1 := f21 329 1 (by decide)
      have u37 := CI_b c20 (k := 309) (j := 36) bd_309_36
      have u38 := CI_b c20 (k := 309) (j := 43) bd_309_43
      have r39 := y_TA.fr i1 (fun a b h => f21 a b (nz_X12_breaks_309__316_328 a b h)) (fun a b h => f21 a b (nz_X12_breaks_309__346_358 a b h)) (fun a b h => f21 a b (nz_X12_breaks_309__361_373 a b h))
      have r40 := y_DD.fr i2 (f21 329 0 (by decide)) (f21 329 1 (by decide)) (fun b => f21 359 b (nr_X12_breaks_309__359 b)) (fun b => f21 374 b (nr_X12_breaks_309__374 b))
      have r41 := y_B.fr i3 (f21 309 20 (by decide)) (f21 316 0 (by decide)) (fun b => f21 3220 b (nr_X12_breaks_309__3220 b)) (fun b => f21 3221 b (nr_X12_breaks_309__3221 b)) (fun b => f21 3222 b (nr_X12_breaks_309__3222 b)) (fun b => f21 361 b (nr_X12_breaks_309__361 b))
      refine T_ite (fun h42 => ?_) (fun h42 => ?_)
      · exact sj_X12_least_309Y_J69 hfu r0 s19 c20 f22 a1 a2 x23 0 (by omega) (by omega) (by omega) (by omega) (by omega) (by first | exact y_L.cg o30 (by omega)) r39 (by first | exact r40 | exact y_DD.z (by omega) (by omega)) r41 (by first | exact y_K.b0 (by omega) | exact y_K.k0 (by omega) | exact y_K.bk (by omega)) (by first | exact o27 | exact y_KM.z (by omega)) (by first | exact y_YM.b0 (by omega) | exact y_YM.k0 (by omega) | exact y_YM.bk (by omega)) (2147483647 - a2) (by omega) (fun s' v2 c' f' w2 z0 z1 z2 z3 z4 z5 z6 pg => ih s' v2 c' f' w2 z0 z1 z2 z3 z4 z5 z6 (by omega)) hk
      · exact sj_X12_least_309Y_J69 hfu r0 s19 c20 f22 a1 a2 x23 1 (by omega) (by omega) (by omega) (by omega) (by omega) (by first | exact y_L.cg o30 (by omega)) r39 (by first | exact r40 | exact y_DD.z (by omega) (by omega)) r41 (by first | exact y_K.b0 (by omega) | exact y_K.k0 (by omega) | exact y_K.bk (by omega)) (by first | exact o27 | exact y_KM.z (by omega)) (by first | exact y_YM.b0 (by omega) | exact y_YM.k0 (by omega) | exact y_YM.bk (by omega)) (2147483647 - a2) (by omega) (fun s' v2 c' f' w2 z0 z1 z2 z3 z4 z5 z6 pg => ih s' v2 c' f' w2 z0 z1 z2 z3 z4 z5 z6 (by omega)) hk
set_option maxHeartbeats 4000000 in
theorem sj_X12_least_309Y_J22 {fu : Nat} (hfu : 8589934592 ≤ fu) (r0 s : z_M) (c : z_CI s) (f : z_Fr R_X12_least_309 r0 s) (a1 : Int) (t1 : Int) (b1 : -2147483648 ≤ a1 ∧ a1 ≤ 2147483647) (d1 : 0 ≤ t1 ∧ t1 ≤ 1) (p0 : y_TA s) (p1 : y_DD s) (p2 : y_B s) (p3 : y_K s) (p4 : y_KM s) (p5 : y_YM s) : z_T (fX12_least_J22 fu s 309 a1 309 t1) (P_X12_least_309Y r0) := by
  refine T_of (fX12_least_J22.eq_1 ..) ?_
  have u1 := CI_b c (k := 309) (j := 20) bd_309_20
  have u2 := CI_b c (k := 309) (j := 36) bd_309_36
  have u3 := CI_b c (k := 309) (j := 43) bd_309_43
  have u4 := CI_b c (k := 309) (j := 44) bd_309_44
  have u5 := CI_b c (k := 309) (j := 58) bd_309_58
  have u6 := CI_b c (k := 316) (j := 0) bd_316_0
  have u7 := CI_b c (k := 329) (j := 0) bd_329_0
  have u8 := CI_b c (k := 329) (j := 1) bd_329_1
  have t9 : s 309 20 = r0 309 20 := f 309 20 (by decide)
  have t10 : s 309 44 = r0 309 44 := f 309 44 (by decide)
  have t11 : s 309 58 = r0 309 58 := f 309 58 (by decide)
  have t12 : s 316 0 = r0 316 0 := f 316 0 (by decide)
  have t13 : s 329 0 = r0 329 0 := f 329 0 (by decide)
  have t14 : s 329 1 = r0 329 1 := f 329 1 (by decide)
  refine T_if1 (by decide +kernel) ?_
  refine T_useI (sf_X12_bad_309 hfu s c t1 1 1 (by omega) (by omega) (by omega) (by omega)) (fun v20 s15 hq => ?_)
  obtain ⟨c16, f17, o21, ⟨x19, rfl, b22, b23, o24, o25⟩⟩ := hq
  refine T_vI ?_
  have f18 := z_Fr.tr (R := R_X12_least_309) f f17 rs_X12_bad_309__X12_least_309
  have t26 : s15 309 20 = s 309 20 := f17 309 20 (by decide)
  have t27 : s15 309 36 = s 309 36 := f17 309 36 (by decide)
  have t28 : s15 309 43 = s 309 43 := f17 309 43 (by decide)
  have t29 : s15 309 44 = s 309 44 := f17 309 44 (by decide)
  have t30 : s15 309 58 = s 309 58 := f17 309 58 (by decide)
  have t31 : s15 316 0 = s 316 0 := f17 316 0 (by decide)
  have t32 : s15 329 0 = s 329 0 := f17 329 0 (by decide)
  have t33 : s15 329 1 = s 329 1 := f17 329 1 (by decide)
  have r34 := y_TA.fr p0 (fun a b h => f17 a b (nz_X12_bad_309__316_328 a b h)) (fun a b h => f17 a b (nz_X12_bad_309__346_358 a b h)) (fun a b h => f17 a b (nz_X12_bad_309__361_373 a b h))
  have r35 := y_DD.fr p1 (f17 329 0 (by decide)) (f17 329 1 (by decide)) (fun b => f17 359 b (nr_X12_bad_309__359 b)) (fun b => f17 374 b (nr_X12_bad_309__374 b))
  have r36 := y_B.fr p2 (f17 309 20 (by decide)) (f17 316 0 (by decide)) (fun b => f17 3220 b (nr_X12_bad_309__3220 b)) (fun b => f17 3221 b (nr_X12_bad_309__3221 b)) (fun b => f17 3222 b (nr_X12_bad_309__3222 b)) (fun b => f17 361 b (nr_X12_bad_309__361 b))
  have r37 := y_K.fr p3 (by omega) (by omega) (f17 309 44 (by decide)) (f17 309 20 (by decide)) (f17 309 58 (by decide)) (fun b => f17 3438 b (nr_X12_bad_309__3438 b)) (fun b => f17 3220 b (nr_X12_bad_309__3220 b)) (fun a b h => f17 a b (nz_X12_bad_309__3452_3651 a b h))
  have r38 := y_KM.fr p4 (f17 309 20 (by decide)) (f17 309 36 (by decide)) (f17 309 38 (by decide)) (f17 309 39 (by decide)) (fun b => f17 312 b (nr_X12_bad_309__312 b)) (fun b => f17 331 b (nr_X12_bad_309__331 b)) (fun b => f17 346 b (nr_X12_bad_309__346 b)) (fun b => f17 361 b (nr_X12_bad_309__361 b)) (fun b => f17 391 b (nr_X12_bad_309__391 b)) (fun a b h => f17 a b (nz_X12_bad_309__407_606 a b h)) (fun a b h => f17 a b (nz_X12_bad_309__3220_3223 a b h)) (fun a b h => f17 a b (nz_X12_bad_309__3235_3437 a b h))
  have r39 := y_YM.fr p5 (by omega) (f17 309 44 (by decide)) (f17 309 20 (by decide)) (f17 309 58 (by decide)) (fun b => f17 312 b (nr_X12_bad_309__312 b)) (fun b => f17 331 b (nr_X12_bad_309__331 b)) (fun b => f17 346 b (nr_X12_bad_309__346 b)) (fun b => f17 361 b (nr_X12_bad_309__361 b)) (fun b => f17 391 b (nr_X12_bad_309__391 b)) (fun a b h => f17 a b (nz_X12_bad_309__407_606 a b h)) (fun a b h => f17 a b (nz_X12_bad_309__3220_3223 a b h)) (fun b => f17 3438 b (nr_X12_bad_309__3438 b)) (fun a b h => f17 a b (nz_X12_bad_309__3441_3450 a b h)) (fun a b h => f17 a b (nz_X12_bad_309__3452_3651 a b h))
  refine T_ite (fun h40 => ?_) (fun h40 => ?_)
  · refine T_if1 ⟨(by decide +kernel), by unfold z_bl; omega⟩ ?_
    refine T_upg c16 bd_309_43 (by omega) (fun s41 c42 g44 g45 e46 => ?_)
    have f43 := z_Fr.upf (R := R_X12_least_309) f18 g44 g45 (Or.inr (Or.inr (⟨rfl, by decide⟩)))
    have t47 : s41 309 20 = s 309 20 := (g45 20 (by decide)).trans t26
    have t48 : s41 309 36 = s 309 36 := (g45 36 (by decide)).trans t27
    have t49 : s41 309 44 = s 309 44 := (g45 44 (by decide)).trans t29
    have t50 : s41 309 58 = s 309 58 := (g45 58 (by decide)).trans t30
    have t51 : s41 316 0 = s 316 0 := (g44 316 0 (by decide)).trans t31
    have t52 : s41 329 0 = s 329 0 := (g44 329 0 (by decide)).trans t32
    have t53 : s41 329 1 = s 329 1 := (g44 329 1 (by decide)).trans t33
    have u54 := CI_b c42 (k := 309) (j := 43) bd_309_43
    have r55 := y_TA.fr r34 (fun a b h => g44 a b (by omega)) (fun a b h => g44 a b (by omega)) (fun a b h => g44 a b (by omega))
    have r56 := y_DD.fr r35 (g44 329 0 (by decide)) (g44 329 1 (by decide)) (fun b => g44 359 b (by decide)) (fun b => g44 374 b (by decide))
    have r57 := y_B.fr r36 (g45 20 (by decide)) (g44 316 0 (by decide)) (fun b => g44 3220 b (by decide)) (fun b => g44 3221 b (by decide)) (fun b => g44 3222 b (by decide)) (fun b => g44 361 b (by decide))
    have r58 := y_K.fr r37 (by omega) (by omega) (g45 44 (by decide)) (g45 20 (by decide)) (g45 58 (by decide)) (fun b => g44 3438 b (by decide)) (fun b => g44 3220 b (by decide)) (fun a b h => g44 a b (by omega))
    have r59 := y_KM.fr r38 (g45 20 (by decide)) (g45 36 (by decide)) (g45 38 (by decide)) (g45 39 (by decide)) (fun b => g44 312 b (by decide)) (fun b => g44 331 b (by decide)) (fun b => g44 346 b (by decide)) (fun b => g44 361 b (by decide)) (fun b => g44 391 b (by decide)) (fun a b h => g44 a b (by omega)) (fun a b h => g44 a b (by omega)) (fun a b h => g44 a b (by omega))
    have r60 := y_YM.fr r39 (by omega) (g45 44 (by decide)) (g45 20 (by decide)) (g45 58 (by decide)) (fun b => g44 312 b (by decide)) (fun b => g44 331 b (by decide)) (fun b => g44 346 b (by decide)) (fun b => g44 361 b (by decide)) (fun b => g44 391 b (by decide)) (fun a b h => g44 a b (by omega)) (fun a b h => g44 a b (by omega)) (fun b => g44 3438 b (by decide)) (fun a b h => g44 a b (by omega)) (fun a b h => g44 a b (by omega))
    clear t26
    clear t27
    clear t29
    clear t30
    clear t31
    clear t32
    clear t33
    refine sl_X12_least_309Y_L40 hfu r0 a1 (by omega) (fun s61 c62 f63 g64 g65 g66 g67 g68 g69 => ?_) fu s41 12 c42 f43 (by omega) (by omega) r55 (by first | exact r56 | exact y_DD.z (by omega) (by omega)) r57 (by first | exact r58 | exact y_K.b0 (by omega) | exact y_K.k0 (by omega) | exact y_K.bk (by omega)) (by first | exact r59 | exact y_KM.z (by omega)) (by first | exact r60 | exact y_YM.b0 (by omega) | exact y_YM.k0 (by omega) | exact y_YM.bk (by omega)) (by omega)
    have u70 := CI_b c62 (k := 309) (j := 20) bd_309_20
    have u71 := CI_b c62 (k := 309) (j := 36) bd_309_36
    have u72 := CI_b c62 (k := 309) (j := 43) bd_309_43
    have u73 := CI_b c62 (k := 309) (j := 44) bd_309_44
    have u74 := CI_b c62 (k := 309) (j := 58) bd_309_58
    have u75 := CI_b c62 (k := 316) (j := 0) bd_316_0
    have u76 := CI_b c62 (k := 329) (j := 0) bd_329_0
    have u77 := CI_b c62 (k := 329) (j := 1) bd_329_1
    have t78 : s61 309 20 = r0 309 20 := f63 309 20 (by decide)
    have t79 : s61 309 44 = r0 309 44 := f63 309 44 (by decide)
    have t80 : s61 309 58 = r0 309 58 := f63 309 58 (by decide)
    have t81 : s61 316 0 = r0 316 0 := f63 316 0 (by decide)
    have t82 : s61 329 0 = r0 329 0 := f63 329 0 (by decide)
    have t83 : s61 329 1 = r0 329 1 := f63 329 1 (by decide)
    exact T_ret ⟨c62, f63, g64, (by first | exact g65 | exact y_DD.z (by omega) (by omega)), g66, (by first | exact g67 | exact y_K.b0 (by omega) | exact y_K.k0 (by omega) | exact y_K.bk (by omega)), (by first | exact g68 | exact y_KM.z (by omega)), (by first | exact g69 | exact y_YM.b0 (by omega) | exact y_YM.k0 (by omega) | exact y_YM.bk (by omega)), ⟨(-1), rfl, by omega, by omega⟩⟩
  · exact T_ret ⟨c16, f18, r34, (by first | exact r35 | exact y_DD.z (by omega) (by omega)), r36, (by first | exact r37 | exact y_K.b0 (by omega) | exact y_K.k0 (by omega) | exact y_K.bk (by omega)), (by first | exact r38 | exact y_KM.z (by omega)), (by first | exact r39 | exact y_YM.b0 (by omega) | exact y_YM.k0 (by omega) | exact y_YM.bk (by omega)), ⟨0, rfl, by omega, by omega⟩⟩
theorem sf_X12_least_309Y {fu : Nat} (hfu : 8589934592 ≤ fu) (r0 : z_M) (c0 : z_CI r0) (a1 : Int) (b1 : -2147483648 ≤ a1 ∧ a1 ≤ 2147483647) (p0 : y_TA r0) (p1 : y_DD r0) (p2 : y_B r0) (p3 : y_K r0) (p4 : y_KM r0) (p5 : y_YM r0) : z_T (fX12_least fu r0 309 a1) (P_X12_least_309Y r0) := by
  refine T_of (fX12_least.eq_1 ..) ?_
  have u1 := CI_b c0 (k := 309) (j := 20) bd_309_20
  have u2 := CI_b c0 (k := 309) (j := 36) bd_309_36
  have u3 := CI_b c0 (k := 309) (j := 43) bd_309_43
  have u4 := CI_b c0 (k := 309) (j := 44) bd_309_44
  have u5 := CI_b c0 (k := 309) (j := 58) bd_309_58
  have u6 := CI_b c0 (k := 316) (j := 0) bd_316_0
  have u7 := CI_b c0 (k := 329) (j := 0) bd_329_0
  have u8 := CI_b c0 (k := 329) (j := 1) bd_329_1
  refine T_if1 (by decide +kernel) ?_
  refine T_upg c0 bd_309_0 (by omega) (fun s9 c10 g12 g13 e14 => ?_)
  have f11 := z_Fr.upf (R := R_X12_least_309) z_Fr.rf g12 g13 (Or.inr (Or.inr (⟨rfl, by decide⟩)))
  have t15 : s9 309 20 = r0 309 20 := g13 20 (by decide)
  have t16 : s9 309 36 = r0 309 36 := g13 36 (by decide)
  have t17 : s9 309 43 = r0 309 43 := g13 43 (by decide)
  have t18 : s9 309 44 = r0 309 44 := g13 44 (by decide)
  have t19 : s9 309 58 = r0 309 58 := g13 58 (by decide)
  have t20 : s9 316 0 = r0 316 0 := g12 316 0 (by decide)
  have t21 : s9 329 0 = r0 329 0 := g12 329 0 (by decide)
  have t22 : s9 329 1 = r0 329 1 := g12 329 1 (by decide)
  have r23 := y_TA.fr p0 (fun a b h => g12 a b (by omega)) (fun a b h => g12 a b (by omega)) (fun a b h => g12 a b (by omega))
  have r24 := y_DD.fr p1 (g12 329 0 (by decide)) (g12 329 1 (by decide)) (fun b => g12 359 b (by decide)) (fun b => g12 374 b (by decide))
  have r25 := y_B.fr p2 (g13 20 (by decide)) (g12 316 0 (by decide)) (fun b => g12 3220 b (by decide)) (fun b => g12 3221 b (by decide)) (fun b => g12 3222 b (by decide)) (fun b => g12 361 b (by decide))
  have r26 := y_K.fr p3 (by omega) (by omega) (g13 44 (by decide)) (g13 20 (by decide)) (g13 58 (by decide)) (fun b => g12 3438 b (by decide)) (fun b => g12 3220 b (by decide)) (fun a b h => g12 a b (by omega))
  have r27 := y_KM.fr p4 (g13 20 (by decide)) (g13 36 (by decide)) (g13 38 (by decide)) (g13 39 (by decide)) (fun b => g12 312 b (by decide)) (fun b => g12 331 b (by decide)) (fun b => g12 346 b (by decide)) (fun b => g12 361 b (by decide)) (fun b => g12 391 b (by decide)) (fun a b h => g12 a b (by omega)) (fun a b h => g12 a b (by omega)) (fun a b h => g12 a b (by omega))
  have r28 := y_YM.fr p5 (by omega) (g13 44 (by decide)) (g13 20 (by decide)) (g13 58 (by decide)) (fun b => g12 312 b (by decide)) (fun b => g12 331 b (by decide)) (fun b => g12 346 b (by decide)) (fun b => g12 361 b (by decide)) (fun b => g12 391 b (by decide)) (fun a b h => g12 a b (by omega)) (fun a b h => g12 a b (by omega)) (fun b => g12 3438 b (by decide)) (fun a b h => g12 a b (by omega)) (fun a b h => g12 a b (by omega))
  refine T_useI (sf_X12_in hfu s9 c10 a1 1 200 (by omega) (by omega) (by omega)) (fun v34 s29 hq => ?_)
  obtain ⟨c30, f31, ⟨x33, rfl, b35, b36, o37⟩⟩ := hq
  refine T_vI ?_
  have q38 := z_Fr.eq (fun a b h => h) f31
  subst q38
  refine T_ite (fun h39 => ?_) (fun h39 => ?_)
  · exact sj_X12_least_309Y_J22 hfu r0 s9 c10 f11 a1 0 (by omega) (by omega) r23 (by first | exact r24 | exact y_DD.z (by omega) (by omega)) r25 (by first | exact r26 | exact y_K.b0 (by omega) | exact y_K.k0 (by omega) | exact y_K.bk (by omega)) (by first | exact r27 | exact y_KM.z (by omega)) (by first | exact r28 | exact y_YM.b0 (by omega) | exact y_YM.k0 (by omega) | exact y_YM.bk (by omega))
  · exact sj_X12_least_309Y_J22 hfu r0 s9 c10 f11 a1 1 (by omega) (by omega) r23 (by first | exact r24 | exact y_DD.z (by omega) (by omega)) r25 (by first | exact r26 | exact y_K.b0 (by omega) | exact y_K.k0 (by omega) | exact y_K.bk (by omega)) (by first | exact r27 | exact y_KM.z (by omega)) (by first | exact r28 | exact y_YM.b0 (by omega) | exact y_YM.k0 (by omega) | exact y_YM.bk (by omega))
abbrev P_X12_better_309Y (r0 : z_M) : z_V → z_M → Prop := fun v s' => z_CI s' ∧ z_Fr R_X12_better_309 r0 s' ∧ (y_TA s') ∧ (y_DD s') ∧ (y_B s') ∧ (y_K s') ∧ (y_KM s') ∧ (y_YM s') ∧ (∃ x, v = vL x ∧ -9223372036854775808 ≤ x ∧ x ≤ 9223372036854775807)
theorem nz_X12_costsBy_309__3441_3450 (a b : Int) (h : 3441 ≤ a ∧ a ≤ 3450) : ¬ R_X12_costsBy_309 a b := by
  unfold R_X12_costsBy_309; omega
theorem nz_X12_costsBy_309__3452_3651 (a b : Int) (h : 3452 ≤ a ∧ a ≤ 3651) : ¬ R_X12_costsBy_309 a b := by
  unfold R_X12_costsBy_309; omega
