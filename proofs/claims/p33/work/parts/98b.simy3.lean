/-! READING, 6: the reference's readers (by program, wip/tool/mksim.py) -/
theorem sf_X12_better_309Y {fu : Nat} (hfu : 8589934592 ≤ fu) (r0 : z_M) (c0 : z_CI r0) (p0 : y_TA r0) (p1 : y_DD r0) (p2 : y_B r0) (p3 : y_K r0) (p4 : y_KM r0) (p5 : y_YM r0) : z_T (fX12_better fu r0 309) (P_X12_better_309Y r0) := by
  refine T_of (fX12_better.eq_1 ..) ?_
  have u1 := CI_b c0 (k := 309) (j := 20) bd_309_20
  have u2 := CI_b c0 (k := 309) (j := 36) bd_309_36
  have u3 := CI_b c0 (k := 309) (j := 43) bd_309_43
  have u4 := CI_b c0 (k := 309) (j := 44) bd_309_44
  have u5 := CI_b c0 (k := 309) (j := 58) bd_309_58
  have u6 := CI_b c0 (k := 316) (j := 0) bd_316_0
  have u7 := CI_b c0 (k := 329) (j := 0) bd_329_0
  have u8 := CI_b c0 (k := 329) (j := 1) bd_329_1
  refine T_if1 (by decide +kernel) ?_
  refine T_upg c0 bd_309_0 (by omega) (fun s9 c10 g12 g13 e14 => ?_)
  have f11 := z_Fr.upf (R := R_X12_better_309) z_Fr.rf g12 g13 (Or.inr (⟨rfl, by decide⟩))
  have t15 : s9 309 20 = r0 309 20 := g13 20 (by decide)
  have t16 : s9 309 36 = r0 309 36 := g13 36 (by decide)
  have t17 : s9 309 43 = r0 309 43 := g13 43 (by decide)
  have t18 : s9 309 44 = r0 309 44 := g13 44 (by decide)
  have t19 : s9 309 58 = r0 309 58 := g13 58 (by decide)
  have t20 : s9 316 0 = r0 316 0 := g12 316 0 (by decide)
  have t21 : s9 329 0 = r0 329 0 := g12 329 0 (by decide)
  have t22 : s9 329 1 = r0 329 1 := g12 329 1 (by decide)
  have r23 := y_TA.fr p0 (fun a b h => g12 a b (by omega)) (fun a b h => g12 a b (by omega)) (fun a b h => g12 a b (by omega))
  have r24 := y_DD.fr p1 (g12 329 0 (by decide)) (g12 329 1 (by decide)) (fun b => g12 359 b (by decide)) (fun b => g12 374 b (by decide))
  have r25 := y_B.fr p2 (g13 20 (by decide)) (g12 316 0 (by decide)) (fun b => g12 3220 b (by decide)) (fun b => g12 3221 b (by decide)) (fun b => g12 3222 b (by decide)) (fun b => g12 361 b (by decide))
  have r26 := y_K.fr p3 (by omega) (by omega) (g13 44 (by decide)) (g13 20 (by decide)) (g13 58 (by decide)) (fun b => g12 3438 b (by decide)) (fun b => g12 3220 b (by decide)) (fun a b h => g12 a b (by omega))
  have r27 := y_KM.fr p4 (g13 20 (by decide)) (g13 36 (by decide)) (g13 38 (by decide)) (g13 39 (by decide)) (fun b => g12 312 b (by decide)) (fun b => g12 331 b (by decide)) (fun b => g12 346 b (by decide)) (fun b => g12 361 b (by decide)) (fun b => g12 391 b (by decide)) (fun a b h => g12 a b (by omega)) (fun a b h => g12 a b (by omega)) (fun a b h => g12 a b (by omega))
  have r28 := y_YM.fr p5 (by omega) (g13 44 (by decide)) (g13 20 (by decide)) (g13 58 (by decide)) (fun b => g12 312 b (by decide)) (fun b => g12 331 b (by decide)) (fun b => g12 346 b (by decide)) (fun b => g12 361 b (by decide)) (fun b => g12 391 b (by decide)) (fun a b h => g12 a b (by omega)) (fun a b h => g12 a b (by omega)) (fun b => g12 3438 b (by decide)) (fun a b h => g12 a b (by omega)) (fun a b h => g12 a b (by omega))
  refine T_if1 (by decide +kernel) ?_
  refine T_useL (sf_X12_costsBy_309K hfu s9 c10 0 (by omega) r25 (by first | exact r27 | exact y_KM.z (by omega))) (fun v34 s29 hq => ?_)
  obtain ⟨c30, f31, o35, o36, ⟨x33, rfl, b37, b38⟩⟩ := hq
  refine T_vL ?_
  have f32 := z_Fr.tr (R := R_X12_better_309) f11 f31 rs_X12_costsBy_309__X12_better_309
  have t39 : s29 309 20 = r0 309 20 := (f31 309 20 (by decide)).trans t15
  have t40 : s29 309 58 = r0 309 58 := (f31 309 58 (by decide)).trans t19
  have t41 : s29 316 0 = r0 316 0 := (f31 316 0 (by decide)).trans t20
  have t42 : s29 329 0 = r0 329 0 := (f31 329 0 (by decide)).trans t21
  have t43 : s29 329 1 = r0 329 1 := (f31 329 1 (by decide)).trans t22
  have u44 := CI_b c30 (k := 309) (j := 36) bd_309_36
  have u45 := CI_b c30 (k := 309) (j := 43) bd_309_43
  have u46 := CI_b c30 (k := 309) (j := 44) bd_309_44
  have r47 := y_TA.fr r23 (fun a b h => f31 a b (nz_X12_costsBy_309__316_328 a b h)) (fun a b h => f31 a b (nz_X12_costsBy_309__346_358 a b h)) (fun a b h => f31 a b (nz_X12_costsBy_309__361_373 a b h))
  have r48 := y_DD.fr r24 (f31 329 0 (by decide)) (f31 329 1 (by decide)) (fun b => f31 359 b (nr_X12_costsBy_309__359 b)) (fun b => f31 374 b (nr_X12_costsBy_309__374 b))
  have r49 := y_B.fr r25 (f31 309 20 (by decide)) (f31 316 0 (by decide)) (fun b => f31 3220 b (nr_X12_costsBy_309__3220 b)) (fun b => f31 3221 b (nr_X12_costsBy_309__3221 b)) (fun b => f31 3222 b (nr_X12_costsBy_309__3222 b)) (fun b => f31 361 b (nr_X12_costsBy_309__361 b))
  clear t15
  clear t19
  clear t20
  clear t21
  clear t22
  refine T_if1 (by decide +kernel) ?_
  refine T_useL (sf_X12_costsBy_309K hfu s29 c30 1 (by omega) r49 (by first | exact o36 | exact y_KM.z (by omega))) (fun v55 s50 hq => ?_)
  obtain ⟨c51, f52, o56, o57, ⟨x54, rfl, b58, b59⟩⟩ := hq
  refine T_vL ?_
  have f53 := z_Fr.tr (R := R_X12_better_309) f32 f52 rs_X12_costsBy_309__X12_better_309
  have t60 : s50 309 20 = r0 309 20 := (f52 309 20 (by decide)).trans t39
  have t61 : s50 309 58 = r0 309 58 := (f52 309 58 (by decide)).trans t40
  have t62 : s50 316 0 = r0 316 0 := (f52 316 0 (by decide)).trans t41
  have t63 : s50 329 0 = r0 329 0 := (f52 329 0 (by decide)).trans t42
  have t64 : s50 329 1 = r0 329 1 := (f52 329 1 (by decide)).trans t43
  have u65 := CI_b c51 (k := 309) (j := 36) bd_309_36
  have u66 := CI_b c51 (k := 309) (j := 43) bd_309_43
  have u67 := CI_b c51 (k := 309) (j := 44) bd_309_44
  have r68 := y_TA.fr r47 (fun a b h => f52 a b (nz_X12_costsBy_309__316_328 a b h)) (fun a b h => f52 a b (nz_X12_costsBy_309__346_358 a b h)) (fun a b h => f52 a b (nz_X12_costsBy_309__361_373 a b h))
  have r69 := y_DD.fr r48 (f52 329 0 (by decide)) (f52 329 1 (by decide)) (fun b => f52 359 b (nr_X12_costsBy_309__359 b)) (fun b => f52 374 b (nr_X12_costsBy_309__374 b))
  have r70 := y_B.fr r49 (f52 309 20 (by decide)) (f52 316 0 (by decide)) (fun b => f52 3220 b (nr_X12_costsBy_309__3220 b)) (fun b => f52 3221 b (nr_X12_costsBy_309__3221 b)) (fun b => f52 3222 b (nr_X12_costsBy_309__3222 b)) (fun b => f52 361 b (nr_X12_costsBy_309__361 b))
  clear t39
  clear t40
  clear t41
  clear t42
  clear t43
  refine T_leq (fun x71 e72 => ?_)
  have w73 := z_wlr e72
  exact T_ret ⟨c51, f53, r68, (by first | exact r69 | exact y_DD.z (by omega) (by omega)), r70, (by first | exact y_K.b0 (by omega) | exact y_K.k0 (by omega) | exact y_K.bk (by omega)), (by first | exact o57 | exact y_KM.z (by omega)), (by first | exact y_YM.b0 (by omega) | exact y_YM.k0 (by omega) | exact y_YM.bk (by omega)), ⟨x71, rfl, by omega, by omega⟩⟩
abbrev P_X12_turnsOver_309Y (r0 : z_M) : z_V → z_M → Prop := fun v s' => z_CI s' ∧ z_Fr R_X12_turnsOver_309 r0 s' ∧ (y_K s') ∧ (y_S5 r0 s') ∧ (y_KM s') ∧ (y_YM s') ∧ (v = vN)
theorem sf_X12_turnsOver_309Y {fu : Nat} (hfu : 8589934592 ≤ fu) (r0 : z_M) (c0 : z_CI r0) (p0 : y_B r0) (p1 : y_K r0) (p2 : y_KM r0) (p3 : y_YM r0) : z_T (fX12_turnsOver fu r0 309) (P_X12_turnsOver_309Y r0) := by
  refine T_of (fX12_turnsOver.eq_1 ..) ?_
  have u1 := CI_b c0 (k := 309) (j := 20) bd_309_20
  have u2 := CI_b c0 (k := 309) (j := 36) bd_309_36
  have u3 := CI_b c0 (k := 309) (j := 43) bd_309_43
  have u4 := CI_b c0 (k := 309) (j := 44) bd_309_44
  have u5 := CI_b c0 (k := 309) (j := 58) bd_309_58
  have u6 := CI_b c0 (k := 316) (j := 0) bd_316_0
  have r7 : y_SE r0 r0 := y_SE.z
  refine T_if1 (by decide +kernel) ?_
  refine T_let 312 (by decide +kernel) ?_
  refine T_if1 (by decide +kernel) ?_
  refine T_let 312 (by decide +kernel) ?_
  refine T_if1 (z_ixl (n := 9) (by decide +kernel) (by omega) (by omega)) ?_
  refine T_leq (fun x8 e9 => ?_)
  have u10 := CI_b c0 (k := 312) (j := 5) (bdr_312 5)
  refine T_leq (fun x11 e12 => ?_)
  first | (have w13 := z_wx e12 (by omega)) | (have w13 := z_wr e12)
  refine T_if1 (z_ixl (n := 9) (by decide +kernel) (by omega) (by omega)) ?_
  refine T_upg c0 (bdr_312 5) (by omega) (fun s14 c15 g17 g18 e19 => ?_)
  have f16 := z_Fr.up (R := R_X12_turnsOver_309) z_Fr.rf g17 (fun _ => (Or.inl (⟨by decide, by decide⟩)))
  have t20 : s14 309 20 = r0 309 20 := g17 309 20 (by decide)
  have t21 : s14 309 36 = r0 309 36 := g17 309 36 (by decide)
  have t22 : s14 309 43 = r0 309 43 := g17 309 43 (by decide)
  have t23 : s14 309 44 = r0 309 44 := g17 309 44 (by decide)
  have t24 : s14 309 58 = r0 309 58 := g17 309 58 (by decide)
  have t25 : s14 316 0 = r0 316 0 := g17 316 0 (by decide)
  have r26 := y_B.fr p0 (g17 309 20 (by decide)) (g17 316 0 (by decide)) (fun b => g17 3220 b (by decide)) (fun b => g17 3221 b (by decide)) (fun b => g17 3222 b (by decide)) (fun b => g17 361 b (by decide))
  have r27 := y_K.fr p1 (by omega) (by omega) (g17 309 44 (by decide)) (g17 309 20 (by decide)) (g17 309 58 (by decide)) (fun b => g17 3438 b (by decide)) (fun b => g17 3220 b (by decide)) (fun a b h => g17 a b (by omega))
  have r28 := y_S5.mk r7 e9 (by assumption) e19 g18
  refine T_if1 ⟨(by decide +kernel), by unfold z_bl; omega⟩ ?_
  refine T_upg c15 bd_309_36 (by omega) (fun s29 c30 g32 g33 e34 => ?_)
  have f31 := z_Fr.upf (R := R_X12_turnsOver_309) f16 g32 g33 (Or.inr (Or.inr (⟨rfl, by decide⟩)))
  have t35 : s29 309 20 = r0 309 20 := (g33 20 (by decide)).trans t20
  have t36 : s29 309 43 = r0 309 43 := (g33 43 (by decide)).trans t22
  have t37 : s29 309 44 = r0 309 44 := (g33 44 (by decide)).trans t23
  have t38 : s29 309 58 = r0 309 58 := (g33 58 (by decide)).trans t24
  have t39 : s29 316 0 = r0 316 0 := (g32 316 0 (by decide)).trans t25
  have u40 := CI_b c30 (k := 309) (j := 36) bd_309_36
  have r41 := y_B.fr r26 (g33 20 (by decide)) (g32 316 0 (by decide)) (fun b => g32 3220 b (by decide)) (fun b => g32 3221 b (by decide)) (fun b => g32 3222 b (by decide)) (fun b => g32 361 b (by decide))
  have r42 := y_K.fr r27 (by omega) (by omega) (g33 44 (by decide)) (g33 20 (by decide)) (g33 58 (by decide)) (fun b => g32 3438 b (by decide)) (fun b => g32 3220 b (by decide)) (fun a b h => g32 a b (by omega))
  have r43 := y_S5.fr r28 (fun b => g32 312 b (by decide))
  clear t20
  clear t22
  clear t23
  clear t24
  clear t25
  refine T_if1 (by decide +kernel) ?_
  refine T_useN (sf_X12_laysAll_309Y hfu s29 c30 r41 (by first | exact r42 | exact y_K.b0 (by omega) | exact y_K.k0 (by omega) | exact y_K.bk (by omega)) (by first | exact y_KM.z (by omega)) (by first | exact y_YM.b0 (by omega) | exact y_YM.k0 (by omega) | exact y_YM.bk (by omega))) (fun v49 s44 hq => ?_)
  obtain ⟨c45, f46, o50, o51, o52, o53, o54, o55, o56, o57, rfl⟩ := hq
  refine T_vN ?_
  have f47 := z_Fr.tr (R := R_X12_turnsOver_309) f31 f46 rs_X12_laysAll_309__X12_turnsOver_309
  have t60 : s44 309 20 = r0 309 20 := (f46 309 20 (by decide)).trans t35
  have t61 : s44 316 0 = r0 316 0 := (f46 316 0 (by decide)).trans t39
  have u62 := CI_b c45 (k := 309) (j := 36) bd_309_36
  have u63 := CI_b c45 (k := 309) (j := 43) bd_309_43
  have u64 := CI_b c45 (k := 309) (j := 44) bd_309_44
  have u65 := CI_b c45 (k := 309) (j := 58) bd_309_58
  have r66 := y_B.fr r41 (f46 309 20 (by decide)) (f46 316 0 (by decide)) (fun b => f46 3220 b (nr_X12_laysAll_309__3220 b)) (fun b => f46 3221 b (nr_X12_laysAll_309__3221 b)) (fun b => f46 3222 b (nr_X12_laysAll_309__3222 b)) (fun b => f46 361 b (nr_X12_laysAll_309__361 b))
  have r67 := y_S5.fr r43 (fun b => f46 312 b (nr_X12_laysAll_309__312 b))
  clear t35
  clear t39
  exact T_ret ⟨c45, f47, (by first | exact o50 | exact y_K.b0 (by omega) | exact y_K.k0 (by omega) | exact y_K.bk (by omega) | exact y_K.mk o51 (by omega) o52), r67, (by first | exact o56 | exact y_KM.z (by omega)), (by first | exact o57 | exact y_YM.b0 (by omega) | exact y_YM.k0 (by omega) | exact y_YM.bk (by omega)), rfl⟩
abbrev P_X12_moves_309Y (r0 : z_M) : z_V → z_M → Prop := fun v s' => z_CI s' ∧ z_Fr R_X12_moves_309 r0 s' ∧ (y_SE r0 s') ∧ (y_TA s') ∧ (y_DD s') ∧ (y_B s') ∧ (y_K s') ∧ (y_KM s') ∧ (y_YM s') ∧ (∃ x, v = vI x ∧ -2147483648 ≤ x ∧ x ≤ 2147483647)
theorem sl_X12_moves_309Y_L11 {fu : Nat} (hfu : 8589934592 ≤ fu) (r0 : z_M) {k : z_M → z_O} (hk : ∀ (s' : z_M), z_CI s' → z_Fr R_X12_moves_309 r0 s' → (y_SE r0 s') → (y_TA s') → (y_DD s') → (y_B s') → (y_K s') → (y_KM s') → (y_YM s') → z_T (k s') (P_X12_moves_309Y r0)) : ∀ (F : Nat) (s : z_M) (a1 : Int), z_CI s → z_Fr R_X12_moves_309 r0 s → (0 ≤ a1 ∧ a1 ≤ 200) → (y_SE r0 s) → (y_TA s) → (y_DD s) → (y_B s) → (y_K s) → (y_KM s) → (y_YM s) → (2147483647 - a1 < (F : Int)) → z_T (fX12_moves_L11 fu 309 F s a1 k) (P_X12_moves_309Y r0) := by
  intro F
  induction F with
  | zero =>
    intro s a1 c f b1 i0 i1 i2 i3 i4 i5 i6 hm
    have u44 := CI_b c (k := 309) (j := 20) bd_309_20
    have u45 := CI_b c (k := 309) (j := 36) bd_309_36
    have u46 := CI_b c (k := 309) (j := 43) bd_309_43
    have u47 := CI_b c (k := 309) (j := 44) bd_309_44
    have u48 := CI_b c (k := 309) (j := 58) bd_309_58
    have u49 := CI_b c (k := 316) (j := 0) bd_316_0
    have u50 := CI_b c (k := 329) (j := 0) bd_329_0
    have u51 := CI_b c (k := 329) (j := 1) bd_329_1
    exfalso; omega
  | succ F ih =>
    intro s a1 c f b1 i0 i1 i2 i3 i4 i5 i6 hm
    refine T_of (fX12_moves_L11.eq_2 ..) ?_
    have u1 := CI_b c (k := 309) (j := 20) bd_309_20
    have u2 := CI_b c (k := 309) (j := 36) bd_309_36
    have u3 := CI_b c (k := 309) (j := 43) bd_309_43
    have u4 := CI_b c (k := 309) (j := 44) bd_309_44
    have u5 := CI_b c (k := 309) (j := 58) bd_309_58
    have u6 := CI_b c (k := 316) (j := 0) bd_316_0
    have u7 := CI_b c (k := 329) (j := 0) bd_329_0
    have u8 := CI_b c (k := 329) (j := 1) bd_329_1
    have t9 : s 309 20 = r0 309 20 := f 309 20 (by decide)
    have t10 : s 316 0 = r0 316 0 := f 316 0 (by decide)
    have t11 : s 329 0 = r0 329 0 := f 329 0 (by decide)
    have t12 : s 329 1 = r0 329 1 := f 329 1 (by decide)
    refine T_if1 (by decide +kernel) ?_
    refine T_leq (fun x13 e14 => ?_)
    have u15 := CI_b c (k := 309) (j := 20) bd_309_20
    refine T_ite (fun h16 => ?_) (fun h16 => ?_)
    · exact hk s c f i0 i1 (by first | exact i2 | exact y_DD.z (by omega) (by omega)) i3 (by first | exact i4 | exact y_K.b0 (by omega) | exact y_K.k0 (by omega) | exact y_K.bk (by omega)) (by first | exact i5 | exact y_KM.z (by omega)) (by first | exact i6 | exact y_YM.b0 (by omega) | exact y_YM.k0 (by omega) | exact y_YM.bk (by omega))
    · refine T_if1 (by decide +kernel) ?_
      refine T_let 7656 (by decide +kernel) ?_
      refine T_if1 (by decide +kernel) ?_
      refine T_let 3441 (by decide +kernel) ?_
      refine T_if1 (z_ixl (n := 200) (by decide +kernel) (by omega) (by omega)) ?_
      refine T_leq (fun x17 e18 => ?_)
      have u19 := CI_b c (k := 3441) (j := a1) (bdr_3441 a1)
      refine T_if1 (z_ixl (n := 200) (by decide +kernel) (by omega) (by omega)) ?_
      refine T_upg c (bdr_7656 a1) (by omega) (fun s20 c21 g23 g24 e25 => ?_)
      have f22 := z_Fr.up (R := R_X12_moves_309) f g23 (fun _ => (Or.inr (Or.inr (Or.inl (⟨by decide, by decide⟩)))))
      have t26 : s20 309 20 = x13 := (g23 309 20 (by decide)).trans e14
      have t27 : s20 309 36 = s 309 36 := g23 309 36 (by decide)
      have t28 : s20 309 43 = s 309 43 := g23 309 43 (by decide)
      have t29 : s20 309 44 = s 309 44 := g23 309 44 (by decide)
      have t30 : s20 309 58 = s 309 58 := g23 309 58 (by decide)
      have t31 : s20 316 0 = s 316 0 := g23 316 0 (by decide)
      have t32 : s20 329 0 = s 329 0 := g23 329 0 (by decide)
      have t33 : s20 329 1 = s 329 1 := g23 329 1 (by decide)
      have r34 := y_SE.fr i0 (fun b => g23 312 b (by decide))
      have r35 := y_TA.fr i1 (fun a b h => g23 a b (by omega)) (fun a b h => g23 a b (by omega)) (fun a b h => g23 a b (by omega))
      have r36 := y_DD.fr i2 (g23 329 0 (by decide)) (g23 329 1 (by decide)) (fun b => g23 359 b (by decide)) (fun b => g23 374 b (by decide))
      have r37 := y_B.fr i3 (g23 309 20 (by decide)) (g23 316 0 (by decide)) (fun b => g23 3220 b (by decide)) (fun b => g23 3221 b (by decide)) (fun b => g23 3222 b (by decide)) (fun b => g23 361 b (by decide))
      have r38 := y_K.fr i4 (by omega) (by omega) (g23 309 44 (by decide)) (g23 309 20 (by decide)) (g23 309 58 (by decide)) (fun b => g23 3438 b (by decide)) (fun b => g23 3220 b (by decide)) (fun a b h => g23 a b (by omega))
      have r39 := y_KM.fr i5 (g23 309 20 (by decide)) (g23 309 36 (by decide)) (g23 309 38 (by decide)) (g23 309 39 (by decide)) (fun b => g23 312 b (by decide)) (fun b => g23 331 b (by decide)) (fun b => g23 346 b (by decide)) (fun b => g23 361 b (by decide)) (fun b => g23 391 b (by decide)) (fun a b h => g23 a b (by omega)) (fun a b h => g23 a b (by omega)) (fun a b h => g23 a b (by omega))
      have r40 := y_YM.fr i6 (by omega) (g23 309 44 (by decide)) (g23 309 20 (by decide)) (g23 309 58 (by decide)) (fun b => g23 312 b (by decide)) (fun b => g23 331 b (by decide)) (fun b => g23 346 b (by decide)) (fun b => g23 361 b (by decide)) (fun b => g23 391 b (by decide)) (fun a b h => g23 a b (by omega)) (fun a b h => g23 a b (by omega)) (fun b => g23 3438 b (by decide)) (fun a b h => g23 a b (by omega)) (fun a b h => g23 a b (by omega))
      refine T_leq (fun x41 e42 => ?_)
      first | (have w43 := z_wx e42 (by omega)) | (have w43 := z_wr e42)
      exact ih s20 x41 c21 f22 (by omega) r34 r35 (by first | exact r36 | exact y_DD.z (by omega) (by omega)) r37 (by first | exact r38 | exact y_K.b0 (by omega) | exact y_K.k0 (by omega) | exact y_K.bk (by omega)) (by first | exact r39 | exact y_KM.z (by omega)) (by first | exact r40 | exact y_YM.b0 (by omega) | exact y_YM.k0 (by omega) | exact y_YM.bk (by omega)) (by omega)
theorem sj_X12_moves_309Y_J79 {fu : Nat} (hfu : 8589934592 ≤ fu) (r0 s : z_M) (c : z_CI s) (f : z_Fr R_X12_moves_309 r0 s) (a2 : Int) (t0 : Int) (t1 : Int) (b2 : 0 ≤ a2 ∧ a2 ≤ 199) (d0 : -2147483648 ≤ t0 ∧ t0 ≤ 2147483647) (d1 : -2147483648 ≤ t1 ∧ t1 ≤ 2147483647) (p0 : y_S5 r0 s) (p1 : y_TA s) (p2 : y_DD s) (p3 : y_B s) (p4 : y_K s) (p5 : y_KM s) (p6 : y_YM s) (M : Int) (pm : 2147483647 - a2 ≤ M) {r : z_M → Int → Int → z_O} {k : z_M → Int → z_O} (hr : ∀ (s' : z_M) (v1 : Int) (v2 : Int), z_CI s' → z_Fr R_X12_moves_309 r0 s' → (-2147483648 ≤ v1 ∧ v1 ≤ 2147483647) → (0 ≤ v2 ∧ v2 ≤ 200) → (y_S5 r0 s') → (y_TA s') → (y_DD s') → (y_B s') → (y_K s') → (y_KM s') → (y_YM s') → (2147483647 - v2 < M) → z_T (r s' v1 v2) (P_X12_moves_309Y r0)) (hk : ∀ (s' : z_M) (v1 : Int), z_CI s' → z_Fr R_X12_moves_309 r0 s' → (-2147483648 ≤ v1 ∧ v1 ≤ 2147483647) → (y_S5 r0 s') → (y_TA s') → (y_DD s') → (y_B s') → (y_K s') → (y_KM s') → (y_YM s') → z_T (k s' v1) (P_X12_moves_309Y r0)) : z_T (fX12_moves_J79 fu s 309 a2 t0 t1 r k) (P_X12_moves_309Y r0) := by
  refine T_of (fX12_moves_J79.eq_1 ..) ?_
  have u1 := CI_b c (k := 309) (j := 20) bd_309_20
  have u2 := CI_b c (k := 309) (j := 36) bd_309_36
  have u3 := CI_b c (k := 309) (j := 43) bd_309_43
  have u4 := CI_b c (k := 309) (j := 44) bd_309_44
  have u5 := CI_b c (k := 309) (j := 58) bd_309_58
  have u6 := CI_b c (k := 316) (j := 0) bd_316_0
  have u7 := CI_b c (k := 329) (j := 0) bd_329_0
  have u8 := CI_b c (k := 329) (j := 1) bd_329_1
  have t9 : s 309 20 = r0 309 20 := f 309 20 (by decide)
  have t10 : s 316 0 = r0 316 0 := f 316 0 (by decide)
  have t11 : s 329 0 = r0 329 0 := f 329 0 (by decide)
  have t12 : s 329 1 = r0 329 1 := f 329 1 (by decide)
  refine T_leq (fun x13 e14 => ?_)
  first | (have w15 := z_wx e14 (by omega)) | (have w15 := z_wr e14)
  refine T_leq (fun x16 e17 => ?_)
  first | (have w18 := z_wx e17 (by omega)) | (have w18 := z_wr e17)
  exact hr s x13 x16 c f (by omega) (by omega) p0 p1 (by first | exact p2 | exact y_DD.z (by omega) (by omega)) p3 (by first | exact p4 | exact y_K.b0 (by omega) | exact y_K.k0 (by omega) | exact y_K.bk (by omega)) (by first | exact p5 | exact y_KM.z (by omega)) (by first | exact p6 | exact y_YM.b0 (by omega) | exact y_YM.k0 (by omega) | exact y_YM.bk (by omega)) (by omega)
theorem sl_X12_moves_309Y_L45 {fu : Nat} (hfu : 8589934592 ≤ fu) (r0 : z_M) {k : z_M → Int → z_O} (hk : ∀ (s' : z_M) (v1 : Int), z_CI s' → z_Fr R_X12_moves_309 r0 s' → (-2147483648 ≤ v1 ∧ v1 ≤ 2147483647) → (y_S5 r0 s') → (y_TA s') → (y_DD s') → (y_B s') → (y_K s') → (y_KM s') → (y_YM s') → z_T (k s' v1) (P_X12_moves_309Y r0)) : ∀ (F : Nat) (s : z_M) (a1 : Int) (a2 : Int), z_CI s → z_Fr R_X12_moves_309 r0 s → (-2147483648 ≤ a1 ∧ a1 ≤ 2147483647) → (0 ≤ a2 ∧ a2 ≤ 200) → (y_S5 r0 s) → (y_TA s) → (y_DD s) → (y_B s) → (y_K s) → (y_KM s) → (y_YM s) → (2147483647 - a2 < (F : Int)) → z_T (fX12_moves_L45 fu 309 F s a1 a2 k) (P_X12_moves_309Y r0) := by
  intro F
  induction F with
  | zero =>
    intro s a1 a2 c f b1 b2 i0 i1 i2 i3 i4 i5 i6 hm
    have u27 := CI_b c (k := 309) (j := 20) bd_309_20
    have u28 := CI_b c (k := 309) (j := 36) bd_309_36
    have u29 := CI_b c (k := 309) (j := 43) bd_309_43
    have u30 := CI_b c (k := 309) (j := 44) bd_309_44
    have u31 := CI_b c (k := 309) (j := 58) bd_309_58
    have u32 := CI_b c (k := 316) (j := 0) bd_316_0
    have u33 := CI_b c (k := 329) (j := 0) bd_329_0
    have u34 := CI_b c (k := 329) (j := 1) bd_329_1
    exfalso; omega
  | succ F ih =>
    intro s a1 a2 c f b1 b2 i0 i1 i2 i3 i4 i5 i6 hm
    refine T_of (fX12_moves_L45.eq_2 ..) ?_
    have u1 := CI_b c (k := 309) (j := 20) bd_309_20
    have u2 := CI_b c (k := 309) (j := 36) bd_309_36
    have u3 := CI_b c (k := 309) (j := 43) bd_309_43
    have u4 := CI_b c (k := 309) (j := 44) bd_309_44
    have u5 := CI_b c (k := 309) (j := 58) bd_309_58
    have u6 := CI_b c (k := 316) (j := 0) bd_316_0
    have u7 := CI_b c (k := 329) (j := 0) bd_329_0
    have u8 := CI_b c (k := 329) (j := 1) bd_329_1
    have t9 : s 309 20 = r0 309 20 := f 309 20 (by decide)
    have t10 : s 316 0 = r0 316 0 := f 316 0 (by decide)
    have t11 : s 329 0 = r0 329 0 := f 329 0 (by decide)
    have t12 : s 329 1 = r0 329 1 := f 329 1 (by decide)
    refine T_if1 (by decide +kernel) ?_
    refine T_leq (fun x13 e14 => ?_)
    have u15 := CI_b c (k := 309) (j := 20) bd_309_20
    refine T_ite (fun h16 => ?_) (fun h16 => ?_)
    · exact hk s a1 c f (by omega) i0 i1 (by first | exact i2 | exact y_DD.z (by omega) (by omega)) i3 (by first | exact i4 | exact y_K.b0 (by omega) | exact y_K.k0 (by omega) | exact y_K.bk (by omega)) (by first | exact i5 | exact y_KM.z (by omega)) (by first | exact i6 | exact y_YM.b0 (by omega) | exact y_YM.k0 (by omega) | exact y_YM.bk (by omega))
    · refine T_if1 (by decide +kernel) ?_
      refine T_let 3441 (by decide +kernel) ?_
      refine T_if1 (z_ixl (n := 200) (by decide +kernel) (by omega) (by omega)) ?_
      refine T_leq (fun x17 e18 => ?_)
      have u19 := CI_b c (k := 3441) (j := a2) (bdr_3441 a2)
      refine T_if1 (by decide +kernel) ?_
      refine T_let 7656 (by decide +kernel) ?_
      refine T_if1 (z_ixl (n := 200) (by decide +kernel) (by omega) (by omega)) ?_
      refine T_leq (fun x20 e21 => ?_)
      have u22 := CI_b c (k := 7656) (j := a2) (bdr_7656 a2)
      refine T_ite (fun h23 => ?_) (fun h23 => ?_)
      · refine T_if1 (by decide +kernel) ?_
        refine T_let 3222 (by decide +kernel) ?_
        refine T_if1 (z_ixl (n := 200) (by decide +kernel) (by omega) (by omega)) ?_
        refine T_leq (fun x24 e25 => ?_)
        have u26 := CI_b c (k := 3222) (j := a2) (bdr_3222 a2)
        exact sj_X12_moves_309Y_J79 hfu r0 s c f a2 a1 x24 (by omega) (by omega) (by omega) i0 i1 (by first | exact i2 | exact y_DD.z (by omega) (by omega)) i3 (by first | exact i4 | exact y_K.b0 (by omega) | exact y_K.k0 (by omega) | exact y_K.bk (by omega)) (by first | exact i5 | exact y_KM.z (by omega)) (by first | exact i6 | exact y_YM.b0 (by omega) | exact y_YM.k0 (by omega) | exact y_YM.bk (by omega)) (2147483647 - a2) (by omega) (fun s' v1 v2 c' f' w1 w2 z0 z1 z2 z3 z4 z5 z6 pg => ih s' v1 v2 c' f' w1 w2 z0 z1 z2 z3 z4 z5 z6 (by omega)) hk
      · exact sj_X12_moves_309Y_J79 hfu r0 s c f a2 a1 0 (by omega) (by omega) (by omega) i0 i1 (by first | exact i2 | exact y_DD.z (by omega) (by omega)) i3 (by first | exact i4 | exact y_K.b0 (by omega) | exact y_K.k0 (by omega) | exact y_K.bk (by omega)) (by first | exact i5 | exact y_KM.z (by omega)) (by first | exact i6 | exact y_YM.b0 (by omega) | exact y_YM.k0 (by omega) | exact y_YM.bk (by omega)) (2147483647 - a2) (by omega) (fun s' v1 v2 c' f' w1 w2 z0 z1 z2 z3 z4 z5 z6 pg => ih s' v1 v2 c' f' w1 w2 z0 z1 z2 z3 z4 z5 z6 (by omega)) hk
set_option maxHeartbeats 4000000 in
theorem sf_X12_moves_309Y {fu : Nat} (hfu : 8589934592 ≤ fu) (r0 : z_M) (c0 : z_CI r0) (p0 : y_TA r0) (p1 : y_DD r0) (p2 : y_B r0) (p3 : y_K r0) (p4 : y_KM r0) (p5 : y_YM r0) : z_T (fX12_moves fu r0 309) (P_X12_moves_309Y r0) := by
  refine T_of (fX12_moves.eq_1 ..) ?_
  have u1 := CI_b c0 (k := 309) (j := 20) bd_309_20
  have u2 := CI_b c0 (k := 309) (j := 36) bd_309_36
  have u3 := CI_b c0 (k := 309) (j := 43) bd_309_43
  have u4 := CI_b c0 (k := 309) (j := 44) bd_309_44
  have u5 := CI_b c0 (k := 309) (j := 58) bd_309_58
  have u6 := CI_b c0 (k := 316) (j := 0) bd_316_0
  have u7 := CI_b c0 (k := 329) (j := 0) bd_329_0
  have u8 := CI_b c0 (k := 329) (j := 1) bd_329_1
  have r9 : y_SE r0 r0 := y_SE.z
  refine T_if1 (by decide +kernel) ?_
  refine T_upg c0 bd_309_0 (by omega) (fun s10 c11 g13 g14 e15 => ?_)
  have f12 := z_Fr.upf (R := R_X12_moves_309) z_Fr.rf g13 g14 (Or.inr (Or.inr (Or.inr (⟨rfl, by decide⟩))))
  have t16 : s10 309 20 = r0 309 20 := g14 20 (by decide)
  have t17 : s10 309 36 = r0 309 36 := g14 36 (by decide)
  have t18 : s10 309 43 = r0 309 43 := g14 43 (by decide)
  have t19 : s10 309 44 = r0 309 44 := g14 44 (by decide)
  have t20 : s10 309 58 = r0 309 58 := g14 58 (by decide)
  have t21 : s10 316 0 = r0 316 0 := g13 316 0 (by decide)
  have t22 : s10 329 0 = r0 329 0 := g13 329 0 (by decide)
  have t23 : s10 329 1 = r0 329 1 := g13 329 1 (by decide)
  have r24 := y_TA.fr p0 (fun a b h => g13 a b (by omega)) (fun a b h => g13 a b (by omega)) (fun a b h => g13 a b (by omega))
  have r25 := y_DD.fr p1 (g13 329 0 (by decide)) (g13 329 1 (by decide)) (fun b => g13 359 b (by decide)) (fun b => g13 374 b (by decide))
  have r26 := y_B.fr p2 (g14 20 (by decide)) (g13 316 0 (by decide)) (fun b => g13 3220 b (by decide)) (fun b => g13 3221 b (by decide)) (fun b => g13 3222 b (by decide)) (fun b => g13 361 b (by decide))
  have r27 := y_K.fr p3 (by omega) (by omega) (g14 44 (by decide)) (g14 20 (by decide)) (g14 58 (by decide)) (fun b => g13 3438 b (by decide)) (fun b => g13 3220 b (by decide)) (fun a b h => g13 a b (by omega))
  have r28 := y_KM.fr p4 (g14 20 (by decide)) (g14 36 (by decide)) (g14 38 (by decide)) (g14 39 (by decide)) (fun b => g13 312 b (by decide)) (fun b => g13 331 b (by decide)) (fun b => g13 346 b (by decide)) (fun b => g13 361 b (by decide)) (fun b => g13 391 b (by decide)) (fun a b h => g13 a b (by omega)) (fun a b h => g13 a b (by omega)) (fun a b h => g13 a b (by omega))
  have r29 := y_YM.fr p5 (by omega) (g14 44 (by decide)) (g14 20 (by decide)) (g14 58 (by decide)) (fun b => g13 312 b (by decide)) (fun b => g13 331 b (by decide)) (fun b => g13 346 b (by decide)) (fun b => g13 361 b (by decide)) (fun b => g13 391 b (by decide)) (fun a b h => g13 a b (by omega)) (fun a b h => g13 a b (by omega)) (fun b => g13 3438 b (by decide)) (fun a b h => g13 a b (by omega)) (fun a b h => g13 a b (by omega))
  have r30 := y_SE.fr r9 (fun b => g13 312 b (by decide))
  refine T_if1 (by decide +kernel) ?_
  refine T_useN (sf_X12_laysAll_309Y hfu s10 c11 r26 (by first | exact r27 | exact y_K.b0 (by omega) | exact y_K.k0 (by omega) | exact y_K.bk (by omega)) (by first | exact r28 | exact y_KM.z (by omega)) (by first | exact r29 | exact y_YM.b0 (by omega) | exact y_YM.k0 (by omega) | exact y_YM.bk (by omega))) (fun v36 s31 hq => ?_)
  obtain ⟨c32, f33, o37, o38, o39, o40, o41, o42, o43, o44, rfl⟩ := hq
  refine T_vN ?_
  have f34 := z_Fr.tr (R := R_X12_moves_309) f12 f33 rs_X12_laysAll_309__X12_moves_309
  have t47 : s31 309 20 = r0 309 20 := (f33 309 20 (by decide)).trans t16
  have t48 : s31 316 0 = r0 316 0 := (f33 316 0 (by decide)).trans t21
  have t49 : s31 329 0 = r0 329 0 := (f33 329 0 (by decide)).trans t22
  have t50 : s31 329 1 = r0 329 1 := (f33 329 1 (by decide)).trans t23
  have u51 := CI_b c32 (k := 309) (j := 36) bd_309_36
  have u52 := CI_b c32 (k := 309) (j := 43) bd_309_43
  have u53 := CI_b c32 (k := 309) (j := 44) bd_309_44
  have u54 := CI_b c32 (k := 309) (j := 58) bd_309_58
  have r55 := y_TA.fr r24 (fun a b h => f33 a b (nz_X12_laysAll_309__316_328 a b h)) (fun a b h => f33 a b (nz_X12_laysAll_309__346_358 a b h)) (fun a b h => f33 a b (nz_X12_laysAll_309__361_373 a b h))
  have r56 := y_DD.fr r25 (f33 329 0 (by decide)) (f33 329 1 (by decide)) (fun b => f33 359 b (nr_X12_laysAll_309__359 b)) (fun b => f33 374 b (nr_X12_laysAll_309__374 b))
  have r57 := y_B.fr r26 (f33 309 20 (by decide)) (f33 316 0 (by decide)) (fun b => f33 3220 b (nr_X12_laysAll_309__3220 b)) (fun b => f33 3221 b (nr_X12_laysAll_309__3221 b)) (fun b => f33 3222 b (nr_X12_laysAll_309__3222 b)) (fun b => f33 361 b (nr_X12_laysAll_309__361 b))
  have r58 := y_SE.fr r30 (fun b => f33 312 b (nr_X12_laysAll_309__312 b))
  clear t16
  clear t21
  clear t22
  clear t23
  refine sl_X12_moves_309Y_L11 hfu r0 (fun s59 c60 f61 g62 g63 g64 g65 g66 g67 g68 => ?_) fu s31 0 c32 f34 (by omega) r58 r55 (by first | exact r56 | exact y_DD.z (by omega) (by omega)) r57 (by first | exact o37 | exact y_K.b0 (by omega) | exact y_K.k0 (by omega) | exact y_K.bk (by omega) | exact y_K.mk o38 (by omega) o39) (by first | exact o43 | exact y_KM.z (by omega)) (by first | exact o44 | exact y_YM.b0 (by omega) | exact y_YM.k0 (by omega) | exact y_YM.bk (by omega)) (by omega)
  have u69 := CI_b c60 (k := 309) (j := 20) bd_309_20
  have u70 := CI_b c60 (k := 309) (j := 36) bd_309_36
  have u71 := CI_b c60 (k := 309) (j := 43) bd_309_43
  have u72 := CI_b c60 (k := 309) (j := 44) bd_309_44
  have u73 := CI_b c60 (k := 309) (j := 58) bd_309_58
  have u74 := CI_b c60 (k := 316) (j := 0) bd_316_0
  have u75 := CI_b c60 (k := 329) (j := 0) bd_329_0
  have u76 := CI_b c60 (k := 329) (j := 1) bd_329_1
  have t77 : s59 309 20 = r0 309 20 := f61 309 20 (by decide)
  have t78 : s59 316 0 = r0 316 0 := f61 316 0 (by decide)
  have t79 : s59 329 0 = r0 329 0 := f61 329 0 (by decide)
  have t80 : s59 329 1 = r0 329 1 := f61 329 1 (by decide)
  refine T_if1 (by decide +kernel) ?_
  refine T_useN (sf_X12_turnsOver_309Y hfu s59 c60 g65 (by first | exact g66 | exact y_K.b0 (by omega) | exact y_K.k0 (by omega) | exact y_K.bk (by omega)) (by first | exact g67 | exact y_KM.z (by omega)) (by first | exact g68 | exact y_YM.b0 (by omega) | exact y_YM.k0 (by omega) | exact y_YM.bk (by omega))) (fun v86 s81 hq => ?_)
  obtain ⟨c82, f83, o87, o88, o89, o90, rfl⟩ := hq
  refine T_vN ?_
  have f84 := z_Fr.tr (R := R_X12_moves_309) f61 f83 rs_X12_turnsOver_309__X12_moves_309
  have t93 : s81 309 20 = s59 309 20 := f83 309 20 (by decide)
  have t94 : s81 316 0 = s59 316 0 := f83 316 0 (by decide)
  have t95 : s81 329 0 = s59 329 0 := f83 329 0 (by decide)
  have t96 : s81 329 1 = s59 329 1 := f83 329 1 (by decide)
  have u97 := CI_b c82 (k := 309) (j := 36) bd_309_36
  have u98 := CI_b c82 (k := 309) (j := 43) bd_309_43
  have u99 := CI_b c82 (k := 309) (j := 44) bd_309_44
  have u100 := CI_b c82 (k := 309) (j := 58) bd_309_58
  have r101 := y_TA.fr g63 (fun a b h => f83 a b (nz_X12_turnsOver_309__316_328 a b h)) (fun a b h => f83 a b (nz_X12_turnsOver_309__346_358 a b h)) (fun a b h => f83 a b (nz_X12_turnsOver_309__361_373 a b h))
  have r102 := y_DD.fr g64 (f83 329 0 (by decide)) (f83 329 1 (by decide)) (fun b => f83 359 b (nr_X12_turnsOver_309__359 b)) (fun b => f83 374 b (nr_X12_turnsOver_309__374 b))
  have r103 := y_B.fr g65 (f83 309 20 (by decide)) (f83 316 0 (by decide)) (fun b => f83 3220 b (nr_X12_turnsOver_309__3220 b)) (fun b => f83 3221 b (nr_X12_turnsOver_309__3221 b)) (fun b => f83 3222 b (nr_X12_turnsOver_309__3222 b)) (fun b => f83 361 b (nr_X12_turnsOver_309__361 b))
  have r104 := y_S5.of o88 g62
  refine sl_X12_moves_309Y_L45 hfu r0 (fun s105 y108 c106 f107 b109 g110 g111 g112 g113 g114 g115 g116 => ?_) fu s81 0 0 c82 f84 (by omega) (by omega) (by first | exact r104 | exact o88) r101 (by first | exact r102 | exact y_DD.z (by omega) (by omega)) r103 (by first | exact o87 | exact y_K.b0 (by omega) | exact y_K.k0 (by omega) | exact y_K.bk (by omega)) (by first | exact o89 | exact y_KM.z (by omega)) (by first | exact o90 | exact y_YM.b0 (by omega) | exact y_YM.k0 (by omega) | exact y_YM.bk (by omega)) (by omega)
  have u117 := CI_b c106 (k := 309) (j := 20) bd_309_20
  have u118 := CI_b c106 (k := 309) (j := 36) bd_309_36
  have u119 := CI_b c106 (k := 309) (j := 43) bd_309_43
  have u120 := CI_b c106 (k := 309) (j := 44) bd_309_44
  have u121 := CI_b c106 (k := 309) (j := 58) bd_309_58
  have u122 := CI_b c106 (k := 316) (j := 0) bd_316_0
  have u123 := CI_b c106 (k := 329) (j := 0) bd_329_0
  have u124 := CI_b c106 (k := 329) (j := 1) bd_329_1
  have t125 : s105 309 20 = r0 309 20 := f107 309 20 (by decide)
  have t126 : s105 316 0 = r0 316 0 := f107 316 0 (by decide)
  have t127 : s105 329 0 = r0 329 0 := f107 329 0 (by decide)
  have t128 : s105 329 1 = r0 329 1 := f107 329 1 (by decide)
  refine T_if1 (by decide +kernel) ?_
  refine T_useN (sf_X12_turnsOver_309Y hfu s105 c106 g113 (by first | exact g114 | exact y_K.b0 (by omega) | exact y_K.k0 (by omega) | exact y_K.bk (by omega)) (by first | exact g115 | exact y_KM.z (by omega)) (by first | exact g116 | exact y_YM.b0 (by omega) | exact y_YM.k0 (by omega) | exact y_YM.bk (by omega))) (fun v134 s129 hq => ?_)
  obtain ⟨c130, f131, o135, o136, o137, o138, rfl⟩ := hq
  refine T_vN ?_
  have f132 := z_Fr.tr (R := R_X12_moves_309) f107 f131 rs_X12_turnsOver_309__X12_moves_309
  have t141 : s129 309 20 = s105 309 20 := f131 309 20 (by decide)
  have t142 : s129 316 0 = s105 316 0 := f131 316 0 (by decide)
  have t143 : s129 329 0 = s105 329 0 := f131 329 0 (by decide)
  have t144 : s129 329 1 = s105 329 1 := f131 329 1 (by decide)
  have u145 := CI_b c130 (k := 309) (j := 36) bd_309_36
  have u146 := CI_b c130 (k := 309) (j := 43) bd_309_43
  have u147 := CI_b c130 (k := 309) (j := 44) bd_309_44
  have u148 := CI_b c130 (k := 309) (j := 58) bd_309_58
  have r149 := y_TA.fr g111 (fun a b h => f131 a b (nz_X12_turnsOver_309__316_328 a b h)) (fun a b h => f131 a b (nz_X12_turnsOver_309__346_358 a b h)) (fun a b h => f131 a b (nz_X12_turnsOver_309__361_373 a b h))
  have r150 := y_DD.fr g112 (f131 329 0 (by decide)) (f131 329 1 (by decide)) (fun b => f131 359 b (nr_X12_turnsOver_309__359 b)) (fun b => f131 374 b (nr_X12_turnsOver_309__374 b))
  have r151 := y_B.fr g113 (f131 309 20 (by decide)) (f131 316 0 (by decide)) (fun b => f131 3220 b (nr_X12_turnsOver_309__3220 b)) (fun b => f131 3221 b (nr_X12_turnsOver_309__3221 b)) (fun b => f131 3222 b (nr_X12_turnsOver_309__3222 b)) (fun b => f131 361 b (nr_X12_turnsOver_309__361 b))
  have r152 := y_SE.two g110 o136 (CI_b c0 (k := 312) (j := 5) (bdr_312 5))
  exact T_ret ⟨c130, f132, r152, r149, (by first | exact r150 | exact y_DD.z (by omega) (by omega)), r151, (by first | exact o135 | exact y_K.b0 (by omega) | exact y_K.k0 (by omega) | exact y_K.bk (by omega)), (by first | exact o137 | exact y_KM.z (by omega)), (by first | exact o138 | exact y_YM.b0 (by omega) | exact y_YM.k0 (by omega) | exact y_YM.bk (by omega)), ⟨y108, rfl, by omega, by omega⟩⟩
abbrev P_X12_nearest_309Y (r0 : z_M) : z_V → z_M → Prop := fun v s' => z_CI s' ∧ z_Fr R_X12_nearest_309 r0 s' ∧ (y_TA s') ∧ (y_DD s') ∧ (y_B s') ∧ (y_K s') ∧ (y_KM s') ∧ (y_YM s') ∧ (∃ x, v = vI x ∧ -2147483648 ≤ x ∧ x ≤ 2147483647)
theorem sj_X12_nearest_309Y_J150 {fu : Nat} (hfu : 8589934592 ≤ fu) (r0 s : z_M) (c : z_CI s) (f : z_Fr R_X12_nearest_309 r0 s) (a1 : Int) (a2 : Int) (a3 : Int) (a4 : Int) (a5 : Int) (b1 : -2147483648 ≤ a1 ∧ a1 ≤ 2147483647) (b2 : -2147483648 ≤ a2 ∧ a2 ≤ 2147483647) (b3 : -2147483648 ≤ a3 ∧ a3 ≤ 2147483647) (b4 : 0 ≤ a4 ∧ a4 ≤ 199) (b5 : 0 ≤ a5 ∧ a5 ≤ 1) (p0 : y_BK s) (p1 : a4 < s 309 58) (p2 : y_TA s) (p3 : y_DD s) (p4 : y_B s) (p5 : y_K s) (p6 : y_KM s) (p7 : y_YM s) (M : Int) (pm : 2147483647 - a5 ≤ M) {r : z_M → Int → Int → Int → z_O} {k : z_M → Int → Int → z_O} (hr : ∀ (s' : z_M) (v2 : Int) (v3 : Int) (v5 : Int), z_CI s' → z_Fr R_X12_nearest_309 r0 s' → (-2147483648 ≤ v2 ∧ v2 ≤ 2147483647) → (-2147483648 ≤ v3 ∧ v3 ≤ 2147483647) → (0 ≤ v5 ∧ v5 ≤ 2) → (y_BK s') → (a4 < s' 309 58) → (y_TA s') → (y_DD s') → (y_B s') → (y_K s') → (y_KM s') → (y_YM s') → (2147483647 - v5 < M) → z_T (r s' v2 v3 v5) (P_X12_nearest_309Y r0)) (hk : ∀ (s' : z_M) (v2 : Int) (v3 : Int), z_CI s' → z_Fr R_X12_nearest_309 r0 s' → (-2147483648 ≤ v2 ∧ v2 ≤ 2147483647) → (-2147483648 ≤ v3 ∧ v3 ≤ 2147483647) → (y_BK s') → (y_TA s') → (y_DD s') → (y_B s') → (y_K s') → (y_KM s') → (y_YM s') → z_T (k s' v2 v3) (P_X12_nearest_309Y r0)) : z_T (fX12_nearest_J150 fu s 309 a1 a2 a3 a4 a5 r k) (P_X12_nearest_309Y r0) := by
  refine T_of (fX12_nearest_J150.eq_1 ..) ?_
  have u1 := CI_b c (k := 309) (j := 20) bd_309_20
  have u2 := CI_b c (k := 309) (j := 36) bd_309_36
  have u3 := CI_b c (k := 309) (j := 43) bd_309_43
  have u4 := CI_b c (k := 309) (j := 44) bd_309_44
  have u5 := CI_b c (k := 309) (j := 58) bd_309_58
  have u6 := CI_b c (k := 316) (j := 0) bd_316_0
  have u7 := CI_b c (k := 329) (j := 0) bd_329_0
  have u8 := CI_b c (k := 329) (j := 1) bd_329_1
  have t9 : s 309 20 = r0 309 20 := f 309 20 (by decide)
  have t10 : s 316 0 = r0 316 0 := f 316 0 (by decide)
  have t11 : s 329 0 = r0 329 0 := f 329 0 (by decide)
  have t12 : s 329 1 = r0 329 1 := f 329 1 (by decide)
  refine T_leq (fun x13 e14 => ?_)
  first | (have w15 := z_wx e14 (by omega)) | (have w15 := z_wr e14)
  exact hr s a2 a3 x13 c f (by omega) (by omega) (by omega) (by first | exact p0 | exact y_K.B p5 (by omega) (by omega)) (by omega) p2 (by first | exact p3 | exact y_DD.z (by omega) (by omega)) p4 (by first | exact p5 | exact y_K.b0 (by omega) | exact y_K.k0 (by omega) | exact y_K.bk (by omega)) (by first | exact p6 | exact y_KM.z (by omega)) (by first | exact p7 | exact y_YM.b0 (by omega) | exact y_YM.k0 (by omega) | exact y_YM.bk (by omega)) (by omega)
theorem sj_X12_nearest_309Y_J140 {fu : Nat} (hfu : 8589934592 ≤ fu) (r0 s : z_M) (c : z_CI s) (f : z_Fr R_X12_nearest_309 r0 s) (a1 : Int) (a4 : Int) (a5 : Int) (a8 : Int) (b1 : -2147483648 ≤ a1 ∧ a1 ≤ 2147483647) (b4 : 0 ≤ a4 ∧ a4 ≤ 199) (b5 : 0 ≤ a5 ∧ a5 ≤ 1) (b8 : -2147483648 ≤ a8 ∧ a8 ≤ 2147483647) (p0 : y_BK s) (p1 : a4 < s 309 58) (p2 : y_TA s) (p3 : y_DD s) (p4 : y_B s) (p5 : y_K s) (p6 : y_KM s) (p7 : y_YM s) (M : Int) (pm : 2147483647 - a5 ≤ M) {r : z_M → Int → Int → Int → z_O} {k : z_M → Int → Int → z_O} (hr : ∀ (s' : z_M) (v2 : Int) (v3 : Int) (v5 : Int), z_CI s' → z_Fr R_X12_nearest_309 r0 s' → (-2147483648 ≤ v2 ∧ v2 ≤ 2147483647) → (-2147483648 ≤ v3 ∧ v3 ≤ 2147483647) → (0 ≤ v5 ∧ v5 ≤ 2) → (y_BK s') → (a4 < s' 309 58) → (y_TA s') → (y_DD s') → (y_B s') → (y_K s') → (y_KM s') → (y_YM s') → (2147483647 - v5 < M) → z_T (r s' v2 v3 v5) (P_X12_nearest_309Y r0)) (hk : ∀ (s' : z_M) (v2 : Int) (v3 : Int), z_CI s' → z_Fr R_X12_nearest_309 r0 s' → (-2147483648 ≤ v2 ∧ v2 ≤ 2147483647) → (-2147483648 ≤ v3 ∧ v3 ≤ 2147483647) → (y_BK s') → (y_TA s') → (y_DD s') → (y_B s') → (y_K s') → (y_KM s') → (y_YM s') → z_T (k s' v2 v3) (P_X12_nearest_309Y r0)) : z_T (fX12_nearest_J140 fu s 309 a1 a4 a5 a8 r k) (P_X12_nearest_309Y r0) := by
  refine T_of (fX12_nearest_J140.eq_1 ..) ?_
  have u1 := CI_b c (k := 309) (j := 20) bd_309_20
  have u2 := CI_b c (k := 309) (j := 36) bd_309_36
  have u3 := CI_b c (k := 309) (j := 43) bd_309_43
  have u4 := CI_b c (k := 309) (j := 44) bd_309_44
  have u5 := CI_b c (k := 309) (j := 58) bd_309_58
  have u6 := CI_b c (k := 316) (j := 0) bd_316_0
  have u7 := CI_b c (k := 329) (j := 0) bd_329_0
  have u8 := CI_b c (k := 329) (j := 1) bd_329_1
  have t9 : s 309 20 = r0 309 20 := f 309 20 (by decide)
  have t10 : s 316 0 = r0 316 0 := f 316 0 (by decide)
  have t11 : s 329 0 = r0 329 0 := f 329 0 (by decide)
  have t12 : s 329 1 = r0 329 1 := f 329 1 (by decide)
  refine T_if1 (by decide +kernel) ?_
  refine T_useI (sf_X12_lineOfBlock_309 hfu s c a4 (by omega)) (fun v18 s13 hq => ?_)
  obtain ⟨c14, f15, ⟨x17, rfl, b19, b20⟩⟩ := hq
  refine T_vI ?_
  have q21 := z_Fr.eq (fun a b h => h) f15
  subst q21
  exact sj_X12_nearest_309Y_J150 hfu r0 s c f a1 x17 a8 a4 a5 (by omega) (by omega) (by omega) (by omega) (by omega) (by first | exact p0 | exact y_K.B p5 (by omega) (by omega)) (by omega) p2 (by first | exact p3 | exact y_DD.z (by omega) (by omega)) p4 (by first | exact p5 | exact y_K.b0 (by omega) | exact y_K.k0 (by omega) | exact y_K.bk (by omega)) (by first | exact p6 | exact y_KM.z (by omega)) (by first | exact p7 | exact y_YM.b0 (by omega) | exact y_YM.k0 (by omega) | exact y_YM.bk (by omega)) M (by omega) (fun s' v2 v3 v5 c' f' w2 w3 w5 z0 z1 z2 z3 z4 z5 z6 z7 pg => hr s' v2 v3 v5 c' f' w2 w3 w5 z0 z1 z2 z3 z4 z5 z6 z7 (by omega)) hk
theorem sj_X12_nearest_309Y_J88 {fu : Nat} (hfu : 8589934592 ≤ fu) (r0 s : z_M) (c : z_CI s) (f : z_Fr R_X12_nearest_309 r0 s) (a1 : Int) (a2 : Int) (a3 : Int) (a4 : Int) (a5 : Int) (a6 : Int) (t0 : Int) (b1 : -2147483648 ≤ a1 ∧ a1 ≤ 2147483647) (b2 : -2147483648 ≤ a2 ∧ a2 ≤ 2147483647) (b3 : -2147483648 ≤ a3 ∧ a3 ≤ 2147483647) (b4 : 0 ≤ a4 ∧ a4 ≤ 199) (b5 : 0 ≤ a5 ∧ a5 ≤ 1) (b6 : 0 ≤ a6 ∧ a6 ≤ 1800) (d0 : (-1) ≤ t0 ∧ t0 ≤ 199) (p0 : y_BK s) (p1 : a4 < s 309 58) (p2 : t0 = -1 ∨ (0 ≤ t0 ∧ t0 < s 309 58 ∧ 1 ≤ y_ls s t0 a5 ∧ 1 ≤ y_ls s a4 a5)) (p3 : y_TA s) (p4 : y_DD s) (p5 : y_B s) (p6 : y_K s) (p7 : y_KM s) (p8 : y_YM s) (M : Int) (pm : 2147483647 - a5 ≤ M) {r : z_M → Int → Int → Int → z_O} {k : z_M → Int → Int → z_O} (hr : ∀ (s' : z_M) (v2 : Int) (v3 : Int) (v5 : Int), z_CI s' → z_Fr R_X12_nearest_309 r0 s' → (-2147483648 ≤ v2 ∧ v2 ≤ 2147483647) → (-2147483648 ≤ v3 ∧ v3 ≤ 2147483647) → (0 ≤ v5 ∧ v5 ≤ 2) → (y_BK s') → (a4 < s' 309 58) → (y_TA s') → (y_DD s') → (y_B s') → (y_K s') → (y_KM s') → (y_YM s') → (2147483647 - v5 < M) → z_T (r s' v2 v3 v5) (P_X12_nearest_309Y r0)) (hk : ∀ (s' : z_M) (v2 : Int) (v3 : Int), z_CI s' → z_Fr R_X12_nearest_309 r0 s' → (-2147483648 ≤ v2 ∧ v2 ≤ 2147483647) → (-2147483648 ≤ v3 ∧ v3 ≤ 2147483647) → (y_BK s') → (y_TA s') → (y_DD s') → (y_B s') → (y_K s') → (y_KM s') → (y_YM s') → z_T (k s' v2 v3) (P_X12_nearest_309Y r0)) : z_T (fX12_nearest_J88 fu s 309 a1 a2 a3 a4 a5 a6 t0 r k) (P_X12_nearest_309Y r0) := by
  refine T_of (fX12_nearest_J88.eq_1 ..) ?_
  have u1 := CI_b c (k := 309) (j := 20) bd_309_20
  have u2 := CI_b c (k := 309) (j := 36) bd_309_36
  have u3 := CI_b c (k := 309) (j := 43) bd_309_43
  have u4 := CI_b c (k := 309) (j := 44) bd_309_44
  have u5 := CI_b c (k := 309) (j := 58) bd_309_58
  have u6 := CI_b c (k := 316) (j := 0) bd_316_0
  have u7 := CI_b c (k := 329) (j := 0) bd_329_0
  have u8 := CI_b c (k := 329) (j := 1) bd_329_1
  have t9 : s 309 20 = r0 309 20 := f 309 20 (by decide)
  have t10 : s 316 0 = r0 316 0 := f 316 0 (by decide)
  have t11 : s 329 0 = r0 329 0 := f 329 0 (by decide)
  have t12 : s 329 1 = r0 329 1 := f 329 1 (by decide)
  refine T_ite (fun h13 => ?_) (fun h13 => ?_)
  · refine T_if1 (by decide +kernel) ?_
    refine T_useI (sf_X12_letterPlace_309 hfu s c t0 a5 0 (by omega) (by omega) (by omega) p5 (by first | exact p0 | exact y_K.B p6 (by omega) (by omega)) (by omega) (by omega)) (fun v19 s14 hq => ?_)
    obtain ⟨c15, f16, ⟨x18, rfl, b20, b21⟩⟩ := hq
    refine T_vI ?_
    have q22 := z_Fr.eq (fun a b h => h) f16
    subst q22
    refine T_leq (fun x23 e24 => ?_)
    first | (have w25 := z_wx e24 (by omega)) | (have w25 := z_wr e24)
    refine T_if1 (by decide +kernel) ?_
    refine T_useI (sf_X12_letterPlace_309 hfu s c a4 a5 x23 (by omega) (by omega) (by omega) p5 (by first | exact p0 | exact y_K.B p6 (by omega) (by omega)) (by omega) (by omega)) (fun v31 s26 hq => ?_)
    obtain ⟨c27, f28, ⟨x30, rfl, b32, b33⟩⟩ := hq
    refine T_vI ?_
    have q34 := z_Fr.eq (fun a b h => h) f28
    subst q34
    refine T_leq (fun x35 e36 => ?_)
    first | (have w37 := z_wx e36 (by omega)) | (have w37 := z_wr e36)
    refine T_leq (fun x38 e39 => ?_)
    first | (have w40 := z_wx e39 (by omega)) | (have w40 := z_wr e39)
    refine T_ite (fun h41 => ?_) (fun h41 => ?_)
    · exact sj_X12_nearest_309Y_J140 hfu r0 s c f a1 a4 a5 x38 (by omega) (by omega) (by omega) (by omega) (by first | exact p0 | exact y_K.B p6 (by omega) (by omega)) (by omega) p3 (by first | exact p4 | exact y_DD.z (by omega) (by omega)) p5 (by first | exact p6 | exact y_K.b0 (by omega) | exact y_K.k0 (by omega) | exact y_K.bk (by omega)) (by first | exact p7 | exact y_KM.z (by omega)) (by first | exact p8 | exact y_YM.b0 (by omega) | exact y_YM.k0 (by omega) | exact y_YM.bk (by omega)) M (by omega) (fun s' v2 v3 v5 c' f' w2 w3 w5 z0 z1 z2 z3 z4 z5 z6 z7 pg => hr s' v2 v3 v5 c' f' w2 w3 w5 z0 z1 z2 z3 z4 z5 z6 z7 (by omega)) hk
    · refine T_ite (fun h42 => ?_) (fun h42 => ?_)
      · exact sj_X12_nearest_309Y_J140 hfu r0 s c f a1 a4 a5 x38 (by omega) (by omega) (by omega) (by omega) (by first | exact p0 | exact y_K.B p6 (by omega) (by omega)) (by omega) p3 (by first | exact p4 | exact y_DD.z (by omega) (by omega)) p5 (by first | exact p6 | exact y_K.b0 (by omega) | exact y_K.k0 (by omega) | exact y_K.bk (by omega)) (by first | exact p7 | exact y_KM.z (by omega)) (by first | exact p8 | exact y_YM.b0 (by omega) | exact y_YM.k0 (by omega) | exact y_YM.bk (by omega)) M (by omega) (fun s' v2 v3 v5 c' f' w2 w3 w5 z0 z1 z2 z3 z4 z5 z6 z7 pg => hr s' v2 v3 v5 c' f' w2 w3 w5 z0 z1 z2 z3 z4 z5 z6 z7 (by omega)) hk
      · exact sj_X12_nearest_309Y_J150 hfu r0 s c f a1 a2 a3 a4 a5 (by omega) (by omega) (by omega) (by omega) (by omega) (by first | exact p0 | exact y_K.B p6 (by omega) (by omega)) (by omega) p3 (by first | exact p4 | exact y_DD.z (by omega) (by omega)) p5 (by first | exact p6 | exact y_K.b0 (by omega) | exact y_K.k0 (by omega) | exact y_K.bk (by omega)) (by first | exact p7 | exact y_KM.z (by omega)) (by first | exact p8 | exact y_YM.b0 (by omega) | exact y_YM.k0 (by omega) | exact y_YM.bk (by omega)) M (by omega) (fun s' v2 v3 v5 c' f' w2 w3 w5 z0 z1 z2 z3 z4 z5 z6 z7 pg => hr s' v2 v3 v5 c' f' w2 w3 w5 z0 z1 z2 z3 z4 z5 z6 z7 (by omega)) hk
  · exact sj_X12_nearest_309Y_J150 hfu r0 s c f a1 a2 a3 a4 a5 (by omega) (by omega) (by omega) (by omega) (by omega) (by first | exact p0 | exact y_K.B p6 (by omega) (by omega)) (by omega) p3 (by first | exact p4 | exact y_DD.z (by omega) (by omega)) p5 (by first | exact p6 | exact y_K.b0 (by omega) | exact y_K.k0 (by omega) | exact y_K.bk (by omega)) (by first | exact p7 | exact y_KM.z (by omega)) (by first | exact p8 | exact y_YM.b0 (by omega) | exact y_YM.k0 (by omega) | exact y_YM.bk (by omega)) M (by omega) (fun s' v2 v3 v5 c' f' w2 w3 w5 z0 z1 z2 z3 z4 z5 z6 z7 pg => hr s' v2 v3 v5 c' f' w2 w3 w5 z0 z1 z2 z3 z4 z5 z6 z7 (by omega)) hk
theorem sl_X12_nearest_309Y_L55 {fu : Nat} (hfu : 8589934592 ≤ fu) (r0 : z_M) (a1 : Int) (a4 : Int) (b1 : -2147483648 ≤ a1 ∧ a1 ≤ 2147483647) (b4 : 0 ≤ a4 ∧ a4 ≤ 199) {k : z_M → Int → Int → z_O} (hk : ∀ (s' : z_M) (v2 : Int) (v3 : Int), z_CI s' → z_Fr R_X12_nearest_309 r0 s' → (-2147483648 ≤ v2 ∧ v2 ≤ 2147483647) → (-2147483648 ≤ v3 ∧ v3 ≤ 2147483647) → (y_BK s') → (y_TA s') → (y_DD s') → (y_B s') → (y_K s') → (y_KM s') → (y_YM s') → z_T (k s' v2 v3) (P_X12_nearest_309Y r0)) : ∀ (F : Nat) (s : z_M) (a2 : Int) (a3 : Int) (a5 : Int), z_CI s → z_Fr R_X12_nearest_309 r0 s → (-2147483648 ≤ a2 ∧ a2 ≤ 2147483647) → (-2147483648 ≤ a3 ∧ a3 ≤ 2147483647) → (0 ≤ a5 ∧ a5 ≤ 2) → (y_BK s) → (a4 < s 309 58) → (y_TA s) → (y_DD s) → (y_B s) → (y_K s) → (y_KM s) → (y_YM s) → (2147483647 - a5 < (F : Int)) → z_T (fX12_nearest_L55 fu 309 a1 a4 F s a2 a3 a5 k) (P_X12_nearest_309Y r0) := by
  intro F
  induction F with
  | zero =>
    intro s a2 a3 a5 c f b2 b3 b5 i0 i1 i2 i3 i4 i5 i6 i7 hm
    have u36 := CI_b c (k := 309) (j := 20) bd_309_20
    have u37 := CI_b c (k := 309) (j := 36) bd_309_36
    have u38 := CI_b c (k := 309) (j := 43) bd_309_43
    have u39 := CI_b c (k := 309) (j := 44) bd_309_44
    have u40 := CI_b c (k := 309) (j := 58) bd_309_58
    have u41 := CI_b c (k := 316) (j := 0) bd_316_0
    have u42 := CI_b c (k := 329) (j := 0) bd_329_0
    have u43 := CI_b c (k := 329) (j := 1) bd_329_1
    exfalso; omega
  | succ F ih =>
    intro s a2 a3 a5 c f b2 b3 b5 i0 i1 i2 i3 i4 i5 i6 i7 hm
    refine T_of (fX12_nearest_L55.eq_2 ..) ?_
    have u1 := CI_b c (k := 309) (j := 20) bd_309_20
    have u2 := CI_b c (k := 309) (j := 36) bd_309_36
    have u3 := CI_b c (k := 309) (j := 43) bd_309_43
    have u4 := CI_b c (k := 309) (j := 44) bd_309_44
    have u5 := CI_b c (k := 309) (j := 58) bd_309_58
    have u6 := CI_b c (k := 316) (j := 0) bd_316_0
    have u7 := CI_b c (k := 329) (j := 0) bd_329_0
    have u8 := CI_b c (k := 329) (j := 1) bd_329_1
    have t9 : s 309 20 = r0 309 20 := f 309 20 (by decide)
    have t10 : s 316 0 = r0 316 0 := f 316 0 (by decide)
    have t11 : s 329 0 = r0 329 0 := f 329 0 (by decide)
    have t12 : s 329 1 = r0 329 1 := f 329 1 (by decide)
    refine T_ite (fun h13 => ?_) (fun h13 => ?_)
    · exact hk s a2 a3 c f (by omega) (by omega) (by first | exact i0 | exact y_K.B i5 (by omega) (by omega)) i2 (by first | exact i3 | exact y_DD.z (by omega) (by omega)) i4 (by first | exact i5 | exact y_K.b0 (by omega) | exact y_K.k0 (by omega) | exact y_K.bk (by omega)) (by first | exact i6 | exact y_KM.z (by omega)) (by first | exact i7 | exact y_YM.b0 (by omega) | exact y_YM.k0 (by omega) | exact y_YM.bk (by omega))
    · refine T_if1 (by decide +kernel) ?_
      refine T_useI (sf_X12_lettersIn_309 hfu s c a4 a5 (by omega) (by omega) i4 (by first | exact i0 | exact y_K.B i5 (by omega) (by omega)) (by omega)) (fun v19 s14 hq => ?_)
      obtain ⟨c15, f16, ⟨x18, rfl, b20, b21, o22, o23⟩⟩ := hq
      refine T_vI ?_
      have q24 := z_Fr.eq (fun a b h => h) f16
      subst q24
      refine T_ite (fun h25 => ?_) (fun h25 => ?_)
      · refine T_if1 (by decide +kernel) ?_
        refine T_useI (sf_X12_nextBlock_309 hfu s c a4 a5 (by omega) (by omega) i4 (by first | exact i0 | exact y_K.B i5 (by omega) (by omega)) (by omega)) (fun v31 s26 hq => ?_)
        obtain ⟨c27, f28, ⟨x30, rfl, b32, b33, o34⟩⟩ := hq
        refine T_vI ?_
        have q35 := z_Fr.eq (fun a b h => h) f28
        subst q35
        exact sj_X12_nearest_309Y_J88 hfu r0 s c f a1 a2 a3 a4 a5 x18 x30 (by omega) (by omega) (by omega) (by omega) (by omega) (by omega) (by omega) (by first | exact i0 | exact y_K.B i5 (by omega) (by omega)) (by omega) (by omega) i2 (by first | exact i3 | exact y_DD.z (by omega) (by omega)) i4 (by first | exact i5 | exact y_K.b0 (by omega) | exact y_K.k0 (by omega) | exact y_K.bk (by omega)) (by first | exact i6 | exact y_KM.z (by omega)) (by first | exact i7 | exact y_YM.b0 (by omega) | exact y_YM.k0 (by omega) | exact y_YM.bk (by omega)) (2147483647 - a5) (by omega) (fun s' v2 v3 v5 c' f' w2 w3 w5 z0 z1 z2 z3 z4 z5 z6 z7 pg => ih s' v2 v3 v5 c' f' w2 w3 w5 z0 z1 z2 z3 z4 z5 z6 z7 (by omega)) hk
      · exact sj_X12_nearest_309Y_J88 hfu r0 s c f a1 a2 a3 a4 a5 x18 (-1) (by omega) (by omega) (by omega) (by omega) (by omega) (by omega) (by omega) (by first | exact i0 | exact y_K.B i5 (by omega) (by omega)) (by omega) (by omega) i2 (by first | exact i3 | exact y_DD.z (by omega) (by omega)) i4 (by first | exact i5 | exact y_K.b0 (by omega) | exact y_K.k0 (by omega) | exact y_K.bk (by omega)) (by first | exact i6 | exact y_KM.z (by omega)) (by first | exact i7 | exact y_YM.b0 (by omega) | exact y_YM.k0 (by omega) | exact y_YM.bk (by omega)) (2147483647 - a5) (by omega) (fun s' v2 v3 v5 c' f' w2 w3 w5 z0 z1 z2 z3 z4 z5 z6 z7 pg => ih s' v2 v3 v5 c' f' w2 w3 w5 z0 z1 z2 z3 z4 z5 z6 z7 (by omega)) hk
theorem sl_X12_nearest_309Y_L43 {fu : Nat} (hfu : 8589934592 ≤ fu) (r0 : z_M) (a1 : Int) (b1 : -2147483648 ≤ a1 ∧ a1 ≤ 2147483647) {k : z_M → Int → Int → z_O} (hk : ∀ (s' : z_M) (v2 : Int) (v3 : Int), z_CI s' → z_Fr R_X12_nearest_309 r0 s' → (-2147483648 ≤ v2 ∧ v2 ≤ 2147483647) → (-2147483648 ≤ v3 ∧ v3 ≤ 2147483647) → (y_TA s') → (y_DD s') → (y_B s') → (y_K s') → (y_KM s') → (y_YM s') → z_T (k s' v2 v3) (P_X12_nearest_309Y r0)) : ∀ (F : Nat) (s : z_M) (a2 : Int) (a3 : Int) (a4 : Int), z_CI s → z_Fr R_X12_nearest_309 r0 s → (-2147483648 ≤ a2 ∧ a2 ≤ 2147483647) → (-2147483648 ≤ a3 ∧ a3 ≤ 2147483647) → (0 ≤ a4 ∧ a4 ≤ 200) → (y_BK s) → (y_TA s) → (y_DD s) → (y_B s) → (y_K s) → (y_KM s) → (y_YM s) → (2147483647 - a4 < (F : Int)) → z_T (fX12_nearest_L43 fu 309 a1 F s a2 a3 a4 k) (P_X12_nearest_309Y r0) := by
  intro F
  induction F with
  | zero =>
    intro s a2 a3 a4 c f b2 b3 b4 i0 i1 i2 i3 i4 i5 i6 hm
    have u46 := CI_b c (k := 309) (j := 20) bd_309_20
    have u47 := CI_b c (k := 309) (j := 36) bd_309_36
    have u48 := CI_b c (k := 309) (j := 43) bd_309_43
    have u49 := CI_b c (k := 309) (j := 44) bd_309_44
    have u50 := CI_b c (k := 309) (j := 58) bd_309_58
    have u51 := CI_b c (k := 316) (j := 0) bd_316_0
    have u52 := CI_b c (k := 329) (j := 0) bd_329_0
    have u53 := CI_b c (k := 329) (j := 1) bd_329_1
    exfalso; omega
  | succ F ih =>
    intro s a2 a3 a4 c f b2 b3 b4 i0 i1 i2 i3 i4 i5 i6 hm
    refine T_of (fX12_nearest_L43.eq_2 ..) ?_
    have u1 := CI_b c (k := 309) (j := 20) bd_309_20
    have u2 := CI_b c (k := 309) (j := 36) bd_309_36
    have u3 := CI_b c (k := 309) (j := 43) bd_309_43
    have u4 := CI_b c (k := 309) (j := 44) bd_309_44
    have u5 := CI_b c (k := 309) (j := 58) bd_309_58
    have u6 := CI_b c (k := 316) (j := 0) bd_316_0
    have u7 := CI_b c (k := 329) (j := 0) bd_329_0
    have u8 := CI_b c (k := 329) (j := 1) bd_329_1
    have t9 : s 309 20 = r0 309 20 := f 309 20 (by decide)
    have t10 : s 316 0 = r0 316 0 := f 316 0 (by decide)
    have t11 : s 329 0 = r0 329 0 := f 329 0 (by decide)
    have t12 : s 329 1 = r0 329 1 := f 329 1 (by decide)
    refine T_if1 (by decide +kernel) ?_
    refine T_leq (fun x13 e14 => ?_)
    have u15 := CI_b c (k := 309) (j := 58) bd_309_58
    refine T_ite (fun h16 => ?_) (fun h16 => ?_)
    · exact hk s a2 a3 c f (by omega) (by omega) i1 (by first | exact i2 | exact y_DD.z (by omega) (by omega)) i3 (by first | exact i4 | exact y_K.b0 (by omega) | exact y_K.k0 (by omega) | exact y_K.bk (by omega)) (by first | exact i5 | exact y_KM.z (by omega)) (by first | exact i6 | exact y_YM.b0 (by omega) | exact y_YM.k0 (by omega) | exact y_YM.bk (by omega))
    · refine sl_X12_nearest_309Y_L55 hfu r0 a1 a4 (by omega) (by omega) (fun s17 y20 y21 c18 f19 b22 b23 g24 g25 g26 g27 g28 g29 g30 => ?_) fu s a2 a3 0 c f (by omega) (by omega) (by omega) (by first | exact i0 | exact y_K.B i4 (by omega) (by omega)) (by omega) i1 (by first | exact i2 | exact y_DD.z (by omega) (by omega)) i3 (by first | exact i4 | exact y_K.b0 (by omega) | exact y_K.k0 (by omega) | exact y_K.bk (by omega)) (by first | exact i5 | exact y_KM.z (by omega)) (by first | exact i6 | exact y_YM.b0 (by omega) | exact y_YM.k0 (by omega) | exact y_YM.bk (by omega)) (by omega)
      have u31 := CI_b c18 (k := 309) (j := 20) bd_309_20
      have u32 := CI_b c18 (k := 309) (j := 36) bd_309_36
      have u33 := CI_b c18 (k := 309) (j := 43) bd_309_43
      have u34 := CI_b c18 (k := 309) (j := 44) bd_309_44
      have u35 := CI_b c18 (k := 309) (j := 58) bd_309_58
      have u36 := CI_b c18 (k := 316) (j := 0) bd_316_0
      have u37 := CI_b c18 (k := 329) (j := 0) bd_329_0
      have u38 := CI_b c18 (k := 329) (j := 1) bd_329_1
      have t39 : s17 309 20 = r0 309 20 := f19 309 20 (by decide)
      have t40 : s17 316 0 = r0 316 0 := f19 316 0 (by decide)
      have t41 : s17 329 0 = r0 329 0 := f19 329 0 (by decide)
      have t42 : s17 329 1 = r0 329 1 := f19 329 1 (by decide)
      refine T_leq (fun x43 e44 => ?_)
      first | (have w45 := z_wx e44 (by omega)) | (have w45 := z_wr e44)
      exact ih s17 y20 y21 x43 c18 f19 (by omega) (by omega) (by omega) (by first | exact g24 | exact y_K.B g28 (by omega) (by omega)) g25 (by first | exact g26 | exact y_DD.z (by omega) (by omega)) g27 (by first | exact g28 | exact y_K.b0 (by omega) | exact y_K.k0 (by omega) | exact y_K.bk (by omega)) (by first | exact g29 | exact y_KM.z (by omega)) (by first | exact g30 | exact y_YM.b0 (by omega) | exact y_YM.k0 (by omega) | exact y_YM.bk (by omega)) (by omega)
theorem sj_X12_nearest_309Y_J171 {fu : Nat} (hfu : 8589934592 ≤ fu) (r0 s : z_M) (c : z_CI s) (f : z_Fr R_X12_nearest_309 r0 s) (t0 : Int) (d0 : -2147483648 ≤ t0 ∧ t0 ≤ 2147483647) (p0 : y_TA s) (p1 : y_DD s) (p2 : y_B s) (p3 : y_K s) (p4 : y_KM s) (p5 : y_YM s) : z_T (fX12_nearest_J171 fu s t0) (P_X12_nearest_309Y r0) := by
  refine T_of (fX12_nearest_J171.eq_1 ..) ?_
  have u1 := CI_b c (k := 309) (j := 20) bd_309_20
  have u2 := CI_b c (k := 309) (j := 36) bd_309_36
  have u3 := CI_b c (k := 309) (j := 43) bd_309_43
  have u4 := CI_b c (k := 309) (j := 44) bd_309_44
  have u5 := CI_b c (k := 309) (j := 58) bd_309_58
  have u6 := CI_b c (k := 316) (j := 0) bd_316_0
  have u7 := CI_b c (k := 329) (j := 0) bd_329_0
  have u8 := CI_b c (k := 329) (j := 1) bd_329_1
  have t9 : s 309 20 = r0 309 20 := f 309 20 (by decide)
  have t10 : s 316 0 = r0 316 0 := f 316 0 (by decide)
  have t11 : s 329 0 = r0 329 0 := f 329 0 (by decide)
  have t12 : s 329 1 = r0 329 1 := f 329 1 (by decide)
  exact T_ret ⟨c, f, p0, (by first | exact p1 | exact y_DD.z (by omega) (by omega)), p2, (by first | exact p3 | exact y_K.b0 (by omega) | exact y_K.k0 (by omega) | exact y_K.bk (by omega)), (by first | exact p4 | exact y_KM.z (by omega)), (by first | exact p5 | exact y_YM.b0 (by omega) | exact y_YM.k0 (by omega) | exact y_YM.bk (by omega)), ⟨t0, rfl, by omega, by omega⟩⟩
set_option maxHeartbeats 4000000 in
theorem sj_X12_nearest_309Y_J20 {fu : Nat} (hfu : 8589934592 ≤ fu) (r0 s : z_M) (c : z_CI s) (f : z_Fr R_X12_nearest_309 r0 s) (a1 : Int) (t1 : Int) (b1 : -2147483648 ≤ a1 ∧ a1 ≤ 2147483647) (d1 : 0 ≤ t1 ∧ t1 ≤ 1) (p0 : y_TA s) (p1 : y_DD s) (p2 : y_B s) (p3 : y_K s) (p4 : y_KM s) (p5 : y_YM s) : z_T (fX12_nearest_J20 fu s 309 a1 309 t1) (P_X12_nearest_309Y r0) := by
  refine T_of (fX12_nearest_J20.eq_1 ..) ?_
  have u1 := CI_b c (k := 309) (j := 20) bd_309_20
  have u2 := CI_b c (k := 309) (j := 36) bd_309_36
  have u3 := CI_b c (k := 309) (j := 43) bd_309_43
  have u4 := CI_b c (k := 309) (j := 44) bd_309_44
  have u5 := CI_b c (k := 309) (j := 58) bd_309_58
  have u6 := CI_b c (k := 316) (j := 0) bd_316_0
  have u7 := CI_b c (k := 329) (j := 0) bd_329_0
  have u8 := CI_b c (k := 329) (j := 1) bd_329_1
  have t9 : s 309 20 = r0 309 20 := f 309 20 (by decide)
  have t10 : s 316 0 = r0 316 0 := f 316 0 (by decide)
  have t11 : s 329 0 = r0 329 0 := f 329 0 (by decide)
  have t12 : s 329 1 = r0 329 1 := f 329 1 (by decide)
  refine T_if1 (by decide +kernel) ?_
  refine T_useI (sf_X12_bad_309 hfu s c t1 1 1 (by omega) (by omega) (by omega) (by omega)) (fun v18 s13 hq => ?_)
  obtain ⟨c14, f15, o19, ⟨x17, rfl, b20, b21, o22, o23⟩⟩ := hq
  refine T_vI ?_
  have f16 := z_Fr.tr (R := R_X12_nearest_309) f f15 rs_X12_bad_309__X12_nearest_309
  have t24 : s13 309 20 = s 309 20 := f15 309 20 (by decide)
  have t25 : s13 309 36 = s 309 36 := f15 309 36 (by decide)
  have t26 : s13 309 43 = s 309 43 := f15 309 43 (by decide)
  have t27 : s13 309 44 = s 309 44 := f15 309 44 (by decide)
  have t28 : s13 309 58 = s 309 58 := f15 309 58 (by decide)
  have t29 : s13 316 0 = s 316 0 := f15 316 0 (by decide)
  have t30 : s13 329 0 = s 329 0 := f15 329 0 (by decide)
  have t31 : s13 329 1 = s 329 1 := f15 329 1 (by decide)
  have r32 := y_TA.fr p0 (fun a b h => f15 a b (nz_X12_bad_309__316_328 a b h)) (fun a b h => f15 a b (nz_X12_bad_309__346_358 a b h)) (fun a b h => f15 a b (nz_X12_bad_309__361_373 a b h))
  have r33 := y_DD.fr p1 (f15 329 0 (by decide)) (f15 329 1 (by decide)) (fun b => f15 359 b (nr_X12_bad_309__359 b)) (fun b => f15 374 b (nr_X12_bad_309__374 b))
  have r34 := y_B.fr p2 (f15 309 20 (by decide)) (f15 316 0 (by decide)) (fun b => f15 3220 b (nr_X12_bad_309__3220 b)) (fun b => f15 3221 b (nr_X12_bad_309__3221 b)) (fun b => f15 3222 b (nr_X12_bad_309__3222 b)) (fun b => f15 361 b (nr_X12_bad_309__361 b))
  have r35 := y_K.fr p3 (by omega) (by omega) (f15 309 44 (by decide)) (f15 309 20 (by decide)) (f15 309 58 (by decide)) (fun b => f15 3438 b (nr_X12_bad_309__3438 b)) (fun b => f15 3220 b (nr_X12_bad_309__3220 b)) (fun a b h => f15 a b (nz_X12_bad_309__3452_3651 a b h))
  have r36 := y_KM.fr p4 (f15 309 20 (by decide)) (f15 309 36 (by decide)) (f15 309 38 (by decide)) (f15 309 39 (by decide)) (fun b => f15 312 b (nr_X12_bad_309__312 b)) (fun b => f15 331 b (nr_X12_bad_309__331 b)) (fun b => f15 346 b (nr_X12_bad_309__346 b)) (fun b => f15 361 b (nr_X12_bad_309__361 b)) (fun b => f15 391 b (nr_X12_bad_309__391 b)) (fun a b h => f15 a b (nz_X12_bad_309__407_606 a b h)) (fun a b h => f15 a b (nz_X12_bad_309__3220_3223 a b h)) (fun a b h => f15 a b (nz_X12_bad_309__3235_3437 a b h))
  have r37 := y_YM.fr p5 (by omega) (f15 309 44 (by decide)) (f15 309 20 (by decide)) (f15 309 58 (by decide)) (fun b => f15 312 b (nr_X12_bad_309__312 b)) (fun b => f15 331 b (nr_X12_bad_309__331 b)) (fun b => f15 346 b (nr_X12_bad_309__346 b)) (fun b => f15 361 b (nr_X12_bad_309__361 b)) (fun b => f15 391 b (nr_X12_bad_309__391 b)) (fun a b h => f15 a b (nz_X12_bad_309__407_606 a b h)) (fun a b h => f15 a b (nz_X12_bad_309__3220_3223 a b h)) (fun b => f15 3438 b (nr_X12_bad_309__3438 b)) (fun a b h => f15 a b (nz_X12_bad_309__3441_3450 a b h)) (fun a b h => f15 a b (nz_X12_bad_309__3452_3651 a b h))
  refine T_ite (fun h38 => ?_) (fun h38 => ?_)
  · refine T_if1 (by decide +kernel) ?_
    refine T_useN (sf_X12_laysAll_309Y hfu s13 c14 r34 (by first | exact r35 | exact y_K.b0 (by omega) | exact y_K.k0 (by omega) | exact y_K.bk (by omega)) (by first | exact r36 | exact y_KM.z (by omega)) (by first | exact r37 | exact y_YM.b0 (by omega) | exact y_YM.k0 (by omega) | exact y_YM.bk (by omega))) (fun v44 s39 hq => ?_)
    obtain ⟨c40, f41, o45, o46, o47, o48, o49, o50, o51, o52, rfl⟩ := hq
    refine T_vN ?_
    have f42 := z_Fr.tr (R := R_X12_nearest_309) f16 f41 rs_X12_laysAll_309__X12_nearest_309
    have t55 : s39 309 20 = s 309 20 := (f41 309 20 (by decide)).trans t24
    have t56 : s39 316 0 = s 316 0 := (f41 316 0 (by decide)).trans t29
    have t57 : s39 329 0 = s 329 0 := (f41 329 0 (by decide)).trans t30
    have t58 : s39 329 1 = s 329 1 := (f41 329 1 (by decide)).trans t31
    have u59 := CI_b c40 (k := 309) (j := 36) bd_309_36
    have u60 := CI_b c40 (k := 309) (j := 43) bd_309_43
    have u61 := CI_b c40 (k := 309) (j := 44) bd_309_44
    have u62 := CI_b c40 (k := 309) (j := 58) bd_309_58
    have r63 := y_TA.fr r32 (fun a b h => f41 a b (nz_X12_laysAll_309__316_328 a b h)) (fun a b h => f41 a b (nz_X12_laysAll_309__346_358 a b h)) (fun a b h => f41 a b (nz_X12_laysAll_309__361_373 a b h))
    have r64 := y_DD.fr r33 (f41 329 0 (by decide)) (f41 329 1 (by decide)) (fun b => f41 359 b (nr_X12_laysAll_309__359 b)) (fun b => f41 374 b (nr_X12_laysAll_309__374 b))
    have r65 := y_B.fr r34 (f41 309 20 (by decide)) (f41 316 0 (by decide)) (fun b => f41 3220 b (nr_X12_laysAll_309__3220 b)) (fun b => f41 3221 b (nr_X12_laysAll_309__3221 b)) (fun b => f41 3222 b (nr_X12_laysAll_309__3222 b)) (fun b => f41 361 b (nr_X12_laysAll_309__361 b))
    clear t24
    clear t29
    clear t30
    clear t31
    refine sl_X12_nearest_309Y_L43 hfu r0 a1 (by omega) (fun s66 y69 y70 c67 f68 b71 b72 g73 g74 g75 g76 g77 g78 => ?_) fu s39 (-1) 999 0 c40 f42 (by omega) (by omega) (by omega) (by first | exact o47 | exact y_K.B o45 (by omega) (by omega)) r63 (by first | exact r64 | exact y_DD.z (by omega) (by omega)) r65 (by first | exact o45 | exact y_K.b0 (by omega) | exact y_K.k0 (by omega) | exact y_K.bk (by omega) | exact y_K.mk o46 (by omega) o47) (by first | exact o51 | exact y_KM.z (by omega)) (by first | exact o52 | exact y_YM.b0 (by omega) | exact y_YM.k0 (by omega) | exact y_YM.bk (by omega)) (by omega)
    have u79 := CI_b c67 (k := 309) (j := 20) bd_309_20
    have u80 := CI_b c67 (k := 309) (j := 36) bd_309_36
    have u81 := CI_b c67 (k := 309) (j := 43) bd_309_43
    have u82 := CI_b c67 (k := 309) (j := 44) bd_309_44
    have u83 := CI_b c67 (k := 309) (j := 58) bd_309_58
    have u84 := CI_b c67 (k := 316) (j := 0) bd_316_0
    have u85 := CI_b c67 (k := 329) (j := 0) bd_329_0
    have u86 := CI_b c67 (k := 329) (j := 1) bd_329_1
    have t87 : s66 309 20 = r0 309 20 := f68 309 20 (by decide)
    have t88 : s66 316 0 = r0 316 0 := f68 316 0 (by decide)
    have t89 : s66 329 0 = r0 329 0 := f68 329 0 (by decide)
    have t90 : s66 329 1 = r0 329 1 := f68 329 1 (by decide)
    refine T_ite (fun h91 => ?_) (fun h91 => ?_)
    · exact sj_X12_nearest_309Y_J171 hfu r0 s66 c67 f68 y69 (by omega) g73 (by first | exact g74 | exact y_DD.z (by omega) (by omega)) g75 (by first | exact g76 | exact y_K.b0 (by omega) | exact y_K.k0 (by omega) | exact y_K.bk (by omega)) (by first | exact g77 | exact y_KM.z (by omega)) (by first | exact g78 | exact y_YM.b0 (by omega) | exact y_YM.k0 (by omega) | exact y_YM.bk (by omega))
    · exact sj_X12_nearest_309Y_J171 hfu r0 s66 c67 f68 y70 (by omega) g73 (by first | exact g74 | exact y_DD.z (by omega) (by omega)) g75 (by first | exact g76 | exact y_K.b0 (by omega) | exact y_K.k0 (by omega) | exact y_K.bk (by omega)) (by first | exact g77 | exact y_KM.z (by omega)) (by first | exact g78 | exact y_YM.b0 (by omega) | exact y_YM.k0 (by omega) | exact y_YM.bk (by omega))
  · exact T_ret ⟨c14, f16, r32, (by first | exact r33 | exact y_DD.z (by omega) (by omega)), r34, (by first | exact r35 | exact y_K.b0 (by omega) | exact y_K.k0 (by omega) | exact y_K.bk (by omega)), (by first | exact r36 | exact y_KM.z (by omega)), (by first | exact r37 | exact y_YM.b0 (by omega) | exact y_YM.k0 (by omega) | exact y_YM.bk (by omega)), ⟨0, rfl, by omega, by omega⟩⟩
theorem sf_X12_nearest_309Y {fu : Nat} (hfu : 8589934592 ≤ fu) (r0 : z_M) (c0 : z_CI r0) (a1 : Int) (b1 : -2147483648 ≤ a1 ∧ a1 ≤ 2147483647) (p0 : y_TA r0) (p1 : y_DD r0) (p2 : y_B r0) (p3 : y_K r0) (p4 : y_KM r0) (p5 : y_YM r0) : z_T (fX12_nearest fu r0 309 a1) (P_X12_nearest_309Y r0) := by
  refine T_of (fX12_nearest.eq_1 ..) ?_
  have u1 := CI_b c0 (k := 309) (j := 20) bd_309_20
  have u2 := CI_b c0 (k := 309) (j := 36) bd_309_36
  have u3 := CI_b c0 (k := 309) (j := 43) bd_309_43
  have u4 := CI_b c0 (k := 309) (j := 44) bd_309_44
  have u5 := CI_b c0 (k := 309) (j := 58) bd_309_58
  have u6 := CI_b c0 (k := 316) (j := 0) bd_316_0
  have u7 := CI_b c0 (k := 329) (j := 0) bd_329_0
  have u8 := CI_b c0 (k := 329) (j := 1) bd_329_1
  refine T_if1 (by decide +kernel) ?_
  refine T_upg c0 bd_309_0 (by omega) (fun s9 c10 g12 g13 e14 => ?_)
  have f11 := z_Fr.upf (R := R_X12_nearest_309) z_Fr.rf g12 g13 (Or.inr (Or.inr (⟨rfl, by decide⟩)))
  have t15 : s9 309 20 = r0 309 20 := g13 20 (by decide)
  have t16 : s9 309 36 = r0 309 36 := g13 36 (by decide)
  have t17 : s9 309 43 = r0 309 43 := g13 43 (by decide)
  have t18 : s9 309 44 = r0 309 44 := g13 44 (by decide)
  have t19 : s9 309 58 = r0 309 58 := g13 58 (by decide)
  have t20 : s9 316 0 = r0 316 0 := g12 316 0 (by decide)
  have t21 : s9 329 0 = r0 329 0 := g12 329 0 (by decide)
  have t22 : s9 329 1 = r0 329 1 := g12 329 1 (by decide)
  have r23 := y_TA.fr p0 (fun a b h => g12 a b (by omega)) (fun a b h => g12 a b (by omega)) (fun a b h => g12 a b (by omega))
  have r24 := y_DD.fr p1 (g12 329 0 (by decide)) (g12 329 1 (by decide)) (fun b => g12 359 b (by decide)) (fun b => g12 374 b (by decide))
  have r25 := y_B.fr p2 (g13 20 (by decide)) (g12 316 0 (by decide)) (fun b => g12 3220 b (by decide)) (fun b => g12 3221 b (by decide)) (fun b => g12 3222 b (by decide)) (fun b => g12 361 b (by decide))
  have r26 := y_K.fr p3 (by omega) (by omega) (g13 44 (by decide)) (g13 20 (by decide)) (g13 58 (by decide)) (fun b => g12 3438 b (by decide)) (fun b => g12 3220 b (by decide)) (fun a b h => g12 a b (by omega))
  have r27 := y_KM.fr p4 (g13 20 (by decide)) (g13 36 (by decide)) (g13 38 (by decide)) (g13 39 (by decide)) (fun b => g12 312 b (by decide)) (fun b => g12 331 b (by decide)) (fun b => g12 346 b (by decide)) (fun b => g12 361 b (by decide)) (fun b => g12 391 b (by decide)) (fun a b h => g12 a b (by omega)) (fun a b h => g12 a b (by omega)) (fun a b h => g12 a b (by omega))
  have r28 := y_YM.fr p5 (by omega) (g13 44 (by decide)) (g13 20 (by decide)) (g13 58 (by decide)) (fun b => g12 312 b (by decide)) (fun b => g12 331 b (by decide)) (fun b => g12 346 b (by decide)) (fun b => g12 361 b (by decide)) (fun b => g12 391 b (by decide)) (fun a b h => g12 a b (by omega)) (fun a b h => g12 a b (by omega)) (fun b => g12 3438 b (by decide)) (fun a b h => g12 a b (by omega)) (fun a b h => g12 a b (by omega))
  refine T_useI (sf_X12_in hfu s9 c10 a1 0 1 (by omega) (by omega) (by omega)) (fun v34 s29 hq => ?_)
  obtain ⟨c30, f31, ⟨x33, rfl, b35, b36, o37⟩⟩ := hq
  refine T_vI ?_
  have q38 := z_Fr.eq (fun a b h => h) f31
  subst q38
  refine T_ite (fun h39 => ?_) (fun h39 => ?_)
  · exact sj_X12_nearest_309Y_J20 hfu r0 s9 c10 f11 a1 0 (by omega) (by omega) r23 (by first | exact r24 | exact y_DD.z (by omega) (by omega)) r25 (by first | exact r26 | exact y_K.b0 (by omega) | exact y_K.k0 (by omega) | exact y_K.bk (by omega)) (by first | exact r27 | exact y_KM.z (by omega)) (by first | exact r28 | exact y_YM.b0 (by omega) | exact y_YM.k0 (by omega) | exact y_YM.bk (by omega))
  · exact sj_X12_nearest_309Y_J20 hfu r0 s9 c10 f11 a1 1 (by omega) (by omega) r23 (by first | exact r24 | exact y_DD.z (by omega) (by omega)) r25 (by first | exact r26 | exact y_K.b0 (by omega) | exact y_K.k0 (by omega) | exact y_K.bk (by omega)) (by first | exact r27 | exact y_KM.z (by omega)) (by first | exact r28 | exact y_YM.b0 (by omega) | exact y_YM.k0 (by omega) | exact y_YM.bk (by omega))
abbrev P_X12_feed_309Y (r0 : z_M) : z_V → z_M → Prop := fun v s' => z_CI s' ∧ z_Fr R_X12_feed_309 r0 s' ∧ (y_TA s') ∧ (y_DD s') ∧ (y_B s') ∧ (y_K s') ∧ (y_YM s') ∧ (∃ x, v = vI x ∧ -2147483648 ≤ x ∧ x ≤ 2147483647 ∧ ((r0 309 2 ≤ 280 ∧ s' 309 2 = r0 309 2 + 20 ∧ x = r0 309 2 + 20) ∨ (280 < r0 309 2 ∧ s' 309 2 = r0 309 2 ∧ x = -1)))
theorem sj_X12_feed_309Y_J76 {fu : Nat} (hfu : 8589934592 ≤ fu) (r0 s : z_M) (c : z_CI s) (f : z_Fr R_X12_feed_309 r0 s) (a1 : Int) (a2 : Int) (a3 : Int) (a4 : Int) (a5 : Int) (a6 : Int) (t0 : Int) (b1 : -2147483648 ≤ a1 ∧ a1 ≤ 2147483647) (b2 : -2147483648 ≤ a2 ∧ a2 ≤ 2147483647) (b3 : -2147483648 ≤ a3 ∧ a3 ≤ 2147483647) (b4 : -2147483648 ≤ a4 ∧ a4 ≤ 2147483647) (b5 : -2147483648 ≤ a5 ∧ a5 ≤ 2147483647) (b6 : 0 ≤ a6 ∧ a6 ≤ 19) (d0 : -2147483648 ≤ t0 ∧ t0 ≤ 2147483647) (p0 : s 309 2 = r0 309 2 + a6) (p1 : r0 309 2 ≤ 280) (p2 : y_TA s) (p3 : y_DD s) (p4 : y_B s) (p5 : y_K s) (p6 : y_YM s) (M : Int) (pm : 2147483647 - a6 ≤ M) {r : z_M → Int → z_O} {k : z_M → z_O} (hr : ∀ (s' : z_M) (v6 : Int), z_CI s' → z_Fr R_X12_feed_309 r0 s' → (0 ≤ v6 ∧ v6 ≤ 20) → (s' 309 2 = r0 309 2 + v6) → (y_TA s') → (y_DD s') → (y_B s') → (y_K s') → (y_YM s') → (2147483647 - v6 < M) → z_T (r s' v6) (P_X12_feed_309Y r0)) (hk : ∀ (s' : z_M), z_CI s' → z_Fr R_X12_feed_309 r0 s' → (s' 309 2 = r0 309 2 + 20) → (y_TA s') → (y_DD s') → (y_B s') → (y_K s') → (y_YM s') → z_T (k s') (P_X12_feed_309Y r0)) : z_T (fX12_feed_J76 fu s 309 a1 a2 a3 a4 a5 a6 t0 r k) (P_X12_feed_309Y r0) := by
  refine T_of (fX12_feed_J76.eq_1 ..) ?_
  have u1 := CI_b c (k := 309) (j := 2) bd_309_2
  have u2 := CI_b c (k := 309) (j := 20) bd_309_20
  have u3 := CI_b c (k := 309) (j := 36) bd_309_36
  have u4 := CI_b c (k := 309) (j := 43) bd_309_43
  have u5 := CI_b c (k := 309) (j := 44) bd_309_44
  have u6 := CI_b c (k := 309) (j := 58) bd_309_58
  have u7 := CI_b c (k := 316) (j := 0) bd_316_0
  have u8 := CI_b c (k := 329) (j := 0) bd_329_0
  have u9 := CI_b c (k := 329) (j := 1) bd_329_1
  have t10 : s 309 20 = r0 309 20 := f 309 20 (by decide)
  have t11 : s 309 36 = r0 309 36 := f 309 36 (by decide)
  have t12 : s 309 43 = r0 309 43 := f 309 43 (by decide)
  have t13 : s 309 44 = r0 309 44 := f 309 44 (by decide)
  have t14 : s 309 58 = r0 309 58 := f 309 58 (by decide)
  have t15 : s 316 0 = r0 316 0 := f 316 0 (by decide)
  have t16 : s 329 0 = r0 329 0 := f 329 0 (by decide)
  have t17 : s 329 1 = r0 329 1 := f 329 1 (by decide)
  refine T_if1 (by decide +kernel) ?_
  refine T_let 311 (by decide +kernel) ?_
  refine T_if1 (by decide +kernel) ?_
  refine T_leq (fun x18 e19 => ?_)
  have u20 := CI_b c (k := 309) (j := 2) bd_309_2
  refine T_if1 (by omega) ?_
  refine T_leq (fun x21 e22 => ?_)
  have w23 := z_tmb e22 (by omega)
  refine T_leq (fun x24 e25 => ?_)
  first | (have w26 := z_wx e25 (by omega)) | (have w26 := z_wr e25)
  refine T_leq (fun x27 e28 => ?_)
  first | (have w29 := z_wx e28 (by omega)) | (have w29 := z_wr e28)
  refine T_leq (fun x30 e31 => ?_)
  have w32 : -2147483648 ≤ x30 ∧ x30 ≤ 2147483647 := by rw [← e31]; exact z_i32b _
  refine T_leq (fun x33 e34 => ?_)
  have w35 : -2147483648 ≤ x33 ∧ x33 ≤ 2147483647 := by rw [← e34]; exact z_i32b _
  refine T_if1 (z_ixl (n := 300) (by decide +kernel) (by omega) (by omega)) ?_
  refine T_upg c (bdr_311 x18) (by omega) (fun s36 c37 g39 g40 e41 => ?_)
  have f38 := z_Fr.up (R := R_X12_feed_309) f g39 (fun _ => (Or.inl (⟨by decide, by decide⟩)))
  have t42 : s36 309 2 = x18 := (g39 309 2 (by decide)).trans e19
  have t43 : s36 309 20 = s 309 20 := g39 309 20 (by decide)
  have t44 : s36 309 36 = s 309 36 := g39 309 36 (by decide)
  have t45 : s36 309 43 = s 309 43 := g39 309 43 (by decide)
  have t46 : s36 309 44 = s 309 44 := g39 309 44 (by decide)
  have t47 : s36 309 58 = s 309 58 := g39 309 58 (by decide)
  have t48 : s36 316 0 = s 316 0 := g39 316 0 (by decide)
  have t49 : s36 329 0 = s 329 0 := g39 329 0 (by decide)
  have t50 : s36 329 1 = s 329 1 := g39 329 1 (by decide)
  have r51 := y_TA.fr p2 (fun a b h => g39 a b (by omega)) (fun a b h => g39 a b (by omega)) (fun a b h => g39 a b (by omega))
  have r52 := y_DD.fr p3 (g39 329 0 (by decide)) (g39 329 1 (by decide)) (fun b => g39 359 b (by decide)) (fun b => g39 374 b (by decide))
  have r53 := y_B.fr p4 (g39 309 20 (by decide)) (g39 316 0 (by decide)) (fun b => g39 3220 b (by decide)) (fun b => g39 3221 b (by decide)) (fun b => g39 3222 b (by decide)) (fun b => g39 361 b (by decide))
  have r54 := y_K.fr p5 (by omega) (by omega) (g39 309 44 (by decide)) (g39 309 20 (by decide)) (g39 309 58 (by decide)) (fun b => g39 3438 b (by decide)) (fun b => g39 3220 b (by decide)) (fun a b h => g39 a b (by omega))
  have r55 := y_YM.fr p6 (by omega) (g39 309 44 (by decide)) (g39 309 20 (by decide)) (g39 309 58 (by decide)) (fun b => g39 312 b (by decide)) (fun b => g39 331 b (by decide)) (fun b => g39 346 b (by decide)) (fun b => g39 361 b (by decide)) (fun b => g39 391 b (by decide)) (fun a b h => g39 a b (by omega)) (fun a b h => g39 a b (by omega)) (fun b => g39 3438 b (by decide)) (fun a b h => g39 a b (by omega)) (fun a b h => g39 a b (by omega))
  refine T_if1 (by decide +kernel) ?_
  refine T_leq (fun x56 e57 => ?_)
  have q58 : x18 = x56 := t42.symm.trans e57
  subst q58
  refine T_leq (fun x59 e60 => ?_)
  first | (have w61 := z_wx e60 (by omega)) | (have w61 := z_wr e60)
  refine T_if1 (by decide +kernel) ?_
  refine T_upg c37 bd_309_2 (by omega) (fun s62 c63 g65 g66 e67 => ?_)
  have f64 := z_Fr.upf (R := R_X12_feed_309) f38 g65 g66 (Or.inr (⟨rfl, by decide⟩))
  have t68 : s62 309 20 = s 309 20 := (g66 20 (by decide)).trans t43
  have t69 : s62 309 36 = s 309 36 := (g66 36 (by decide)).trans t44
  have t70 : s62 309 43 = s 309 43 := (g66 43 (by decide)).trans t45
  have t71 : s62 309 44 = s 309 44 := (g66 44 (by decide)).trans t46
  have t72 : s62 309 58 = s 309 58 := (g66 58 (by decide)).trans t47
  have t73 : s62 316 0 = s 316 0 := (g65 316 0 (by decide)).trans t48
  have t74 : s62 329 0 = s 329 0 := (g65 329 0 (by decide)).trans t49
  have t75 : s62 329 1 = s 329 1 := (g65 329 1 (by decide)).trans t50
  have u76 := CI_b c63 (k := 309) (j := 2) bd_309_2
  have r77 := y_TA.fr r51 (fun a b h => g65 a b (by omega)) (fun a b h => g65 a b (by omega)) (fun a b h => g65 a b (by omega))
  have r78 := y_DD.fr r52 (g65 329 0 (by decide)) (g65 329 1 (by decide)) (fun b => g65 359 b (by decide)) (fun b => g65 374 b (by decide))
  have r79 := y_B.fr r53 (g66 20 (by decide)) (g65 316 0 (by decide)) (fun b => g65 3220 b (by decide)) (fun b => g65 3221 b (by decide)) (fun b => g65 3222 b (by decide)) (fun b => g65 361 b (by decide))
  have r80 := y_K.fr r54 (by omega) (by omega) (g66 44 (by decide)) (g66 20 (by decide)) (g66 58 (by decide)) (fun b => g65 3438 b (by decide)) (fun b => g65 3220 b (by decide)) (fun a b h => g65 a b (by omega))
  have r81 := y_YM.fr r55 (by omega) (g66 44 (by decide)) (g66 20 (by decide)) (g66 58 (by decide)) (fun b => g65 312 b (by decide)) (fun b => g65 331 b (by decide)) (fun b => g65 346 b (by decide)) (fun b => g65 361 b (by decide)) (fun b => g65 391 b (by decide)) (fun a b h => g65 a b (by omega)) (fun a b h => g65 a b (by omega)) (fun b => g65 3438 b (by decide)) (fun a b h => g65 a b (by omega)) (fun a b h => g65 a b (by omega))
  clear t43
  clear t44
  clear t45
  clear t46
  clear t47
  clear t48
  clear t49
  clear t50
  refine T_leq (fun x82 e83 => ?_)
  first | (have w84 := z_wx e83 (by omega)) | (have w84 := z_wr e83)
  exact hr s62 x82 c63 f64 (by omega) (by omega) r77 (by first | exact r78 | exact y_DD.z (by omega) (by omega)) r79 (by first | exact r80 | exact y_K.b0 (by omega) | exact y_K.k0 (by omega) | exact y_K.bk (by omega)) (by first | exact r81 | exact y_YM.b0 (by omega) | exact y_YM.k0 (by omega) | exact y_YM.bk (by omega)) (by omega)
theorem sl_X12_feed_309Y_L23 {fu : Nat} (hfu : 8589934592 ≤ fu) (r0 : z_M) (a1 : Int) (a2 : Int) (a3 : Int) (a4 : Int) (a5 : Int) (b1 : -2147483648 ≤ a1 ∧ a1 ≤ 2147483647) (b2 : -2147483648 ≤ a2 ∧ a2 ≤ 2147483647) (b3 : -2147483648 ≤ a3 ∧ a3 ≤ 2147483647) (b4 : -2147483648 ≤ a4 ∧ a4 ≤ 2147483647) (b5 : -2147483648 ≤ a5 ∧ a5 ≤ 2147483647) (q0 : r0 309 2 ≤ 280) {k : z_M → z_O} (hk : ∀ (s' : z_M), z_CI s' → z_Fr R_X12_feed_309 r0 s' → (s' 309 2 = r0 309 2 + 20) → (y_TA s') → (y_DD s') → (y_B s') → (y_K s') → (y_YM s') → z_T (k s') (P_X12_feed_309Y r0)) : ∀ (F : Nat) (s : z_M) (a6 : Int), z_CI s → z_Fr R_X12_feed_309 r0 s → (0 ≤ a6 ∧ a6 ≤ 20) → (s 309 2 = r0 309 2 + a6) → (y_TA s) → (y_DD s) → (y_B s) → (y_K s) → (y_YM s) → (2147483647 - a6 < (F : Int)) → z_T (fX12_feed_L23 fu 309 a1 a2 a3 a4 a5 F s a6 k) (P_X12_feed_309Y r0) := by
  intro F
  induction F with
  | zero =>
    intro s a6 c f b6 i0 i1 i2 i3 i4 i5 hm
    have u23 := CI_b c (k := 309) (j := 2) bd_309_2
    have u24 := CI_b c (k := 309) (j := 20) bd_309_20
    have u25 := CI_b c (k := 309) (j := 36) bd_309_36
    have u26 := CI_b c (k := 309) (j := 43) bd_309_43
    have u27 := CI_b c (k := 309) (j := 44) bd_309_44
    have u28 := CI_b c (k := 309) (j := 58) bd_309_58
    have u29 := CI_b c (k := 316) (j := 0) bd_316_0
    have u30 := CI_b c (k := 329) (j := 0) bd_329_0
    have u31 := CI_b c (k := 329) (j := 1) bd_329_1
    exfalso; omega
  | succ F ih =>
    intro s a6 c f b6 i0 i1 i2 i3 i4 i5 hm
    refine T_of (fX12_feed_L23.eq_2 ..) ?_
    have u1 := CI_b c (k := 309) (j := 2) bd_309_2
    have u2 := CI_b c (k := 309) (j := 20) bd_309_20
    have u3 := CI_b c (k := 309) (j := 36) bd_309_36
    have u4 := CI_b c (k := 309) (j := 43) bd_309_43
    have u5 := CI_b c (k := 309) (j := 44) bd_309_44
    have u6 := CI_b c (k := 309) (j := 58) bd_309_58
    have u7 := CI_b c (k := 316) (j := 0) bd_316_0
    have u8 := CI_b c (k := 329) (j := 0) bd_329_0
    have u9 := CI_b c (k := 329) (j := 1) bd_329_1
    have t10 : s 309 20 = r0 309 20 := f 309 20 (by decide)
    have t11 : s 309 36 = r0 309 36 := f 309 36 (by decide)
    have t12 : s 309 43 = r0 309 43 := f 309 43 (by decide)
    have t13 : s 309 44 = r0 309 44 := f 309 44 (by decide)
    have t14 : s 309 58 = r0 309 58 := f 309 58 (by decide)
    have t15 : s 316 0 = r0 316 0 := f 316 0 (by decide)
    have t16 : s 329 0 = r0 329 0 := f 329 0 (by decide)
    have t17 : s 329 1 = r0 329 1 := f 329 1 (by decide)
    refine T_ite (fun h18 => ?_) (fun h18 => ?_)
    · exact hk s c f (by omega) i1 (by first | exact i2 | exact y_DD.z (by omega) (by omega)) i3 (by first | exact i4 | exact y_K.b0 (by omega) | exact y_K.k0 (by omega) | exact y_K.bk (by omega)) (by first | exact i5 | exact y_YM.b0 (by omega) | exact y_YM.k0 (by omega) | exact y_YM.bk (by omega))
    · refine T_ite (fun h19 => ?_) (fun h19 => ?_)
      · refine T_ite (fun h20 => ?_) (fun h20 => ?_)
        · refine T_ite (fun h21 => ?_) (fun h21 => ?_)
          · refine T_ite (fun h22 => ?_) (fun h22 => ?_)
            · exact sj_X12_feed_309Y_J76 hfu r0 s c f a1 a2 a3 a4 a5 a6 a5 (by omega) (by omega) (by omega) (by omega) (by omega) (by omega) (by omega) (by omega) (by omega) i1 (by first | exact i2 | exact y_DD.z (by omega) (by omega)) i3 (by first | exact i4 | exact y_K.b0 (by omega) | exact y_K.k0 (by omega) | exact y_K.bk (by omega)) (by first | exact i5 | exact y_YM.b0 (by omega) | exact y_YM.k0 (by omega) | exact y_YM.bk (by omega)) (2147483647 - a6) (by omega) (fun s' v6 c' f' w6 z0 z1 z2 z3 z4 z5 pg => ih s' v6 c' f' w6 z0 z1 z2 z3 z4 z5 (by omega)) hk
            · exact sj_X12_feed_309Y_J76 hfu r0 s c f a1 a2 a3 a4 a5 a6 a4 (by omega) (by omega) (by omega) (by omega) (by omega) (by omega) (by omega) (by omega) (by omega) i1 (by first | exact i2 | exact y_DD.z (by omega) (by omega)) i3 (by first | exact i4 | exact y_K.b0 (by omega) | exact y_K.k0 (by omega) | exact y_K.bk (by omega)) (by first | exact i5 | exact y_YM.b0 (by omega) | exact y_YM.k0 (by omega) | exact y_YM.bk (by omega)) (2147483647 - a6) (by omega) (fun s' v6 c' f' w6 z0 z1 z2 z3 z4 z5 pg => ih s' v6 c' f' w6 z0 z1 z2 z3 z4 z5 (by omega)) hk
          · exact sj_X12_feed_309Y_J76 hfu r0 s c f a1 a2 a3 a4 a5 a6 a3 (by omega) (by omega) (by omega) (by omega) (by omega) (by omega) (by omega) (by omega) (by omega) i1 (by first | exact i2 | exact y_DD.z (by omega) (by omega)) i3 (by first | exact i4 | exact y_K.b0 (by omega) | exact y_K.k0 (by omega) | exact y_K.bk (by omega)) (by first | exact i5 | exact y_YM.b0 (by omega) | exact y_YM.k0 (by omega) | exact y_YM.bk (by omega)) (2147483647 - a6) (by omega) (fun s' v6 c' f' w6 z0 z1 z2 z3 z4 z5 pg => ih s' v6 c' f' w6 z0 z1 z2 z3 z4 z5 (by omega)) hk
        · exact sj_X12_feed_309Y_J76 hfu r0 s c f a1 a2 a3 a4 a5 a6 a2 (by omega) (by omega) (by omega) (by omega) (by omega) (by omega) (by omega) (by omega) (by omega) i1 (by first | exact i2 | exact y_DD.z (by omega) (by omega)) i3 (by first | exact i4 | exact y_K.b0 (by omega) | exact y_K.k0 (by omega) | exact y_K.bk (by omega)) (by first | exact i5 | exact y_YM.b0 (by omega) | exact y_YM.k0 (by omega) | exact y_YM.bk (by omega)) (2147483647 - a6) (by omega) (fun s' v6 c' f' w6 z0 z1 z2 z3 z4 z5 pg => ih s' v6 c' f' w6 z0 z1 z2 z3 z4 z5 (by omega)) hk
      · exact sj_X12_feed_309Y_J76 hfu r0 s c f a1 a2 a3 a4 a5 a6 a1 (by omega) (by omega) (by omega) (by omega) (by omega) (by omega) (by omega) (by omega) (by omega) i1 (by first | exact i2 | exact y_DD.z (by omega) (by omega)) i3 (by first | exact i4 | exact y_K.b0 (by omega) | exact y_K.k0 (by omega) | exact y_K.bk (by omega)) (by first | exact i5 | exact y_YM.b0 (by omega) | exact y_YM.k0 (by omega) | exact y_YM.bk (by omega)) (2147483647 - a6) (by omega) (fun s' v6 c' f' w6 z0 z1 z2 z3 z4 z5 pg => ih s' v6 c' f' w6 z0 z1 z2 z3 z4 z5 (by omega)) hk
theorem sf_X12_feed_309Y {fu : Nat} (hfu : 8589934592 ≤ fu) (r0 : z_M) (c0 : z_CI r0) (a1 : Int) (a2 : Int) (a3 : Int) (a4 : Int) (a5 : Int) (b1 : -2147483648 ≤ a1 ∧ a1 ≤ 2147483647) (b2 : -2147483648 ≤ a2 ∧ a2 ≤ 2147483647) (b3 : -2147483648 ≤ a3 ∧ a3 ≤ 2147483647) (b4 : -2147483648 ≤ a4 ∧ a4 ≤ 2147483647) (b5 : -2147483648 ≤ a5 ∧ a5 ≤ 2147483647) (p0 : y_TA r0) (p1 : y_DD r0) (p2 : y_B r0) (p3 : y_K r0) (p4 : y_YM r0) : z_T (fX12_feed fu r0 309 a1 a2 a3 a4 a5) (P_X12_feed_309Y r0) := by
  refine T_of (fX12_feed.eq_1 ..) ?_
  have u1 := CI_b c0 (k := 309) (j := 2) bd_309_2
  have u2 := CI_b c0 (k := 309) (j := 20) bd_309_20
  have u3 := CI_b c0 (k := 309) (j := 36) bd_309_36
  have u4 := CI_b c0 (k := 309) (j := 43) bd_309_43
  have u5 := CI_b c0 (k := 309) (j := 44) bd_309_44
  have u6 := CI_b c0 (k := 309) (j := 58) bd_309_58
  have u7 := CI_b c0 (k := 316) (j := 0) bd_316_0
  have u8 := CI_b c0 (k := 329) (j := 0) bd_329_0
  have u9 := CI_b c0 (k := 329) (j := 1) bd_329_1
  refine T_if1 (by decide +kernel) ?_
  refine T_upg c0 bd_309_0 (by omega) (fun s10 c11 g13 g14 e15 => ?_)
  have f12 := z_Fr.upf (R := R_X12_feed_309) z_Fr.rf g13 g14 (Or.inr (⟨rfl, by decide⟩))
  have t16 : s10 309 2 = r0 309 2 := g14 2 (by decide)
  have t17 : s10 309 20 = r0 309 20 := g14 20 (by decide)
  have t18 : s10 309 36 = r0 309 36 := g14 36 (by decide)
  have t19 : s10 309 43 = r0 309 43 := g14 43 (by decide)
  have t20 : s10 309 44 = r0 309 44 := g14 44 (by decide)
  have t21 : s10 309 58 = r0 309 58 := g14 58 (by decide)
  have t22 : s10 316 0 = r0 316 0 := g13 316 0 (by decide)
  have t23 : s10 329 0 = r0 329 0 := g13 329 0 (by decide)
  have t24 : s10 329 1 = r0 329 1 := g13 329 1 (by decide)
  have r25 := y_TA.fr p0 (fun a b h => g13 a b (by omega)) (fun a b h => g13 a b (by omega)) (fun a b h => g13 a b (by omega))
  have r26 := y_DD.fr p1 (g13 329 0 (by decide)) (g13 329 1 (by decide)) (fun b => g13 359 b (by decide)) (fun b => g13 374 b (by decide))
  have r27 := y_B.fr p2 (g14 20 (by decide)) (g13 316 0 (by decide)) (fun b => g13 3220 b (by decide)) (fun b => g13 3221 b (by decide)) (fun b => g13 3222 b (by decide)) (fun b => g13 361 b (by decide))
  have r28 := y_K.fr p3 (by omega) (by omega) (g14 44 (by decide)) (g14 20 (by decide)) (g14 58 (by decide)) (fun b => g13 3438 b (by decide)) (fun b => g13 3220 b (by decide)) (fun a b h => g13 a b (by omega))
  have r29 := y_YM.fr p4 (by omega) (g14 44 (by decide)) (g14 20 (by decide)) (g14 58 (by decide)) (fun b => g13 312 b (by decide)) (fun b => g13 331 b (by decide)) (fun b => g13 346 b (by decide)) (fun b => g13 361 b (by decide)) (fun b => g13 391 b (by decide)) (fun a b h => g13 a b (by omega)) (fun a b h => g13 a b (by omega)) (fun b => g13 3438 b (by decide)) (fun a b h => g13 a b (by omega)) (fun a b h => g13 a b (by omega))
  refine T_if1 (by decide +kernel) ?_
  refine T_leq (fun x30 e31 => ?_)
  have u32 := CI_b c11 (k := 309) (j := 2) bd_309_2
  refine T_leq (fun x33 e34 => ?_)
  first | (have w35 := z_wx e34 (by omega)) | (have w35 := z_wr e34)
  refine T_ite (fun h36 => ?_) (fun h36 => ?_)
  · refine sl_X12_feed_309Y_L23 hfu r0 a1 a2 a3 a4 a5 (by omega) (by omega) (by omega) (by omega) (by omega) (by omega) (fun s37 c38 f39 g40 g41 g42 g43 g44 g45 => ?_) fu s10 0 c11 f12 (by omega) (by omega) r25 (by first | exact r26 | exact y_DD.z (by omega) (by omega)) r27 (by first | exact r28 | exact y_K.b0 (by omega) | exact y_K.k0 (by omega) | exact y_K.bk (by omega)) (by first | exact r29 | exact y_YM.b0 (by omega) | exact y_YM.k0 (by omega) | exact y_YM.bk (by omega)) (by omega)
    have u46 := CI_b c38 (k := 309) (j := 2) bd_309_2
    have u47 := CI_b c38 (k := 309) (j := 20) bd_309_20
    have u48 := CI_b c38 (k := 309) (j := 36) bd_309_36
    have u49 := CI_b c38 (k := 309) (j := 43) bd_309_43
    have u50 := CI_b c38 (k := 309) (j := 44) bd_309_44
    have u51 := CI_b c38 (k := 309) (j := 58) bd_309_58
    have u52 := CI_b c38 (k := 316) (j := 0) bd_316_0
    have u53 := CI_b c38 (k := 329) (j := 0) bd_329_0
    have u54 := CI_b c38 (k := 329) (j := 1) bd_329_1
    have t55 : s37 309 20 = r0 309 20 := f39 309 20 (by decide)
    have t56 : s37 309 36 = r0 309 36 := f39 309 36 (by decide)
    have t57 : s37 309 43 = r0 309 43 := f39 309 43 (by decide)
    have t58 : s37 309 44 = r0 309 44 := f39 309 44 (by decide)
    have t59 : s37 309 58 = r0 309 58 := f39 309 58 (by decide)
    have t60 : s37 316 0 = r0 316 0 := f39 316 0 (by decide)
    have t61 : s37 329 0 = r0 329 0 := f39 329 0 (by decide)
    have t62 : s37 329 1 = r0 329 1 := f39 329 1 (by decide)
    refine T_if1 (by decide +kernel) ?_
    refine T_leq (fun x63 e64 => ?_)
    have u65 := CI_b c38 (k := 309) (j := 2) bd_309_2
    exact T_ret ⟨c38, f39, g41, (by first | exact g42 | exact y_DD.z (by omega) (by omega)), g43, (by first | exact g44 | exact y_K.b0 (by omega) | exact y_K.k0 (by omega) | exact y_K.bk (by omega)), (by first | exact g45 | exact y_YM.b0 (by omega) | exact y_YM.k0 (by omega) | exact y_YM.bk (by omega)), ⟨x63, rfl, by omega, by omega, (by omega)⟩⟩
  · exact T_ret ⟨c11, f12, r25, (by first | exact r26 | exact y_DD.z (by omega) (by omega)), r27, (by first | exact r28 | exact y_K.b0 (by omega) | exact y_K.k0 (by omega) | exact y_K.bk (by omega)), (by first | exact r29 | exact y_YM.b0 (by omega) | exact y_YM.k0 (by omega) | exact y_YM.bk (by omega)), ⟨(-1), rfl, by omega, by omega, (by omega)⟩⟩
abbrev P_X12_fault_309Y (r0 : z_M) : z_V → z_M → Prop := fun v s' => z_CI s' ∧ z_Fr R_X12_fault_309 r0 s' ∧ (y_TA s') ∧ (y_DD s') ∧ (y_B s') ∧ (y_K s') ∧ (y_YM s') ∧ (∃ x, v = vI x ∧ -2147483648 ≤ x ∧ x ≤ 2147483647)
theorem sf_X12_fault_309Y {fu : Nat} (hfu : 8589934592 ≤ fu) (r0 : z_M) (c0 : z_CI r0) (p0 : y_TA r0) (p1 : y_DD r0) (p2 : y_B r0) (p3 : y_K r0) (p4 : y_YM r0) : z_T (fX12_fault fu r0 309) (P_X12_fault_309Y r0) := by
  refine T_of (fX12_fault.eq_1 ..) ?_
  have u1 := CI_b c0 (k := 309) (j := 20) bd_309_20
  have u2 := CI_b c0 (k := 309) (j := 36) bd_309_36
  have u3 := CI_b c0 (k := 309) (j := 43) bd_309_43
  have u4 := CI_b c0 (k := 309) (j := 44) bd_309_44
  have u5 := CI_b c0 (k := 309) (j := 58) bd_309_58
  have u6 := CI_b c0 (k := 316) (j := 0) bd_316_0
  have u7 := CI_b c0 (k := 329) (j := 0) bd_329_0
  have u8 := CI_b c0 (k := 329) (j := 1) bd_329_1
  refine T_if1 (by decide +kernel) ?_
  refine T_upg c0 bd_309_0 (by omega) (fun s9 c10 g12 g13 e14 => ?_)
  have f11 := z_Fr.upf (R := R_X12_fault_309) z_Fr.rf g12 g13 (⟨rfl, by decide⟩)
  have t15 : s9 309 20 = r0 309 20 := g13 20 (by decide)
  have t16 : s9 309 36 = r0 309 36 := g13 36 (by decide)
  have t17 : s9 309 43 = r0 309 43 := g13 43 (by decide)
  have t18 : s9 309 44 = r0 309 44 := g13 44 (by decide)
  have t19 : s9 309 58 = r0 309 58 := g13 58 (by decide)
  have t20 : s9 316 0 = r0 316 0 := g12 316 0 (by decide)
  have t21 : s9 329 0 = r0 329 0 := g12 329 0 (by decide)
  have t22 : s9 329 1 = r0 329 1 := g12 329 1 (by decide)
  have r23 := y_TA.fr p0 (fun a b h => g12 a b (by omega)) (fun a b h => g12 a b (by omega)) (fun a b h => g12 a b (by omega))
  have r24 := y_DD.fr p1 (g12 329 0 (by decide)) (g12 329 1 (by decide)) (fun b => g12 359 b (by decide)) (fun b => g12 374 b (by decide))
  have r25 := y_B.fr p2 (g13 20 (by decide)) (g12 316 0 (by decide)) (fun b => g12 3220 b (by decide)) (fun b => g12 3221 b (by decide)) (fun b => g12 3222 b (by decide)) (fun b => g12 361 b (by decide))
  have r26 := y_K.fr p3 (by omega) (by omega) (g13 44 (by decide)) (g13 20 (by decide)) (g13 58 (by decide)) (fun b => g12 3438 b (by decide)) (fun b => g12 3220 b (by decide)) (fun a b h => g12 a b (by omega))
  have r27 := y_YM.fr p4 (by omega) (g13 44 (by decide)) (g13 20 (by decide)) (g13 58 (by decide)) (fun b => g12 312 b (by decide)) (fun b => g12 331 b (by decide)) (fun b => g12 346 b (by decide)) (fun b => g12 361 b (by decide)) (fun b => g12 391 b (by decide)) (fun a b h => g12 a b (by omega)) (fun a b h => g12 a b (by omega)) (fun b => g12 3438 b (by decide)) (fun a b h => g12 a b (by omega)) (fun a b h => g12 a b (by omega))
  refine T_if1 (by decide +kernel) ?_
  refine T_leq (fun x28 e29 => ?_)
  have u30 := CI_b c10 (k := 309) (j := 5) bd_309_5
  exact T_ret ⟨c10, f11, r23, (by first | exact r24 | exact y_DD.z (by omega) (by omega)), r25, (by first | exact r26 | exact y_K.b0 (by omega) | exact y_K.k0 (by omega) | exact y_K.bk (by omega)), (by first | exact r27 | exact y_YM.b0 (by omega) | exact y_YM.k0 (by omega) | exact y_YM.bk (by omega)), ⟨x28, rfl, by omega, by omega⟩⟩
abbrev P_X12_status_309Y (r0 : z_M) : z_V → z_M → Prop := fun v s' => z_CI s' ∧ z_Fr R_X12_status_309 r0 s' ∧ (y_TA s') ∧ (y_DD s') ∧ (y_B s') ∧ (y_K s') ∧ (y_YM s') ∧ (∃ x, v = vI x ∧ -2147483648 ≤ x ∧ x ≤ 2147483647)
theorem sj_X12_status_309Y_J24 {fu : Nat} (hfu : 8589934592 ≤ fu) (r0 s : z_M) (c : z_CI s) (f : z_Fr R_X12_status_309 r0 s) (t0 : Int) (d0 : -2147483648 ≤ t0 ∧ t0 ≤ 2147483647) (p0 : y_TA s) (p1 : y_DD s) (p2 : y_B s) (p3 : y_K s) (p4 : y_YM s) : z_T (fX12_status_J24 fu s t0) (P_X12_status_309Y r0) := by
  refine T_of (fX12_status_J24.eq_1 ..) ?_
  have u1 := CI_b c (k := 309) (j := 20) bd_309_20
  have u2 := CI_b c (k := 309) (j := 36) bd_309_36
  have u3 := CI_b c (k := 309) (j := 43) bd_309_43
  have u4 := CI_b c (k := 309) (j := 44) bd_309_44
  have u5 := CI_b c (k := 309) (j := 58) bd_309_58
  have u6 := CI_b c (k := 316) (j := 0) bd_316_0
  have u7 := CI_b c (k := 329) (j := 0) bd_329_0
  have u8 := CI_b c (k := 329) (j := 1) bd_329_1
  have t9 : s 309 20 = r0 309 20 := f 309 20 (by decide)
  have t10 : s 309 36 = r0 309 36 := f 309 36 (by decide)
  have t11 : s 309 43 = r0 309 43 := f 309 43 (by decide)
  have t12 : s 309 44 = r0 309 44 := f 309 44 (by decide)
  have t13 : s 309 58 = r0 309 58 := f 309 58 (by decide)
  have t14 : s 316 0 = r0 316 0 := f 316 0 (by decide)
  have t15 : s 329 0 = r0 329 0 := f 329 0 (by decide)
  have t16 : s 329 1 = r0 329 1 := f 329 1 (by decide)
  exact T_ret ⟨c, f, p0, (by first | exact p1 | exact y_DD.z (by omega) (by omega)), p2, (by first | exact p3 | exact y_K.b0 (by omega) | exact y_K.k0 (by omega) | exact y_K.bk (by omega)), (by first | exact p4 | exact y_YM.b0 (by omega) | exact y_YM.k0 (by omega) | exact y_YM.bk (by omega)), ⟨t0, rfl, by omega, by omega⟩⟩
theorem sf_X12_status_309Y {fu : Nat} (hfu : 8589934592 ≤ fu) (r0 : z_M) (c0 : z_CI r0) (a1 : Int) (b1 : -2147483648 ≤ a1 ∧ a1 ≤ 2147483647) (p0 : y_TA r0) (p1 : y_DD r0) (p2 : y_B r0) (p3 : y_K r0) (p4 : y_YM r0) : z_T (fX12_status fu r0 309 a1) (P_X12_status_309Y r0) := by
  refine T_of (fX12_status.eq_1 ..) ?_
  have u1 := CI_b c0 (k := 309) (j := 20) bd_309_20
  have u2 := CI_b c0 (k := 309) (j := 36) bd_309_36
  have u3 := CI_b c0 (k := 309) (j := 43) bd_309_43
  have u4 := CI_b c0 (k := 309) (j := 44) bd_309_44
  have u5 := CI_b c0 (k := 309) (j := 58) bd_309_58
  have u6 := CI_b c0 (k := 316) (j := 0) bd_316_0
  have u7 := CI_b c0 (k := 329) (j := 0) bd_329_0
  have u8 := CI_b c0 (k := 329) (j := 1) bd_329_1
  refine T_if1 (by decide +kernel) ?_
  refine T_upg c0 bd_309_0 (by omega) (fun s9 c10 g12 g13 e14 => ?_)
  have f11 := z_Fr.upf (R := R_X12_status_309) z_Fr.rf g12 g13 (⟨rfl, by decide⟩)
  have t15 : s9 309 20 = r0 309 20 := g13 20 (by decide)
  have t16 : s9 309 36 = r0 309 36 := g13 36 (by decide)
  have t17 : s9 309 43 = r0 309 43 := g13 43 (by decide)
  have t18 : s9 309 44 = r0 309 44 := g13 44 (by decide)
  have t19 : s9 309 58 = r0 309 58 := g13 58 (by decide)
  have t20 : s9 316 0 = r0 316 0 := g12 316 0 (by decide)
  have t21 : s9 329 0 = r0 329 0 := g12 329 0 (by decide)
  have t22 : s9 329 1 = r0 329 1 := g12 329 1 (by decide)
  have r23 := y_TA.fr p0 (fun a b h => g12 a b (by omega)) (fun a b h => g12 a b (by omega)) (fun a b h => g12 a b (by omega))
  have r24 := y_DD.fr p1 (g12 329 0 (by decide)) (g12 329 1 (by decide)) (fun b => g12 359 b (by decide)) (fun b => g12 374 b (by decide))
  have r25 := y_B.fr p2 (g13 20 (by decide)) (g12 316 0 (by decide)) (fun b => g12 3220 b (by decide)) (fun b => g12 3221 b (by decide)) (fun b => g12 3222 b (by decide)) (fun b => g12 361 b (by decide))
  have r26 := y_K.fr p3 (by omega) (by omega) (g13 44 (by decide)) (g13 20 (by decide)) (g13 58 (by decide)) (fun b => g12 3438 b (by decide)) (fun b => g12 3220 b (by decide)) (fun a b h => g12 a b (by omega))
  have r27 := y_YM.fr p4 (by omega) (g13 44 (by decide)) (g13 20 (by decide)) (g13 58 (by decide)) (fun b => g12 312 b (by decide)) (fun b => g12 331 b (by decide)) (fun b => g12 346 b (by decide)) (fun b => g12 361 b (by decide)) (fun b => g12 391 b (by decide)) (fun a b h => g12 a b (by omega)) (fun a b h => g12 a b (by omega)) (fun b => g12 3438 b (by decide)) (fun a b h => g12 a b (by omega)) (fun a b h => g12 a b (by omega))
  refine T_useI (sf_X12_in hfu s9 c10 a1 0 1 (by omega) (by omega) (by omega)) (fun v33 s28 hq => ?_)
  obtain ⟨c29, f30, ⟨x32, rfl, b34, b35, o36⟩⟩ := hq
  refine T_vI ?_
  have q37 := z_Fr.eq (fun a b h => h) f30
  subst q37
  refine T_ite (fun h38 => ?_) (fun h38 => ?_)
  · exact sj_X12_status_309Y_J24 hfu r0 s9 c10 f11 (-1) (by omega) r23 (by first | exact r24 | exact y_DD.z (by omega) (by omega)) r25 (by first | exact r26 | exact y_K.b0 (by omega) | exact y_K.k0 (by omega) | exact y_K.bk (by omega)) (by first | exact r27 | exact y_YM.b0 (by omega) | exact y_YM.k0 (by omega) | exact y_YM.bk (by omega))
  · refine T_if1 (by decide +kernel) ?_
    refine T_let 310 (by decide +kernel) ?_
    refine T_if1 (z_ixl (n := 2) (by decide +kernel) (by omega) (by omega)) ?_
    refine T_leq (fun x39 e40 => ?_)
    have u41 := CI_b c10 (k := 310) (j := a1) (bdr_310 a1)
    exact sj_X12_status_309Y_J24 hfu r0 s9 c10 f11 x39 (by omega) r23 (by first | exact r24 | exact y_DD.z (by omega) (by omega)) r25 (by first | exact r26 | exact y_K.b0 (by omega) | exact y_K.k0 (by omega) | exact y_K.bk (by omega)) (by first | exact r27 | exact y_YM.b0 (by omega) | exact y_YM.k0 (by omega) | exact y_YM.bk (by omega))
abbrev P_X12_run_309Y (r0 : z_M) : z_V → z_M → Prop := fun v s' => z_CI s' ∧ z_Fr R_X12_run_309 r0 s' ∧ (y_TA s') ∧ (y_DD s') ∧ (y_B s') ∧ (y_K s') ∧ (y_YM s') ∧ (∃ x, v = vI x ∧ -2147483648 ≤ x ∧ x ≤ 2147483647)
theorem sl_X12_run_309Y_L51 {fu : Nat} (hfu : 8589934592 ≤ fu) (r0 : z_M) (a1 : Int) (a2 : Int) (a3 : Int) (a4 : Int) (b1 : -2147483648 ≤ a1 ∧ a1 ≤ 2147483647) (b2 : -2147483648 ≤ a2 ∧ a2 ≤ 2147483647) (b3 : -2147483648 ≤ a3 ∧ a3 ≤ 2147483647) (b4 : 0 ≤ a4 ∧ a4 ≤ 199) {k : z_M → Int → z_O} (hk : ∀ (s' : z_M) (v5 : Int), z_CI s' → z_Fr R_X12_run_309 r0 s' → (1 ≤ v5 ∧ v5 ≤ 200) → (a4 + v5 ≤ s' 316 0) → (y_TA s') → (y_DD s') → (y_B s') → (y_K s') → (y_YM s') → z_T (k s' v5) (P_X12_run_309Y r0)) : ∀ (F : Nat) (s : z_M) (a5 : Int), z_CI s → z_Fr R_X12_run_309 r0 s → (1 ≤ a5 ∧ a5 ≤ 200) → (a4 + a5 ≤ s 316 0) → (y_TA s) → (y_DD s) → (y_B s) → (y_K s) → (y_YM s) → (2147483647 - a5 < (F : Int)) → z_T (fX12_run_L51 fu 309 a1 a2 a3 a4 F s a5 k) (P_X12_run_309Y r0) := by
  intro F
  induction F with
  | zero =>
    intro s a5 c f b5 i0 i1 i2 i3 i4 i5 hm
    have u49 := CI_b c (k := 309) (j := 20) bd_309_20
    have u50 := CI_b c (k := 309) (j := 36) bd_309_36
    have u51 := CI_b c (k := 309) (j := 43) bd_309_43
    have u52 := CI_b c (k := 309) (j := 44) bd_309_44
    have u53 := CI_b c (k := 309) (j := 58) bd_309_58
    have u54 := CI_b c (k := 316) (j := 0) bd_316_0
    have u55 := CI_b c (k := 329) (j := 0) bd_329_0
    have u56 := CI_b c (k := 329) (j := 1) bd_329_1
    exfalso; omega
  | succ F ih =>
    intro s a5 c f b5 i0 i1 i2 i3 i4 i5 hm
    refine T_of (fX12_run_L51.eq_2 ..) ?_
    have u1 := CI_b c (k := 309) (j := 20) bd_309_20
    have u2 := CI_b c (k := 309) (j := 36) bd_309_36
    have u3 := CI_b c (k := 309) (j := 43) bd_309_43
    have u4 := CI_b c (k := 309) (j := 44) bd_309_44
    have u5 := CI_b c (k := 309) (j := 58) bd_309_58
    have u6 := CI_b c (k := 316) (j := 0) bd_316_0
    have u7 := CI_b c (k := 329) (j := 0) bd_329_0
    have u8 := CI_b c (k := 329) (j := 1) bd_329_1
    have t9 : s 309 20 = r0 309 20 := f 309 20 (by decide)
    have t10 : s 309 36 = r0 309 36 := f 309 36 (by decide)
    have t11 : s 309 43 = r0 309 43 := f 309 43 (by decide)
    have t12 : s 309 44 = r0 309 44 := f 309 44 (by decide)
    have t13 : s 309 58 = r0 309 58 := f 309 58 (by decide)
    have t14 : s 316 0 = r0 316 0 := f 316 0 (by decide)
    have t15 : s 329 0 = r0 329 0 := f 329 0 (by decide)
    have t16 : s 329 1 = r0 329 1 := f 329 1 (by decide)
    refine T_leq (fun x17 e18 => ?_)
    first | (have w19 := z_wx e18 (by omega)) | (have w19 := z_wr e18)
    refine T_if1 (by decide +kernel) ?_
    refine T_let 315 (by decide +kernel) ?_
    refine T_if1 (z_ixl (n := 14) (by decide +kernel) (by omega) (by omega)) ?_
    refine T_let 316 (by decide +kernel) ?_
    refine T_if1 (z_ixl (n := 3) (by decide +kernel) (by omega) (by omega)) ?_
    refine T_leq (fun x20 e21 => ?_)
    have u22 := CI_b c (k := 316) (j := 0) bd_316_0
    refine T_ite (fun h23 => ?_) (fun h23 => ?_)
    · exact hk s a5 c f (by omega) (by omega) i1 (by first | exact i2 | exact y_DD.z (by omega) (by omega)) i3 (by first | exact i4 | exact y_K.b0 (by omega) | exact y_K.k0 (by omega) | exact y_K.bk (by omega)) (by first | exact i5 | exact y_YM.b0 (by omega) | exact y_YM.k0 (by omega) | exact y_YM.bk (by omega))
    · refine T_leq (fun x24 e25 => ?_)
      have q26 : x17 = x24 := e18.symm.trans e25
      subst q26
      refine T_if1 (by decide +kernel) ?_
      refine T_useI (sf_X12_isTurned_309 hfu s c x17 (by omega)) (fun v32 s27 hq => ?_)
      obtain ⟨c28, f29, ⟨x31, rfl, b33, b34⟩⟩ := hq
      refine T_vI ?_
      have q35 := z_Fr.eq (fun a b h => h) f29
      subst q35
      refine T_if1 (by decide +kernel) ?_
      refine T_useI (sf_X12_isTurned_309 hfu s c a4 (by omega)) (fun v41 s36 hq => ?_)
      obtain ⟨c37, f38, ⟨x40, rfl, b42, b43⟩⟩ := hq
      refine T_vI ?_
      have q44 := z_Fr.eq (fun a b h => h) f38
      subst q44
      refine T_ite (fun h45 => ?_) (fun h45 => ?_)
      · exact hk s a5 c f (by omega) (by omega) i1 (by first | exact i2 | exact y_DD.z (by omega) (by omega)) i3 (by first | exact i4 | exact y_K.b0 (by omega) | exact y_K.k0 (by omega) | exact y_K.bk (by omega)) (by first | exact i5 | exact y_YM.b0 (by omega) | exact y_YM.k0 (by omega) | exact y_YM.bk (by omega))
      · refine T_leq (fun x46 e47 => ?_)
        first | (have w48 := z_wx e47 (by omega)) | (have w48 := z_wr e47)
        exact ih s x46 c f (by omega) (by omega) i1 (by first | exact i2 | exact y_DD.z (by omega) (by omega)) i3 (by first | exact i4 | exact y_K.b0 (by omega) | exact y_K.k0 (by omega) | exact y_K.bk (by omega)) (by first | exact i5 | exact y_YM.b0 (by omega) | exact y_YM.k0 (by omega) | exact y_YM.bk (by omega)) (by omega)
theorem sj_X12_run_309Y_J132 {fu : Nat} (hfu : 8589934592 ≤ fu) (r0 s : z_M) (c : z_CI s) (f : z_Fr R_X12_run_309 r0 s) (t0 : Int) (a1 : Int) (a2 : Int) (d0 : -2147483648 ≤ t0 ∧ t0 ≤ 2147483647) (e1 : -2147483648 ≤ a1 ∧ a1 ≤ 2147483647) (e2 : -2147483648 ≤ a2 ∧ a2 ≤ 2147483647) (p0 : y_TA s) (p1 : y_DD s) (p2 : y_B s) (p3 : y_K s) (p4 : y_YM s) (M : Int) (pm : (0 : Int) ≤ 0) {r : z_M → Int → Int → z_O} {k : z_M → z_O} (hr : ∀ (s' : z_M) (v3 : Int) (v4 : Int), z_CI s' → z_Fr R_X12_run_309 r0 s' → (-2147483648 ≤ v3 ∧ v3 ≤ 2147483647) → (0 ≤ v4 ∧ v4 ≤ 200) → (y_TA s') → (y_DD s') → (y_B s') → (y_K s') → (y_YM s') → (201 - v4 < M) → z_T (r s' v3 v4) (P_X12_run_309Y r0)) (hk : ∀ (s' : z_M), z_CI s' → z_Fr R_X12_run_309 r0 s' → (y_TA s') → (y_DD s') → (y_B s') → (y_K s') → (y_YM s') → z_T (k s') (P_X12_run_309Y r0)) : z_T (fX12_run_J132 fu s t0 r k) (P_X12_run_309Y r0) := by
  refine T_of (fX12_run_J132.eq_1 ..) ?_
  have u1 := CI_b c (k := 309) (j := 20) bd_309_20
  have u2 := CI_b c (k := 309) (j := 36) bd_309_36
  have u3 := CI_b c (k := 309) (j := 43) bd_309_43
  have u4 := CI_b c (k := 309) (j := 44) bd_309_44
  have u5 := CI_b c (k := 309) (j := 58) bd_309_58
  have u6 := CI_b c (k := 316) (j := 0) bd_316_0
  have u7 := CI_b c (k := 329) (j := 0) bd_329_0
  have u8 := CI_b c (k := 329) (j := 1) bd_329_1
  have t9 : s 309 20 = r0 309 20 := f 309 20 (by decide)
  have t10 : s 309 36 = r0 309 36 := f 309 36 (by decide)
  have t11 : s 309 43 = r0 309 43 := f 309 43 (by decide)
  have t12 : s 309 44 = r0 309 44 := f 309 44 (by decide)
  have t13 : s 309 58 = r0 309 58 := f 309 58 (by decide)
  have t14 : s 316 0 = r0 316 0 := f 316 0 (by decide)
  have t15 : s 329 0 = r0 329 0 := f 329 0 (by decide)
  have t16 : s 329 1 = r0 329 1 := f 329 1 (by decide)
  exact T_ret ⟨c, f, p0, (by first | exact p1 | exact y_DD.z (by omega) (by omega)), p2, (by first | exact p3 | exact y_K.b0 (by omega) | exact y_K.k0 (by omega) | exact y_K.bk (by omega)), (by first | exact p4 | exact y_YM.b0 (by omega) | exact y_YM.k0 (by omega) | exact y_YM.bk (by omega)), ⟨t0, rfl, by omega, by omega⟩⟩
theorem sj_X12_run_309Y_J91 {fu : Nat} (hfu : 8589934592 ≤ fu) (r0 s : z_M) (c : z_CI s) (f : z_Fr R_X12_run_309 r0 s) (a1 : Int) (a2 : Int) (a3 : Int) (a4 : Int) (a5 : Int) (b1 : -2147483648 ≤ a1 ∧ a1 ≤ 2147483647) (b2 : -2147483648 ≤ a2 ∧ a2 ≤ 2147483647) (b3 : -2147483648 ≤ a3 ∧ a3 ≤ 2147483647) (b4 : 0 ≤ a4 ∧ a4 ≤ 199) (b5 : 1 ≤ a5 ∧ a5 ≤ 200) (p0 : a4 + a5 ≤ s 316 0) (p1 : y_TA s) (p2 : y_DD s) (p3 : y_B s) (p4 : y_K s) (p5 : y_YM s) (M : Int) (pm : 201 - a4 ≤ M) {r : z_M → Int → Int → z_O} {k : z_M → z_O} (hr : ∀ (s' : z_M) (v3 : Int) (v4 : Int), z_CI s' → z_Fr R_X12_run_309 r0 s' → (-2147483648 ≤ v3 ∧ v3 ≤ 2147483647) → (0 ≤ v4 ∧ v4 ≤ 200) → (y_TA s') → (y_DD s') → (y_B s') → (y_K s') → (y_YM s') → (201 - v4 < M) → z_T (r s' v3 v4) (P_X12_run_309Y r0)) (hk : ∀ (s' : z_M), z_CI s' → z_Fr R_X12_run_309 r0 s' → (y_TA s') → (y_DD s') → (y_B s') → (y_K s') → (y_YM s') → z_T (k s') (P_X12_run_309Y r0)) : z_T (fX12_run_J91 fu s 309 a1 a2 a3 a4 a5 r k) (P_X12_run_309Y r0) := by
  refine T_of (fX12_run_J91.eq_1 ..) ?_
  have u1 := CI_b c (k := 309) (j := 20) bd_309_20
  have u2 := CI_b c (k := 309) (j := 36) bd_309_36
  have u3 := CI_b c (k := 309) (j := 43) bd_309_43
  have u4 := CI_b c (k := 309) (j := 44) bd_309_44
  have u5 := CI_b c (k := 309) (j := 58) bd_309_58
  have u6 := CI_b c (k := 316) (j := 0) bd_316_0
  have u7 := CI_b c (k := 329) (j := 0) bd_329_0
  have u8 := CI_b c (k := 329) (j := 1) bd_329_1
  have t9 : s 309 20 = r0 309 20 := f 309 20 (by decide)
  have t10 : s 309 36 = r0 309 36 := f 309 36 (by decide)
  have t11 : s 309 43 = r0 309 43 := f 309 43 (by decide)
  have t12 : s 309 44 = r0 309 44 := f 309 44 (by decide)
  have t13 : s 309 58 = r0 309 58 := f 309 58 (by decide)
  have t14 : s 316 0 = r0 316 0 := f 316 0 (by decide)
  have t15 : s 329 0 = r0 329 0 := f 329 0 (by decide)
  have t16 : s 329 1 = r0 329 1 := f 329 1 (by decide)
  refine T_leq (fun x17 e18 => ?_)
  first | (have w19 := z_wx e18 (by omega)) | (have w19 := z_wr e18)
  refine T_ite (fun h20 => ?_) (fun h20 => ?_)
  · refine T_leq (fun x21 e22 => ?_)
    first | (have w23 := z_wx e22 (by omega)) | (have w23 := z_wr e22)
    exact hr s x17 x21 c f (by omega) (by omega) p1 (by first | exact p2 | exact y_DD.z (by omega) (by omega)) p3 (by first | exact p4 | exact y_K.b0 (by omega) | exact y_K.k0 (by omega) | exact y_K.bk (by omega)) (by first | exact p5 | exact y_YM.b0 (by omega) | exact y_YM.k0 (by omega) | exact y_YM.bk (by omega)) (by omega)
  · refine T_ite (fun h24 => ?_) (fun h24 => ?_)
    · refine T_ite (fun h25 => ?_) (fun h25 => ?_)
      · refine T_if1 (by decide +kernel) ?_
        refine T_useI (sf_X12_isTurned_309 hfu s c a4 (by omega)) (fun v31 s26 hq => ?_)
        obtain ⟨c27, f28, ⟨x30, rfl, b32, b33⟩⟩ := hq
        refine T_vI ?_
        have q34 := z_Fr.eq (fun a b h => h) f28
        subst q34
        refine T_ite (fun h35 => ?_) (fun h35 => ?_)
        · exact sj_X12_run_309Y_J132 hfu r0 s c f 0 a1 a2 (by omega) (by omega) (by omega) p1 (by first | exact p2 | exact y_DD.z (by omega) (by omega)) p3 (by first | exact p4 | exact y_K.b0 (by omega) | exact y_K.k0 (by omega) | exact y_K.bk (by omega)) (by first | exact p5 | exact y_YM.b0 (by omega) | exact y_YM.k0 (by omega) | exact y_YM.bk (by omega)) M (by omega) (fun s' v3 v4 c' f' w3 w4 z0 z1 z2 z3 z4 pg => hr s' v3 v4 c' f' w3 w4 z0 z1 z2 z3 z4 (by omega)) hk
        · exact sj_X12_run_309Y_J132 hfu r0 s c f 1 a1 a2 (by omega) (by omega) (by omega) p1 (by first | exact p2 | exact y_DD.z (by omega) (by omega)) p3 (by first | exact p4 | exact y_K.b0 (by omega) | exact y_K.k0 (by omega) | exact y_K.bk (by omega)) (by first | exact p5 | exact y_YM.b0 (by omega) | exact y_YM.k0 (by omega) | exact y_YM.bk (by omega)) M (by omega) (fun s' v3 v4 c' f' w3 w4 z0 z1 z2 z3 z4 pg => hr s' v3 v4 c' f' w3 w4 z0 z1 z2 z3 z4 (by omega)) hk
      · exact sj_X12_run_309Y_J132 hfu r0 s c f a5 a1 a2 (by omega) (by omega) (by omega) p1 (by first | exact p2 | exact y_DD.z (by omega) (by omega)) p3 (by first | exact p4 | exact y_K.b0 (by omega) | exact y_K.k0 (by omega) | exact y_K.bk (by omega)) (by first | exact p5 | exact y_YM.b0 (by omega) | exact y_YM.k0 (by omega) | exact y_YM.bk (by omega)) M (by omega) (fun s' v3 v4 c' f' w3 w4 z0 z1 z2 z3 z4 pg => hr s' v3 v4 c' f' w3 w4 z0 z1 z2 z3 z4 (by omega)) hk
    · exact sj_X12_run_309Y_J132 hfu r0 s c f a4 a1 a2 (by omega) (by omega) (by omega) p1 (by first | exact p2 | exact y_DD.z (by omega) (by omega)) p3 (by first | exact p4 | exact y_K.b0 (by omega) | exact y_K.k0 (by omega) | exact y_K.bk (by omega)) (by first | exact p5 | exact y_YM.b0 (by omega) | exact y_YM.k0 (by omega) | exact y_YM.bk (by omega)) M (by omega) (fun s' v3 v4 c' f' w3 w4 z0 z1 z2 z3 z4 pg => hr s' v3 v4 c' f' w3 w4 z0 z1 z2 z3 z4 (by omega)) hk
theorem sl_X12_run_309Y_L35 {fu : Nat} (hfu : 8589934592 ≤ fu) (r0 : z_M) (a1 : Int) (a2 : Int) (b1 : -2147483648 ≤ a1 ∧ a1 ≤ 2147483647) (b2 : -2147483648 ≤ a2 ∧ a2 ≤ 2147483647) {k : z_M → z_O} (hk : ∀ (s' : z_M), z_CI s' → z_Fr R_X12_run_309 r0 s' → (y_TA s') → (y_DD s') → (y_B s') → (y_K s') → (y_YM s') → z_T (k s') (P_X12_run_309Y r0)) : ∀ (F : Nat) (s : z_M) (a3 : Int) (a4 : Int), z_CI s → z_Fr R_X12_run_309 r0 s → (-2147483648 ≤ a3 ∧ a3 ≤ 2147483647) → (0 ≤ a4 ∧ a4 ≤ 200) → (y_TA s) → (y_DD s) → (y_B s) → (y_K s) → (y_YM s) → (201 - a4 < (F : Int)) → z_T (fX12_run_L35 fu 309 a1 a2 F s a3 a4 k) (P_X12_run_309Y r0) := by
  intro F
  induction F with
  | zero =>
    intro s a3 a4 c f b3 b4 i0 i1 i2 i3 i4 hm
    have u48 := CI_b c (k := 309) (j := 20) bd_309_20
    have u49 := CI_b c (k := 309) (j := 36) bd_309_36
    have u50 := CI_b c (k := 309) (j := 43) bd_309_43
    have u51 := CI_b c (k := 309) (j := 44) bd_309_44
    have u52 := CI_b c (k := 309) (j := 58) bd_309_58
    have u53 := CI_b c (k := 316) (j := 0) bd_316_0
    have u54 := CI_b c (k := 329) (j := 0) bd_329_0
    have u55 := CI_b c (k := 329) (j := 1) bd_329_1
    exfalso; omega
  | succ F ih =>
    intro s a3 a4 c f b3 b4 i0 i1 i2 i3 i4 hm
    refine T_of (fX12_run_L35.eq_2 ..) ?_
    have u1 := CI_b c (k := 309) (j := 20) bd_309_20
    have u2 := CI_b c (k := 309) (j := 36) bd_309_36
    have u3 := CI_b c (k := 309) (j := 43) bd_309_43
    have u4 := CI_b c (k := 309) (j := 44) bd_309_44
    have u5 := CI_b c (k := 309) (j := 58) bd_309_58
    have u6 := CI_b c (k := 316) (j := 0) bd_316_0
    have u7 := CI_b c (k := 329) (j := 0) bd_329_0
    have u8 := CI_b c (k := 329) (j := 1) bd_329_1
    have t9 : s 309 20 = r0 309 20 := f 309 20 (by decide)
    have t10 : s 309 36 = r0 309 36 := f 309 36 (by decide)
    have t11 : s 309 43 = r0 309 43 := f 309 43 (by decide)
    have t12 : s 309 44 = r0 309 44 := f 309 44 (by decide)
    have t13 : s 309 58 = r0 309 58 := f 309 58 (by decide)
    have t14 : s 316 0 = r0 316 0 := f 316 0 (by decide)
    have t15 : s 329 0 = r0 329 0 := f 329 0 (by decide)
    have t16 : s 329 1 = r0 329 1 := f 329 1 (by decide)
    refine T_if1 (by decide +kernel) ?_
    refine T_let 315 (by decide +kernel) ?_
    refine T_if1 (z_ixl (n := 14) (by decide +kernel) (by omega) (by omega)) ?_
    refine T_let 316 (by decide +kernel) ?_
    refine T_if1 (z_ixl (n := 3) (by decide +kernel) (by omega) (by omega)) ?_
    refine T_leq (fun x17 e18 => ?_)
    have u19 := CI_b c (k := 316) (j := 0) bd_316_0
    refine T_ite (fun h20 => ?_) (fun h20 => ?_)
    · exact hk s c f i0 (by first | exact i1 | exact y_DD.z (by omega) (by omega)) i2 (by first | exact i3 | exact y_K.b0 (by omega) | exact y_K.k0 (by omega) | exact y_K.bk (by omega)) (by first | exact i4 | exact y_YM.b0 (by omega) | exact y_YM.k0 (by omega) | exact y_YM.bk (by omega))
    · refine sl_X12_run_309Y_L51 hfu r0 a1 a2 a3 a4 (by omega) (by omega) (by omega) (by omega) (fun s21 y24 c22 f23 b25 g26 g27 g28 g29 g30 g31 => ?_) fu s 1 c f (by omega) (by omega) i0 (by first | exact i1 | exact y_DD.z (by omega) (by omega)) i2 (by first | exact i3 | exact y_K.b0 (by omega) | exact y_K.k0 (by omega) | exact y_K.bk (by omega)) (by first | exact i4 | exact y_YM.b0 (by omega) | exact y_YM.k0 (by omega) | exact y_YM.bk (by omega)) (by omega)
      have u32 := CI_b c22 (k := 309) (j := 20) bd_309_20
      have u33 := CI_b c22 (k := 309) (j := 36) bd_309_36
      have u34 := CI_b c22 (k := 309) (j := 43) bd_309_43
      have u35 := CI_b c22 (k := 309) (j := 44) bd_309_44
      have u36 := CI_b c22 (k := 309) (j := 58) bd_309_58
      have u37 := CI_b c22 (k := 316) (j := 0) bd_316_0
      have u38 := CI_b c22 (k := 329) (j := 0) bd_329_0
      have u39 := CI_b c22 (k := 329) (j := 1) bd_329_1
      have t40 : s21 309 20 = r0 309 20 := f23 309 20 (by decide)
      have t41 : s21 309 36 = r0 309 36 := f23 309 36 (by decide)
      have t42 : s21 309 43 = r0 309 43 := f23 309 43 (by decide)
      have t43 : s21 309 44 = r0 309 44 := f23 309 44 (by decide)
      have t44 : s21 309 58 = r0 309 58 := f23 309 58 (by decide)
      have t45 : s21 316 0 = r0 316 0 := f23 316 0 (by decide)
      have t46 : s21 329 0 = r0 329 0 := f23 329 0 (by decide)
      have t47 : s21 329 1 = r0 329 1 := f23 329 1 (by decide)
      exact sj_X12_run_309Y_J91 hfu r0 s21 c22 f23 a1 a2 a3 a4 y24 (by omega) (by omega) (by omega) (by omega) (by omega) (by omega) g27 (by first | exact g28 | exact y_DD.z (by omega) (by omega)) g29 (by first | exact g30 | exact y_K.b0 (by omega) | exact y_K.k0 (by omega) | exact y_K.bk (by omega)) (by first | exact g31 | exact y_YM.b0 (by omega) | exact y_YM.k0 (by omega) | exact y_YM.bk (by omega)) (201 - a4) (by omega) (fun s' v3 v4 c' f' w3 w4 z0 z1 z2 z3 z4 pg => ih s' v3 v4 c' f' w3 w4 z0 z1 z2 z3 z4 (by omega)) hk
theorem sj_X12_run_309Y_J20 {fu : Nat} (hfu : 8589934592 ≤ fu) (r0 s : z_M) (c : z_CI s) (f : z_Fr R_X12_run_309 r0 s) (a1 : Int) (a2 : Int) (t1 : Int) (b1 : -2147483648 ≤ a1 ∧ a1 ≤ 2147483647) (b2 : -2147483648 ≤ a2 ∧ a2 ≤ 2147483647) (d1 : 0 ≤ t1 ∧ t1 ≤ 1) (p0 : y_TA s) (p1 : y_DD s) (p2 : y_B s) (p3 : y_K s) (p4 : y_YM s) : z_T (fX12_run_J20 fu s 309 a1 a2 309 t1) (P_X12_run_309Y r0) := by
  refine T_of (fX12_run_J20.eq_1 ..) ?_
  have u1 := CI_b c (k := 309) (j := 20) bd_309_20
  have u2 := CI_b c (k := 309) (j := 36) bd_309_36
  have u3 := CI_b c (k := 309) (j := 43) bd_309_43
  have u4 := CI_b c (k := 309) (j := 44) bd_309_44
  have u5 := CI_b c (k := 309) (j := 58) bd_309_58
  have u6 := CI_b c (k := 316) (j := 0) bd_316_0
  have u7 := CI_b c (k := 329) (j := 0) bd_329_0
  have u8 := CI_b c (k := 329) (j := 1) bd_329_1
  have t9 : s 309 20 = r0 309 20 := f 309 20 (by decide)
  have t10 : s 309 36 = r0 309 36 := f 309 36 (by decide)
  have t11 : s 309 43 = r0 309 43 := f 309 43 (by decide)
  have t12 : s 309 44 = r0 309 44 := f 309 44 (by decide)
  have t13 : s 309 58 = r0 309 58 := f 309 58 (by decide)
  have t14 : s 316 0 = r0 316 0 := f 316 0 (by decide)
  have t15 : s 329 0 = r0 329 0 := f 329 0 (by decide)
  have t16 : s 329 1 = r0 329 1 := f 329 1 (by decide)
  refine T_if1 (by decide +kernel) ?_
  refine T_useI (sf_X12_bad_309 hfu s c t1 1 1 (by omega) (by omega) (by omega) (by omega)) (fun v22 s17 hq => ?_)
  obtain ⟨c18, f19, o23, ⟨x21, rfl, b24, b25, o26, o27⟩⟩ := hq
  refine T_vI ?_
  have f20 := z_Fr.tr (R := R_X12_run_309) f f19 rs_X12_bad_309__X12_run_309
  have t28 : s17 309 20 = s 309 20 := f19 309 20 (by decide)
  have t29 : s17 309 36 = s 309 36 := f19 309 36 (by decide)
  have t30 : s17 309 43 = s 309 43 := f19 309 43 (by decide)
  have t31 : s17 309 44 = s 309 44 := f19 309 44 (by decide)
  have t32 : s17 309 58 = s 309 58 := f19 309 58 (by decide)
  have t33 : s17 316 0 = s 316 0 := f19 316 0 (by decide)
  have t34 : s17 329 0 = s 329 0 := f19 329 0 (by decide)
  have t35 : s17 329 1 = s 329 1 := f19 329 1 (by decide)
  have r36 := y_TA.fr p0 (fun a b h => f19 a b (nz_X12_bad_309__316_328 a b h)) (fun a b h => f19 a b (nz_X12_bad_309__346_358 a b h)) (fun a b h => f19 a b (nz_X12_bad_309__361_373 a b h))
  have r37 := y_DD.fr p1 (f19 329 0 (by decide)) (f19 329 1 (by decide)) (fun b => f19 359 b (nr_X12_bad_309__359 b)) (fun b => f19 374 b (nr_X12_bad_309__374 b))
  have r38 := y_B.fr p2 (f19 309 20 (by decide)) (f19 316 0 (by decide)) (fun b => f19 3220 b (nr_X12_bad_309__3220 b)) (fun b => f19 3221 b (nr_X12_bad_309__3221 b)) (fun b => f19 3222 b (nr_X12_bad_309__3222 b)) (fun b => f19 361 b (nr_X12_bad_309__361 b))
  have r39 := y_K.fr p3 (by omega) (by omega) (f19 309 44 (by decide)) (f19 309 20 (by decide)) (f19 309 58 (by decide)) (fun b => f19 3438 b (nr_X12_bad_309__3438 b)) (fun b => f19 3220 b (nr_X12_bad_309__3220 b)) (fun a b h => f19 a b (nz_X12_bad_309__3452_3651 a b h))
  have r40 := y_YM.fr p4 (by omega) (f19 309 44 (by decide)) (f19 309 20 (by decide)) (f19 309 58 (by decide)) (fun b => f19 312 b (nr_X12_bad_309__312 b)) (fun b => f19 331 b (nr_X12_bad_309__331 b)) (fun b => f19 346 b (nr_X12_bad_309__346 b)) (fun b => f19 361 b (nr_X12_bad_309__361 b)) (fun b => f19 391 b (nr_X12_bad_309__391 b)) (fun a b h => f19 a b (nz_X12_bad_309__407_606 a b h)) (fun a b h => f19 a b (nz_X12_bad_309__3220_3223 a b h)) (fun b => f19 3438 b (nr_X12_bad_309__3438 b)) (fun a b h => f19 a b (nz_X12_bad_309__3441_3450 a b h)) (fun a b h => f19 a b (nz_X12_bad_309__3452_3651 a b h))
  refine T_ite (fun h41 => ?_) (fun h41 => ?_)
  · refine sl_X12_run_309Y_L35 hfu r0 a1 a2 (by omega) (by omega) (fun s42 c43 f44 g45 g46 g47 g48 g49 => ?_) fu s17 (-1) 0 c18 f20 (by omega) (by omega) r36 (by first | exact r37 | exact y_DD.z (by omega) (by omega)) r38 (by first | exact r39 | exact y_K.b0 (by omega) | exact y_K.k0 (by omega) | exact y_K.bk (by omega)) (by first | exact r40 | exact y_YM.b0 (by omega) | exact y_YM.k0 (by omega) | exact y_YM.bk (by omega)) (by omega)
    have u50 := CI_b c43 (k := 309) (j := 20) bd_309_20
    have u51 := CI_b c43 (k := 309) (j := 36) bd_309_36
    have u52 := CI_b c43 (k := 309) (j := 43) bd_309_43
    have u53 := CI_b c43 (k := 309) (j := 44) bd_309_44
    have u54 := CI_b c43 (k := 309) (j := 58) bd_309_58
    have u55 := CI_b c43 (k := 316) (j := 0) bd_316_0
    have u56 := CI_b c43 (k := 329) (j := 0) bd_329_0
    have u57 := CI_b c43 (k := 329) (j := 1) bd_329_1
    have t58 : s42 309 20 = r0 309 20 := f44 309 20 (by decide)
    have t59 : s42 309 36 = r0 309 36 := f44 309 36 (by decide)
    have t60 : s42 309 43 = r0 309 43 := f44 309 43 (by decide)
    have t61 : s42 309 44 = r0 309 44 := f44 309 44 (by decide)
    have t62 : s42 309 58 = r0 309 58 := f44 309 58 (by decide)
    have t63 : s42 316 0 = r0 316 0 := f44 316 0 (by decide)
    have t64 : s42 329 0 = r0 329 0 := f44 329 0 (by decide)
    have t65 : s42 329 1 = r0 329 1 := f44 329 1 (by decide)
    exact T_ret ⟨c43, f44, g45, (by first | exact g46 | exact y_DD.z (by omega) (by omega)), g47, (by first | exact g48 | exact y_K.b0 (by omega) | exact y_K.k0 (by omega) | exact y_K.bk (by omega)), (by first | exact g49 | exact y_YM.b0 (by omega) | exact y_YM.k0 (by omega) | exact y_YM.bk (by omega)), ⟨(-1), rfl, by omega, by omega⟩⟩
  · exact T_ret ⟨c18, f20, r36, (by first | exact r37 | exact y_DD.z (by omega) (by omega)), r38, (by first | exact r39 | exact y_K.b0 (by omega) | exact y_K.k0 (by omega) | exact y_K.bk (by omega)), (by first | exact r40 | exact y_YM.b0 (by omega) | exact y_YM.k0 (by omega) | exact y_YM.bk (by omega)), ⟨0, rfl, by omega, by omega⟩⟩
theorem sf_X12_run_309Y {fu : Nat} (hfu : 8589934592 ≤ fu) (r0 : z_M) (c0 : z_CI r0) (a1 : Int) (a2 : Int) (b1 : -2147483648 ≤ a1 ∧ a1 ≤ 2147483647) (b2 : -2147483648 ≤ a2 ∧ a2 ≤ 2147483647) (p0 : y_TA r0) (p1 : y_DD r0) (p2 : y_B r0) (p3 : y_K r0) (p4 : y_YM r0) : z_T (fX12_run fu r0 309 a1 a2) (P_X12_run_309Y r0) := by
  refine T_of (fX12_run.eq_1 ..) ?_
  have u1 := CI_b c0 (k := 309) (j := 20) bd_309_20
  have u2 := CI_b c0 (k := 309) (j := 36) bd_309_36
  have u3 := CI_b c0 (k := 309) (j := 43) bd_309_43
  have u4 := CI_b c0 (k := 309) (j := 44) bd_309_44
  have u5 := CI_b c0 (k := 309) (j := 58) bd_309_58
  have u6 := CI_b c0 (k := 316) (j := 0) bd_316_0
  have u7 := CI_b c0 (k := 329) (j := 0) bd_329_0
  have u8 := CI_b c0 (k := 329) (j := 1) bd_329_1
  refine T_if1 (by decide +kernel) ?_
  refine T_upg c0 bd_309_0 (by omega) (fun s9 c10 g12 g13 e14 => ?_)
  have f11 := z_Fr.upf (R := R_X12_run_309) z_Fr.rf g12 g13 (Or.inr (⟨rfl, by decide⟩))
  have t15 : s9 309 20 = r0 309 20 := g13 20 (by decide)
  have t16 : s9 309 36 = r0 309 36 := g13 36 (by decide)
  have t17 : s9 309 43 = r0 309 43 := g13 43 (by decide)
  have t18 : s9 309 44 = r0 309 44 := g13 44 (by decide)
  have t19 : s9 309 58 = r0 309 58 := g13 58 (by decide)
  have t20 : s9 316 0 = r0 316 0 := g12 316 0 (by decide)
  have t21 : s9 329 0 = r0 329 0 := g12 329 0 (by decide)
  have t22 : s9 329 1 = r0 329 1 := g12 329 1 (by decide)
  have r23 := y_TA.fr p0 (fun a b h => g12 a b (by omega)) (fun a b h => g12 a b (by omega)) (fun a b h => g12 a b (by omega))
  have r24 := y_DD.fr p1 (g12 329 0 (by decide)) (g12 329 1 (by decide)) (fun b => g12 359 b (by decide)) (fun b => g12 374 b (by decide))
  have r25 := y_B.fr p2 (g13 20 (by decide)) (g12 316 0 (by decide)) (fun b => g12 3220 b (by decide)) (fun b => g12 3221 b (by decide)) (fun b => g12 3222 b (by decide)) (fun b => g12 361 b (by decide))
  have r26 := y_K.fr p3 (by omega) (by omega) (g13 44 (by decide)) (g13 20 (by decide)) (g13 58 (by decide)) (fun b => g12 3438 b (by decide)) (fun b => g12 3220 b (by decide)) (fun a b h => g12 a b (by omega))
  have r27 := y_YM.fr p4 (by omega) (g13 44 (by decide)) (g13 20 (by decide)) (g13 58 (by decide)) (fun b => g12 312 b (by decide)) (fun b => g12 331 b (by decide)) (fun b => g12 346 b (by decide)) (fun b => g12 361 b (by decide)) (fun b => g12 391 b (by decide)) (fun a b h => g12 a b (by omega)) (fun a b h => g12 a b (by omega)) (fun b => g12 3438 b (by decide)) (fun a b h => g12 a b (by omega)) (fun a b h => g12 a b (by omega))
  refine T_useI (sf_X12_in hfu s9 c10 a2 0 2 (by omega) (by omega) (by omega)) (fun v33 s28 hq => ?_)
  obtain ⟨c29, f30, ⟨x32, rfl, b34, b35, o36⟩⟩ := hq
  refine T_vI ?_
  have q37 := z_Fr.eq (fun a b h => h) f30
  subst q37
  refine T_ite (fun h38 => ?_) (fun h38 => ?_)
  · exact sj_X12_run_309Y_J20 hfu r0 s9 c10 f11 a1 a2 0 (by omega) (by omega) (by omega) r23 (by first | exact r24 | exact y_DD.z (by omega) (by omega)) r25 (by first | exact r26 | exact y_K.b0 (by omega) | exact y_K.k0 (by omega) | exact y_K.bk (by omega)) (by first | exact r27 | exact y_YM.b0 (by omega) | exact y_YM.k0 (by omega) | exact y_YM.bk (by omega))
  · exact sj_X12_run_309Y_J20 hfu r0 s9 c10 f11 a1 a2 1 (by omega) (by omega) (by omega) r23 (by first | exact r24 | exact y_DD.z (by omega) (by omega)) r25 (by first | exact r26 | exact y_K.b0 (by omega) | exact y_K.k0 (by omega) | exact y_K.bk (by omega)) (by first | exact r27 | exact y_YM.b0 (by omega) | exact y_YM.k0 (by omega) | exact y_YM.bk (by omega))
abbrev P_X12_marks_309Y (r0 : z_M) : z_V → z_M → Prop := fun v s' => z_CI s' ∧ z_Fr R_X12_marks_309 r0 s' ∧ (y_TA s') ∧ (y_DD s') ∧ (y_B s') ∧ (y_K s') ∧ (y_YM s') ∧ (∃ x, v = vI x ∧ -2147483648 ≤ x ∧ x ≤ 2147483647)
theorem sl_X12_marks_309Y_L34 {fu : Nat} (hfu : 8589934592 ≤ fu) (r0 : z_M) (a1 : Int) (b1 : -2147483648 ≤ a1 ∧ a1 ≤ 2147483647) {k : z_M → Int → z_O} (hk : ∀ (s' : z_M) (v2 : Int), z_CI s' → z_Fr R_X12_marks_309 r0 s' → (-2147483648 ≤ v2 ∧ v2 ≤ 2147483647) → (y_TA s') → (y_DD s') → (y_B s') → (y_K s') → (y_YM s') → z_T (k s' v2) (P_X12_marks_309Y r0)) : ∀ (F : Nat) (s : z_M) (a2 : Int) (a3 : Int), z_CI s → z_Fr R_X12_marks_309 r0 s → (-2147483648 ≤ a2 ∧ a2 ≤ 2147483647) → (0 ≤ a3 ∧ a3 ≤ 200) → (y_TA s) → (y_DD s) → (y_B s) → (y_K s) → (y_YM s) → (2147483647 - a3 < (F : Int)) → z_T (fX12_marks_L34 fu 309 a1 F s a2 a3 k) (P_X12_marks_309Y r0) := by
  intro F
  induction F with
  | zero =>
    intro s a2 a3 c f b2 b3 i0 i1 i2 i3 i4 hm
    have u42 := CI_b c (k := 309) (j := 20) bd_309_20
    have u43 := CI_b c (k := 309) (j := 36) bd_309_36
    have u44 := CI_b c (k := 309) (j := 43) bd_309_43
    have u45 := CI_b c (k := 309) (j := 44) bd_309_44
    have u46 := CI_b c (k := 309) (j := 58) bd_309_58
    have u47 := CI_b c (k := 316) (j := 0) bd_316_0
    have u48 := CI_b c (k := 329) (j := 0) bd_329_0
    have u49 := CI_b c (k := 329) (j := 1) bd_329_1
    exfalso; omega
  | succ F ih =>
    intro s a2 a3 c f b2 b3 i0 i1 i2 i3 i4 hm
    refine T_of (fX12_marks_L34.eq_2 ..) ?_
    have u1 := CI_b c (k := 309) (j := 20) bd_309_20
    have u2 := CI_b c (k := 309) (j := 36) bd_309_36
    have u3 := CI_b c (k := 309) (j := 43) bd_309_43
    have u4 := CI_b c (k := 309) (j := 44) bd_309_44
    have u5 := CI_b c (k := 309) (j := 58) bd_309_58
    have u6 := CI_b c (k := 316) (j := 0) bd_316_0
    have u7 := CI_b c (k := 329) (j := 0) bd_329_0
    have u8 := CI_b c (k := 329) (j := 1) bd_329_1
    have t9 : s 309 20 = r0 309 20 := f 309 20 (by decide)
    have t10 : s 309 36 = r0 309 36 := f 309 36 (by decide)
    have t11 : s 309 43 = r0 309 43 := f 309 43 (by decide)
    have t12 : s 309 44 = r0 309 44 := f 309 44 (by decide)
    have t13 : s 309 58 = r0 309 58 := f 309 58 (by decide)
    have t14 : s 316 0 = r0 316 0 := f 316 0 (by decide)
    have t15 : s 329 0 = r0 329 0 := f 329 0 (by decide)
    have t16 : s 329 1 = r0 329 1 := f 329 1 (by decide)
    refine T_if1 (by decide +kernel) ?_
    refine T_let 315 (by decide +kernel) ?_
    refine T_if1 (z_ixl (n := 14) (by decide +kernel) (by omega) (by omega)) ?_
    refine T_let 316 (by decide +kernel) ?_
    refine T_if1 (z_ixl (n := 3) (by decide +kernel) (by omega) (by omega)) ?_
    refine T_leq (fun x17 e18 => ?_)
    have u19 := CI_b c (k := 316) (j := 0) bd_316_0
    refine T_ite (fun h20 => ?_) (fun h20 => ?_)
    · exact hk s a2 c f (by omega) i0 (by first | exact i1 | exact y_DD.z (by omega) (by omega)) i2 (by first | exact i3 | exact y_K.b0 (by omega) | exact y_K.k0 (by omega) | exact y_K.bk (by omega)) (by first | exact i4 | exact y_YM.b0 (by omega) | exact y_YM.k0 (by omega) | exact y_YM.bk (by omega))
    · refine T_if1 (by decide +kernel) ?_
      refine T_useI (sf_X12_marksOf_309 hfu s c a3 (by omega) i0 (by omega)) (fun v26 s21 hq => ?_)
      obtain ⟨c22, f23, ⟨x25, rfl, b27, b28⟩⟩ := hq
      refine T_vI ?_
      have q29 := z_Fr.eq (fun a b h => h) f23
      subst q29
      refine T_leq (fun x30 e31 => ?_)
      have w32 : -2147483648 ≤ x30 ∧ x30 ≤ 2147483647 := by rw [← e31]; exact z_i32b _
      refine T_leq (fun x33 e34 => ?_)
      have w35 : -2147483648 ≤ x33 ∧ x33 ≤ 2147483647 := by rw [← e34]; exact z_i32b _
      refine T_leq (fun x36 e37 => ?_)
      first | (have w38 := z_wx e37 (by omega)) | (have w38 := z_wr e37)
      refine T_leq (fun x39 e40 => ?_)
      first | (have w41 := z_wx e40 (by omega)) | (have w41 := z_wr e40)
      exact ih s x36 x39 c f (by omega) (by omega) i0 (by first | exact i1 | exact y_DD.z (by omega) (by omega)) i2 (by first | exact i3 | exact y_K.b0 (by omega) | exact y_K.k0 (by omega) | exact y_K.bk (by omega)) (by first | exact i4 | exact y_YM.b0 (by omega) | exact y_YM.k0 (by omega) | exact y_YM.bk (by omega)) (by omega)
theorem sj_X12_marks_309Y_J20 {fu : Nat} (hfu : 8589934592 ≤ fu) (r0 s : z_M) (c : z_CI s) (f : z_Fr R_X12_marks_309 r0 s) (a1 : Int) (t1 : Int) (b1 : -2147483648 ≤ a1 ∧ a1 ≤ 2147483647) (d1 : 0 ≤ t1 ∧ t1 ≤ 1) (p0 : y_TA s) (p1 : y_DD s) (p2 : y_B s) (p3 : y_K s) (p4 : y_YM s) : z_T (fX12_marks_J20 fu s 309 a1 309 t1) (P_X12_marks_309Y r0) := by
  refine T_of (fX12_marks_J20.eq_1 ..) ?_
  have u1 := CI_b c (k := 309) (j := 20) bd_309_20
  have u2 := CI_b c (k := 309) (j := 36) bd_309_36
  have u3 := CI_b c (k := 309) (j := 43) bd_309_43
  have u4 := CI_b c (k := 309) (j := 44) bd_309_44
  have u5 := CI_b c (k := 309) (j := 58) bd_309_58
  have u6 := CI_b c (k := 316) (j := 0) bd_316_0
  have u7 := CI_b c (k := 329) (j := 0) bd_329_0
  have u8 := CI_b c (k := 329) (j := 1) bd_329_1
  have t9 : s 309 20 = r0 309 20 := f 309 20 (by decide)
  have t10 : s 309 36 = r0 309 36 := f 309 36 (by decide)
  have t11 : s 309 43 = r0 309 43 := f 309 43 (by decide)
  have t12 : s 309 44 = r0 309 44 := f 309 44 (by decide)
  have t13 : s 309 58 = r0 309 58 := f 309 58 (by decide)
  have t14 : s 316 0 = r0 316 0 := f 316 0 (by decide)
  have t15 : s 329 0 = r0 329 0 := f 329 0 (by decide)
  have t16 : s 329 1 = r0 329 1 := f 329 1 (by decide)
  refine T_if1 (by decide +kernel) ?_
  refine T_useI (sf_X12_bad_309 hfu s c t1 1 1 (by omega) (by omega) (by omega) (by omega)) (fun v22 s17 hq => ?_)
  obtain ⟨c18, f19, o23, ⟨x21, rfl, b24, b25, o26, o27⟩⟩ := hq
  refine T_vI ?_
  have f20 := z_Fr.tr (R := R_X12_marks_309) f f19 rs_X12_bad_309__X12_marks_309
  have t28 : s17 309 20 = s 309 20 := f19 309 20 (by decide)
  have t29 : s17 309 36 = s 309 36 := f19 309 36 (by decide)
  have t30 : s17 309 43 = s 309 43 := f19 309 43 (by decide)
  have t31 : s17 309 44 = s 309 44 := f19 309 44 (by decide)
  have t32 : s17 309 58 = s 309 58 := f19 309 58 (by decide)
  have t33 : s17 316 0 = s 316 0 := f19 316 0 (by decide)
  have t34 : s17 329 0 = s 329 0 := f19 329 0 (by decide)
  have t35 : s17 329 1 = s 329 1 := f19 329 1 (by decide)
  have r36 := y_TA.fr p0 (fun a b h => f19 a b (nz_X12_bad_309__316_328 a b h)) (fun a b h => f19 a b (nz_X12_bad_309__346_358 a b h)) (fun a b h => f19 a b (nz_X12_bad_309__361_373 a b h))
  have r37 := y_DD.fr p1 (f19 329 0 (by decide)) (f19 329 1 (by decide)) (fun b => f19 359 b (nr_X12_bad_309__359 b)) (fun b => f19 374 b (nr_X12_bad_309__374 b))
  have r38 := y_B.fr p2 (f19 309 20 (by decide)) (f19 316 0 (by decide)) (fun b => f19 3220 b (nr_X12_bad_309__3220 b)) (fun b => f19 3221 b (nr_X12_bad_309__3221 b)) (fun b => f19 3222 b (nr_X12_bad_309__3222 b)) (fun b => f19 361 b (nr_X12_bad_309__361 b))
  have r39 := y_K.fr p3 (by omega) (by omega) (f19 309 44 (by decide)) (f19 309 20 (by decide)) (f19 309 58 (by decide)) (fun b => f19 3438 b (nr_X12_bad_309__3438 b)) (fun b => f19 3220 b (nr_X12_bad_309__3220 b)) (fun a b h => f19 a b (nz_X12_bad_309__3452_3651 a b h))
  have r40 := y_YM.fr p4 (by omega) (f19 309 44 (by decide)) (f19 309 20 (by decide)) (f19 309 58 (by decide)) (fun b => f19 312 b (nr_X12_bad_309__312 b)) (fun b => f19 331 b (nr_X12_bad_309__331 b)) (fun b => f19 346 b (nr_X12_bad_309__346 b)) (fun b => f19 361 b (nr_X12_bad_309__361 b)) (fun b => f19 391 b (nr_X12_bad_309__391 b)) (fun a b h => f19 a b (nz_X12_bad_309__407_606 a b h)) (fun a b h => f19 a b (nz_X12_bad_309__3220_3223 a b h)) (fun b => f19 3438 b (nr_X12_bad_309__3438 b)) (fun a b h => f19 a b (nz_X12_bad_309__3441_3450 a b h)) (fun a b h => f19 a b (nz_X12_bad_309__3452_3651 a b h))
  refine T_ite (fun h41 => ?_) (fun h41 => ?_)
  · refine sl_X12_marks_309Y_L34 hfu r0 a1 (by omega) (fun s42 y45 c43 f44 b46 g47 g48 g49 g50 g51 => ?_) fu s17 0 0 c18 f20 (by omega) (by omega) r36 (by first | exact r37 | exact y_DD.z (by omega) (by omega)) r38 (by first | exact r39 | exact y_K.b0 (by omega) | exact y_K.k0 (by omega) | exact y_K.bk (by omega)) (by first | exact r40 | exact y_YM.b0 (by omega) | exact y_YM.k0 (by omega) | exact y_YM.bk (by omega)) (by omega)
    have u52 := CI_b c43 (k := 309) (j := 20) bd_309_20
    have u53 := CI_b c43 (k := 309) (j := 36) bd_309_36
    have u54 := CI_b c43 (k := 309) (j := 43) bd_309_43
    have u55 := CI_b c43 (k := 309) (j := 44) bd_309_44
    have u56 := CI_b c43 (k := 309) (j := 58) bd_309_58
    have u57 := CI_b c43 (k := 316) (j := 0) bd_316_0
    have u58 := CI_b c43 (k := 329) (j := 0) bd_329_0
    have u59 := CI_b c43 (k := 329) (j := 1) bd_329_1
    have t60 : s42 309 20 = r0 309 20 := f44 309 20 (by decide)
    have t61 : s42 309 36 = r0 309 36 := f44 309 36 (by decide)
    have t62 : s42 309 43 = r0 309 43 := f44 309 43 (by decide)
    have t63 : s42 309 44 = r0 309 44 := f44 309 44 (by decide)
    have t64 : s42 309 58 = r0 309 58 := f44 309 58 (by decide)
    have t65 : s42 316 0 = r0 316 0 := f44 316 0 (by decide)
    have t66 : s42 329 0 = r0 329 0 := f44 329 0 (by decide)
    have t67 : s42 329 1 = r0 329 1 := f44 329 1 (by decide)
    exact T_ret ⟨c43, f44, g47, (by first | exact g48 | exact y_DD.z (by omega) (by omega)), g49, (by first | exact g50 | exact y_K.b0 (by omega) | exact y_K.k0 (by omega) | exact y_K.bk (by omega)), (by first | exact g51 | exact y_YM.b0 (by omega) | exact y_YM.k0 (by omega) | exact y_YM.bk (by omega)), ⟨y45, rfl, by omega, by omega⟩⟩
  · exact T_ret ⟨c18, f20, r36, (by first | exact r37 | exact y_DD.z (by omega) (by omega)), r38, (by first | exact r39 | exact y_K.b0 (by omega) | exact y_K.k0 (by omega) | exact y_K.bk (by omega)), (by first | exact r40 | exact y_YM.b0 (by omega) | exact y_YM.k0 (by omega) | exact y_YM.bk (by omega)), ⟨0, rfl, by omega, by omega⟩⟩
theorem sf_X12_marks_309Y {fu : Nat} (hfu : 8589934592 ≤ fu) (r0 : z_M) (c0 : z_CI r0) (a1 : Int) (b1 : -2147483648 ≤ a1 ∧ a1 ≤ 2147483647) (p0 : y_TA r0) (p1 : y_DD r0) (p2 : y_B r0) (p3 : y_K r0) (p4 : y_YM r0) : z_T (fX12_marks fu r0 309 a1) (P_X12_marks_309Y r0) := by
  refine T_of (fX12_marks.eq_1 ..) ?_
  have u1 := CI_b c0 (k := 309) (j := 20) bd_309_20
  have u2 := CI_b c0 (k := 309) (j := 36) bd_309_36
  have u3 := CI_b c0 (k := 309) (j := 43) bd_309_43
  have u4 := CI_b c0 (k := 309) (j := 44) bd_309_44
  have u5 := CI_b c0 (k := 309) (j := 58) bd_309_58
  have u6 := CI_b c0 (k := 316) (j := 0) bd_316_0
  have u7 := CI_b c0 (k := 329) (j := 0) bd_329_0
  have u8 := CI_b c0 (k := 329) (j := 1) bd_329_1
  refine T_if1 (by decide +kernel) ?_
  refine T_upg c0 bd_309_0 (by omega) (fun s9 c10 g12 g13 e14 => ?_)
  have f11 := z_Fr.upf (R := R_X12_marks_309) z_Fr.rf g12 g13 (Or.inr (⟨rfl, by decide⟩))
  have t15 : s9 309 20 = r0 309 20 := g13 20 (by decide)
  have t16 : s9 309 36 = r0 309 36 := g13 36 (by decide)
  have t17 : s9 309 43 = r0 309 43 := g13 43 (by decide)
  have t18 : s9 309 44 = r0 309 44 := g13 44 (by decide)
  have t19 : s9 309 58 = r0 309 58 := g13 58 (by decide)
  have t20 : s9 316 0 = r0 316 0 := g12 316 0 (by decide)
  have t21 : s9 329 0 = r0 329 0 := g12 329 0 (by decide)
  have t22 : s9 329 1 = r0 329 1 := g12 329 1 (by decide)
  have r23 := y_TA.fr p0 (fun a b h => g12 a b (by omega)) (fun a b h => g12 a b (by omega)) (fun a b h => g12 a b (by omega))
  have r24 := y_DD.fr p1 (g12 329 0 (by decide)) (g12 329 1 (by decide)) (fun b => g12 359 b (by decide)) (fun b => g12 374 b (by decide))
  have r25 := y_B.fr p2 (g13 20 (by decide)) (g12 316 0 (by decide)) (fun b => g12 3220 b (by decide)) (fun b => g12 3221 b (by decide)) (fun b => g12 3222 b (by decide)) (fun b => g12 361 b (by decide))
  have r26 := y_K.fr p3 (by omega) (by omega) (g13 44 (by decide)) (g13 20 (by decide)) (g13 58 (by decide)) (fun b => g12 3438 b (by decide)) (fun b => g12 3220 b (by decide)) (fun a b h => g12 a b (by omega))
  have r27 := y_YM.fr p4 (by omega) (g13 44 (by decide)) (g13 20 (by decide)) (g13 58 (by decide)) (fun b => g12 312 b (by decide)) (fun b => g12 331 b (by decide)) (fun b => g12 346 b (by decide)) (fun b => g12 361 b (by decide)) (fun b => g12 391 b (by decide)) (fun a b h => g12 a b (by omega)) (fun a b h => g12 a b (by omega)) (fun b => g12 3438 b (by decide)) (fun a b h => g12 a b (by omega)) (fun a b h => g12 a b (by omega))
  refine T_useI (sf_X12_in hfu s9 c10 a1 0 1 (by omega) (by omega) (by omega)) (fun v33 s28 hq => ?_)
  obtain ⟨c29, f30, ⟨x32, rfl, b34, b35, o36⟩⟩ := hq
  refine T_vI ?_
  have q37 := z_Fr.eq (fun a b h => h) f30
  subst q37
  refine T_ite (fun h38 => ?_) (fun h38 => ?_)
  · exact sj_X12_marks_309Y_J20 hfu r0 s9 c10 f11 a1 0 (by omega) (by omega) r23 (by first | exact r24 | exact y_DD.z (by omega) (by omega)) r25 (by first | exact r26 | exact y_K.b0 (by omega) | exact y_K.k0 (by omega) | exact y_K.bk (by omega)) (by first | exact r27 | exact y_YM.b0 (by omega) | exact y_YM.k0 (by omega) | exact y_YM.bk (by omega))
  · exact sj_X12_marks_309Y_J20 hfu r0 s9 c10 f11 a1 1 (by omega) (by omega) r23 (by first | exact r24 | exact y_DD.z (by omega) (by omega)) r25 (by first | exact r26 | exact y_K.b0 (by omega) | exact y_K.k0 (by omega) | exact y_K.bk (by omega)) (by first | exact r27 | exact y_YM.b0 (by omega) | exact y_YM.k0 (by omega) | exact y_YM.bk (by omega))
abbrev P_X12_lend_309Y (r0 : z_M) : z_V → z_M → Prop := fun v s' => z_CI s' ∧ z_Fr R_X12_lend_309 r0 s' ∧ (y_SE r0 s') ∧ (y_TA s') ∧ (y_DD s') ∧ (y_B s') ∧ (y_K s') ∧ (y_YM s') ∧ (∃ x, v = vI x ∧ -2147483648 ≤ x ∧ x ≤ 2147483647)
theorem sj_X12_lend_309Y_J107 {fu : Nat} (hfu : 8589934592 ≤ fu) (r0 s : z_M) (c : z_CI s) (f : z_Fr R_X12_lend_309 r0 s) (a1 : Int) (a2 : Int) (a3 : Int) (a4 : Int) (a5 : Int) (b1 : -2147483648 ≤ a1 ∧ a1 ≤ 2147483647) (b2 : -2147483648 ≤ a2 ∧ a2 ≤ 2147483647) (b3 : -2147483648 ≤ a3 ∧ a3 ≤ 2147483647) (b4 : -2147483648 ≤ a4 ∧ a4 ≤ 2147483647) (b5 : 0 ≤ a5 ∧ a5 ≤ 6) (p0 : y_S2 r0 s) (p1 : y_TA s) (p2 : y_DD s) (p3 : y_B s) (p4 : y_K s) (M : Int) (pm : 2147483647 - a5 ≤ M) {r : z_M → Int → Int → Int → z_O} {k : z_M → Int → Int → z_O} (hr : ∀ (s' : z_M) (v3 : Int) (v4 : Int) (v5 : Int), z_CI s' → z_Fr R_X12_lend_309 r0 s' → (-2147483648 ≤ v3 ∧ v3 ≤ 2147483647) → (-2147483648 ≤ v4 ∧ v4 ≤ 2147483647) → (0 ≤ v5 ∧ v5 ≤ 7) → (y_S2 r0 s') → (y_TA s') → (y_DD s') → (y_B s') → (y_K s') → (2147483647 - v5 < M) → z_T (r s' v3 v4 v5) (P_X12_lend_309Y r0)) (hk : ∀ (s' : z_M) (v3 : Int) (v4 : Int), z_CI s' → z_Fr R_X12_lend_309 r0 s' → (-2147483648 ≤ v3 ∧ v3 ≤ 2147483647) → (-2147483648 ≤ v4 ∧ v4 ≤ 2147483647) → (y_S2 r0 s') → (y_TA s') → (y_DD s') → (y_B s') → (y_K s') → z_T (k s' v3 v4) (P_X12_lend_309Y r0)) : z_T (fX12_lend_J107 fu s 309 a1 a2 a3 a4 a5 r k) (P_X12_lend_309Y r0) := by
  refine T_of (fX12_lend_J107.eq_1 ..) ?_
  have u1 := CI_b c (k := 309) (j := 20) bd_309_20
  have u2 := CI_b c (k := 309) (j := 36) bd_309_36
  have u3 := CI_b c (k := 309) (j := 43) bd_309_43
  have u4 := CI_b c (k := 309) (j := 44) bd_309_44
  have u5 := CI_b c (k := 309) (j := 58) bd_309_58
  have u6 := CI_b c (k := 316) (j := 0) bd_316_0
  have u7 := CI_b c (k := 329) (j := 0) bd_329_0
  have u8 := CI_b c (k := 329) (j := 1) bd_329_1
  have t9 : s 309 20 = r0 309 20 := f 309 20 (by decide)
  have t10 : s 309 36 = r0 309 36 := f 309 36 (by decide)
  have t11 : s 309 44 = r0 309 44 := f 309 44 (by decide)
  have t12 : s 309 58 = r0 309 58 := f 309 58 (by decide)
  have t13 : s 316 0 = r0 316 0 := f 316 0 (by decide)
  have t14 : s 329 0 = r0 329 0 := f 329 0 (by decide)
  have t15 : s 329 1 = r0 329 1 := f 329 1 (by decide)
  refine T_leq (fun x16 e17 => ?_)
  first | (have w18 := z_wx e17 (by omega)) | (have w18 := z_wr e17)
  exact hr s a3 a4 x16 c f (by omega) (by omega) (by omega) p0 p1 (by first | exact p2 | exact y_DD.z (by omega) (by omega)) p3 (by first | exact p4 | exact y_K.b0 (by omega) | exact y_K.k0 (by omega) | exact y_K.bk (by omega)) (by omega)
theorem sj_X12_lend_309Y_J100 {fu : Nat} (hfu : 8589934592 ≤ fu) (r0 s : z_M) (c : z_CI s) (f : z_Fr R_X12_lend_309 r0 s) (a1 : Int) (a2 : Int) (a5 : Int) (a6 : Int) (b1 : -2147483648 ≤ a1 ∧ a1 ≤ 2147483647) (b2 : -2147483648 ≤ a2 ∧ a2 ≤ 2147483647) (b5 : 0 ≤ a5 ∧ a5 ≤ 6) (b6 : -2147483648 ≤ a6 ∧ a6 ≤ 2147483647) (p0 : y_S2 r0 s) (p1 : y_TA s) (p2 : y_DD s) (p3 : y_B s) (p4 : y_K s) (M : Int) (pm : 2147483647 - a5 ≤ M) {r : z_M → Int → Int → Int → z_O} {k : z_M → Int → Int → z_O} (hr : ∀ (s' : z_M) (v3 : Int) (v4 : Int) (v5 : Int), z_CI s' → z_Fr R_X12_lend_309 r0 s' → (-2147483648 ≤ v3 ∧ v3 ≤ 2147483647) → (-2147483648 ≤ v4 ∧ v4 ≤ 2147483647) → (0 ≤ v5 ∧ v5 ≤ 7) → (y_S2 r0 s') → (y_TA s') → (y_DD s') → (y_B s') → (y_K s') → (2147483647 - v5 < M) → z_T (r s' v3 v4 v5) (P_X12_lend_309Y r0)) (hk : ∀ (s' : z_M) (v3 : Int) (v4 : Int), z_CI s' → z_Fr R_X12_lend_309 r0 s' → (-2147483648 ≤ v3 ∧ v3 ≤ 2147483647) → (-2147483648 ≤ v4 ∧ v4 ≤ 2147483647) → (y_S2 r0 s') → (y_TA s') → (y_DD s') → (y_B s') → (y_K s') → z_T (k s' v3 v4) (P_X12_lend_309Y r0)) : z_T (fX12_lend_J100 fu s 309 a1 a2 a5 a6 r k) (P_X12_lend_309Y r0) := by
  refine T_of (fX12_lend_J100.eq_1 ..) ?_
  have u1 := CI_b c (k := 309) (j := 20) bd_309_20
  have u2 := CI_b c (k := 309) (j := 36) bd_309_36
  have u3 := CI_b c (k := 309) (j := 43) bd_309_43
  have u4 := CI_b c (k := 309) (j := 44) bd_309_44
  have u5 := CI_b c (k := 309) (j := 58) bd_309_58
  have u6 := CI_b c (k := 316) (j := 0) bd_316_0
  have u7 := CI_b c (k := 329) (j := 0) bd_329_0
  have u8 := CI_b c (k := 329) (j := 1) bd_329_1
  have t9 : s 309 20 = r0 309 20 := f 309 20 (by decide)
  have t10 : s 309 36 = r0 309 36 := f 309 36 (by decide)
  have t11 : s 309 44 = r0 309 44 := f 309 44 (by decide)
  have t12 : s 309 58 = r0 309 58 := f 309 58 (by decide)
  have t13 : s 316 0 = r0 316 0 := f 316 0 (by decide)
  have t14 : s 329 0 = r0 329 0 := f 329 0 (by decide)
  have t15 : s 329 1 = r0 329 1 := f 329 1 (by decide)
  exact sj_X12_lend_309Y_J107 hfu r0 s c f a1 a2 a5 a6 a5 (by omega) (by omega) (by omega) (by omega) (by omega) p0 p1 (by first | exact p2 | exact y_DD.z (by omega) (by omega)) p3 (by first | exact p4 | exact y_K.b0 (by omega) | exact y_K.k0 (by omega) | exact y_K.bk (by omega)) M (by omega) (fun s' v3 v4 v5 c' f' w3 w4 w5 z0 z1 z2 z3 z4 pg => hr s' v3 v4 v5 c' f' w3 w4 w5 z0 z1 z2 z3 z4 (by omega)) hk
theorem sj_X12_lend_309Y_J82 {fu : Nat} (hfu : 8589934592 ≤ fu) (r0 s : z_M) (c : z_CI s) (f : z_Fr R_X12_lend_309 r0 s) (a1 : Int) (a2 : Int) (a3 : Int) (a4 : Int) (a5 : Int) (t0 : Int) (b1 : -2147483648 ≤ a1 ∧ a1 ≤ 2147483647) (b2 : -2147483648 ≤ a2 ∧ a2 ≤ 2147483647) (b3 : -2147483648 ≤ a3 ∧ a3 ≤ 2147483647) (b4 : -2147483648 ≤ a4 ∧ a4 ≤ 2147483647) (b5 : 0 ≤ a5 ∧ a5 ≤ 6) (d0 : -2147483648 ≤ t0 ∧ t0 ≤ 2147483647) (p0 : y_S2 r0 s) (p1 : y_TA s) (p2 : y_DD s) (p3 : y_B s) (p4 : y_K s) (M : Int) (pm : 2147483647 - a5 ≤ M) {r : z_M → Int → Int → Int → z_O} {k : z_M → Int → Int → z_O} (hr : ∀ (s' : z_M) (v3 : Int) (v4 : Int) (v5 : Int), z_CI s' → z_Fr R_X12_lend_309 r0 s' → (-2147483648 ≤ v3 ∧ v3 ≤ 2147483647) → (-2147483648 ≤ v4 ∧ v4 ≤ 2147483647) → (0 ≤ v5 ∧ v5 ≤ 7) → (y_S2 r0 s') → (y_TA s') → (y_DD s') → (y_B s') → (y_K s') → (2147483647 - v5 < M) → z_T (r s' v3 v4 v5) (P_X12_lend_309Y r0)) (hk : ∀ (s' : z_M) (v3 : Int) (v4 : Int), z_CI s' → z_Fr R_X12_lend_309 r0 s' → (-2147483648 ≤ v3 ∧ v3 ≤ 2147483647) → (-2147483648 ≤ v4 ∧ v4 ≤ 2147483647) → (y_S2 r0 s') → (y_TA s') → (y_DD s') → (y_B s') → (y_K s') → z_T (k s' v3 v4) (P_X12_lend_309Y r0)) : z_T (fX12_lend_J82 fu s 309 a1 a2 a3 a4 a5 t0 r k) (P_X12_lend_309Y r0) := by
  refine T_of (fX12_lend_J82.eq_1 ..) ?_
  have u1 := CI_b c (k := 309) (j := 20) bd_309_20
  have u2 := CI_b c (k := 309) (j := 36) bd_309_36
  have u3 := CI_b c (k := 309) (j := 43) bd_309_43
  have u4 := CI_b c (k := 309) (j := 44) bd_309_44
  have u5 := CI_b c (k := 309) (j := 58) bd_309_58
  have u6 := CI_b c (k := 316) (j := 0) bd_316_0
  have u7 := CI_b c (k := 329) (j := 0) bd_329_0
  have u8 := CI_b c (k := 329) (j := 1) bd_329_1
  have t9 : s 309 20 = r0 309 20 := f 309 20 (by decide)
  have t10 : s 309 36 = r0 309 36 := f 309 36 (by decide)
  have t11 : s 309 44 = r0 309 44 := f 309 44 (by decide)
  have t12 : s 309 58 = r0 309 58 := f 309 58 (by decide)
  have t13 : s 316 0 = r0 316 0 := f 316 0 (by decide)
  have t14 : s 329 0 = r0 329 0 := f 329 0 (by decide)
  have t15 : s 329 1 = r0 329 1 := f 329 1 (by decide)
  refine T_ite (fun h16 => ?_) (fun h16 => ?_)
  · exact sj_X12_lend_309Y_J100 hfu r0 s c f a1 a2 a5 t0 (by omega) (by omega) (by omega) (by omega) p0 p1 (by first | exact p2 | exact y_DD.z (by omega) (by omega)) p3 (by first | exact p4 | exact y_K.b0 (by omega) | exact y_K.k0 (by omega) | exact y_K.bk (by omega)) M (by omega) (fun s' v3 v4 v5 c' f' w3 w4 w5 z0 z1 z2 z3 z4 pg => hr s' v3 v4 v5 c' f' w3 w4 w5 z0 z1 z2 z3 z4 (by omega)) hk
  · refine T_ite (fun h17 => ?_) (fun h17 => ?_)
    · exact sj_X12_lend_309Y_J100 hfu r0 s c f a1 a2 a5 t0 (by omega) (by omega) (by omega) (by omega) p0 p1 (by first | exact p2 | exact y_DD.z (by omega) (by omega)) p3 (by first | exact p4 | exact y_K.b0 (by omega) | exact y_K.k0 (by omega) | exact y_K.bk (by omega)) M (by omega) (fun s' v3 v4 v5 c' f' w3 w4 w5 z0 z1 z2 z3 z4 pg => hr s' v3 v4 v5 c' f' w3 w4 w5 z0 z1 z2 z3 z4 (by omega)) hk
    · exact sj_X12_lend_309Y_J107 hfu r0 s c f a1 a2 a3 a4 a5 (by omega) (by omega) (by omega) (by omega) (by omega) p0 p1 (by first | exact p2 | exact y_DD.z (by omega) (by omega)) p3 (by first | exact p4 | exact y_K.b0 (by omega) | exact y_K.k0 (by omega) | exact y_K.bk (by omega)) M (by omega) (fun s' v3 v4 v5 c' f' w3 w4 w5 z0 z1 z2 z3 z4 pg => hr s' v3 v4 v5 c' f' w3 w4 w5 z0 z1 z2 z3 z4 (by omega)) hk
theorem sl_X12_lend_309Y_L45 {fu : Nat} (hfu : 8589934592 ≤ fu) (r0 : z_M) (a1 : Int) (a2 : Int) (b1 : -2147483648 ≤ a1 ∧ a1 ≤ 2147483647) (b2 : -2147483648 ≤ a2 ∧ a2 ≤ 2147483647) {k : z_M → Int → Int → z_O} (hk : ∀ (s' : z_M) (v3 : Int) (v4 : Int), z_CI s' → z_Fr R_X12_lend_309 r0 s' → (-2147483648 ≤ v3 ∧ v3 ≤ 2147483647) → (-2147483648 ≤ v4 ∧ v4 ≤ 2147483647) → (y_S2 r0 s') → (y_TA s') → (y_DD s') → (y_B s') → (y_K s') → z_T (k s' v3 v4) (P_X12_lend_309Y r0)) : ∀ (F : Nat) (s : z_M) (a3 : Int) (a4 : Int) (a5 : Int), z_CI s → z_Fr R_X12_lend_309 r0 s → (-2147483648 ≤ a3 ∧ a3 ≤ 2147483647) → (-2147483648 ≤ a4 ∧ a4 ≤ 2147483647) → (0 ≤ a5 ∧ a5 ≤ 7) → (y_S2 r0 s) → (y_TA s) → (y_DD s) → (y_B s) → (y_K s) → (2147483647 - a5 < (F : Int)) → z_T (fX12_lend_L45 fu 309 a1 a2 F s a3 a4 a5 k) (P_X12_lend_309Y r0) := by
  intro F
  induction F with
  | zero =>
    intro s a3 a4 a5 c f b3 b4 b5 i0 i1 i2 i3 i4 hm
    have u68 := CI_b c (k := 309) (j := 20) bd_309_20
    have u69 := CI_b c (k := 309) (j := 36) bd_309_36
    have u70 := CI_b c (k := 309) (j := 43) bd_309_43
    have u71 := CI_b c (k := 309) (j := 44) bd_309_44
    have u72 := CI_b c (k := 309) (j := 58) bd_309_58
    have u73 := CI_b c (k := 316) (j := 0) bd_316_0
    have u74 := CI_b c (k := 329) (j := 0) bd_329_0
    have u75 := CI_b c (k := 329) (j := 1) bd_329_1
    exfalso; omega
  | succ F ih =>
    intro s a3 a4 a5 c f b3 b4 b5 i0 i1 i2 i3 i4 hm
    refine T_of (fX12_lend_L45.eq_2 ..) ?_
    have u1 := CI_b c (k := 309) (j := 20) bd_309_20
    have u2 := CI_b c (k := 309) (j := 36) bd_309_36
    have u3 := CI_b c (k := 309) (j := 43) bd_309_43
    have u4 := CI_b c (k := 309) (j := 44) bd_309_44
    have u5 := CI_b c (k := 309) (j := 58) bd_309_58
    have u6 := CI_b c (k := 316) (j := 0) bd_316_0
    have u7 := CI_b c (k := 329) (j := 0) bd_329_0
    have u8 := CI_b c (k := 329) (j := 1) bd_329_1
    have t9 : s 309 20 = r0 309 20 := f 309 20 (by decide)
    have t10 : s 309 36 = r0 309 36 := f 309 36 (by decide)
    have t11 : s 309 44 = r0 309 44 := f 309 44 (by decide)
    have t12 : s 309 58 = r0 309 58 := f 309 58 (by decide)
    have t13 : s 316 0 = r0 316 0 := f 316 0 (by decide)
    have t14 : s 329 0 = r0 329 0 := f 329 0 (by decide)
    have t15 : s 329 1 = r0 329 1 := f 329 1 (by decide)
    refine T_ite (fun h16 => ?_) (fun h16 => ?_)
    · exact hk s a3 a4 c f (by omega) (by omega) i0 i1 (by first | exact i2 | exact y_DD.z (by omega) (by omega)) i3 (by first | exact i4 | exact y_K.b0 (by omega) | exact y_K.k0 (by omega) | exact y_K.bk (by omega))
    · refine T_if1 (by decide +kernel) ?_
      refine T_let 312 (by decide +kernel) ?_
      refine T_if1 (z_ixl (n := 9) (by decide +kernel) (by omega) (by omega)) ?_
      refine T_upg c (bdr_312 2) (by omega) (fun s17 c18 g20 g21 e22 => ?_)
      have f19 := z_Fr.up (R := R_X12_lend_309) f g20 (fun _ => (Or.inl (⟨by decide, by decide⟩)))
      have t23 : s17 309 20 = s 309 20 := g20 309 20 (by decide)
      have t24 : s17 309 36 = s 309 36 := g20 309 36 (by decide)
      have t25 : s17 309 43 = s 309 43 := g20 309 43 (by decide)
      have t26 : s17 309 44 = s 309 44 := g20 309 44 (by decide)
      have t27 : s17 309 58 = s 309 58 := g20 309 58 (by decide)
      have t28 : s17 316 0 = s 316 0 := g20 316 0 (by decide)
      have t29 : s17 329 0 = s 329 0 := g20 329 0 (by decide)
      have t30 : s17 329 1 = s 329 1 := g20 329 1 (by decide)
      have r31 := y_TA.fr i1 (fun a b h => g20 a b (by omega)) (fun a b h => g20 a b (by omega)) (fun a b h => g20 a b (by omega))
      have r32 := y_DD.fr i2 (g20 329 0 (by decide)) (g20 329 1 (by decide)) (fun b => g20 359 b (by decide)) (fun b => g20 374 b (by decide))
      have r33 := y_B.fr i3 (g20 309 20 (by decide)) (g20 316 0 (by decide)) (fun b => g20 3220 b (by decide)) (fun b => g20 3221 b (by decide)) (fun b => g20 3222 b (by decide)) (fun b => g20 361 b (by decide))
      have r34 := y_K.fr i4 (by omega) (by omega) (g20 309 44 (by decide)) (g20 309 20 (by decide)) (g20 309 58 (by decide)) (fun b => g20 3438 b (by decide)) (fun b => g20 3220 b (by decide)) (fun a b h => g20 a b (by omega))
      have r35 := y_S2.st i0 g21
      refine T_if1 (by decide +kernel) ?_
      refine T_leq (fun x36 e37 => ?_)
      have u38 := CI_b c18 (k := 309) (j := 20) bd_309_20
      refine T_ite (fun h39 => ?_) (fun h39 => ?_)
      · refine T_if1 (by decide +kernel) ?_
        refine T_leq (fun x40 e41 => ?_)
        have q42 : x36 = x40 := e37.symm.trans e41
        subst q42
        refine T_leq (fun x43 e44 => ?_)
        first | (have w45 := z_wx e44 (by omega)) | (have w45 := z_wr e44)
        refine T_if1 (by decide +kernel) ?_
        refine T_useI (sf_X12_lays_309 hfu s17 c18 0 x43 (by omega) (by omega) r33 (by omega) (by omega)) (fun v51 s46 hq => ?_)
        obtain ⟨c47, f48, o52, ⟨x50, rfl, b53, b54⟩⟩ := hq
        refine T_vI ?_
        have f49 := z_Fr.tr (R := R_X12_lend_309) f19 f48 rs_X12_lays_309__X12_lend_309
        have t55 : s46 309 20 = x36 := (f48 309 20 (by decide)).trans e37
        have t56 : s46 309 36 = s 309 36 := (f48 309 36 (by decide)).trans t24
        have t57 : s46 309 43 = s 309 43 := (f48 309 43 (by decide)).trans t25
        have t58 : s46 309 44 = s 309 44 := (f48 309 44 (by decide)).trans t26
        have t59 : s46 309 58 = s 309 58 := (f48 309 58 (by decide)).trans t27
        have t60 : s46 316 0 = s 316 0 := (f48 316 0 (by decide)).trans t28
        have t61 : s46 329 0 = s 329 0 := (f48 329 0 (by decide)).trans t29
        have t62 : s46 329 1 = s 329 1 := (f48 329 1 (by decide)).trans t30
        have r63 := y_TA.fr r31 (fun a b h => f48 a b (nz_X12_lays_309__316_328 a b h)) (fun a b h => f48 a b (nz_X12_lays_309__346_358 a b h)) (fun a b h => f48 a b (nz_X12_lays_309__361_373 a b h))
        have r64 := y_DD.fr r32 (f48 329 0 (by decide)) (f48 329 1 (by decide)) (fun b => f48 359 b (nr_X12_lays_309__359 b)) (fun b => f48 374 b (nr_X12_lays_309__374 b))
        have r65 := y_B.fr r33 (f48 309 20 (by decide)) (f48 316 0 (by decide)) (fun b => f48 3220 b (nr_X12_lays_309__3220 b)) (fun b => f48 3221 b (nr_X12_lays_309__3221 b)) (fun b => f48 3222 b (nr_X12_lays_309__3222 b)) (fun b => f48 361 b (nr_X12_lays_309__361 b))
        have r66 := y_K.fr r34 (by omega) (by omega) (f48 309 44 (by decide)) (f48 309 20 (by decide)) (f48 309 58 (by decide)) (fun b => f48 3438 b (nr_X12_lays_309__3438 b)) (fun b => f48 3220 b (nr_X12_lays_309__3220 b)) (fun a b h => f48 a b (nz_X12_lays_309__3452_3651 a b h))
        have r67 := y_S2.fr r35 (fun b => f48 312 b (nr_X12_lays_309__312 b))
        clear t24
        clear t25
        clear t26
        clear t27
        clear t28
        clear t29
        clear t30
        exact sj_X12_lend_309Y_J82 hfu r0 s46 c47 f49 a1 a2 a3 a4 a5 x50 (by omega) (by omega) (by omega) (by omega) (by omega) (by omega) r67 r63 (by first | exact r64 | exact y_DD.z (by omega) (by omega)) r65 (by first | exact r66 | exact y_K.b0 (by omega) | exact y_K.k0 (by omega) | exact y_K.bk (by omega)) (2147483647 - a5) (by omega) (fun s' v3 v4 v5 c' f' w3 w4 w5 z0 z1 z2 z3 z4 pg => ih s' v3 v4 v5 c' f' w3 w4 w5 z0 z1 z2 z3 z4 (by omega)) hk
      · exact sj_X12_lend_309Y_J82 hfu r0 s17 c18 f19 a1 a2 a3 a4 a5 0 (by omega) (by omega) (by omega) (by omega) (by omega) (by omega) r35 r31 (by first | exact r32 | exact y_DD.z (by omega) (by omega)) r33 (by first | exact r34 | exact y_K.b0 (by omega) | exact y_K.k0 (by omega) | exact y_K.bk (by omega)) (2147483647 - a5) (by omega) (fun s' v3 v4 v5 c' f' w3 w4 w5 z0 z1 z2 z3 z4 pg => ih s' v3 v4 v5 c' f' w3 w4 w5 z0 z1 z2 z3 z4 (by omega)) hk
theorem sj_X12_lend_309Y_J135 {fu : Nat} (hfu : 8589934592 ≤ fu) (r0 s : z_M) (c : z_CI s) (f : z_Fr R_X12_lend_309 r0 s) (t0 : Int) (d0 : -2147483648 ≤ t0 ∧ t0 ≤ 2147483647) (p0 : y_SE r0 s) (p1 : y_YM s) (p2 : y_TA s) (p3 : y_DD s) (p4 : y_B s) (p5 : y_K s) : z_T (fX12_lend_J135 fu s t0) (P_X12_lend_309Y r0) := by
  refine T_of (fX12_lend_J135.eq_1 ..) ?_
  have u1 := CI_b c (k := 309) (j := 20) bd_309_20
  have u2 := CI_b c (k := 309) (j := 36) bd_309_36
  have u3 := CI_b c (k := 309) (j := 43) bd_309_43
  have u4 := CI_b c (k := 309) (j := 44) bd_309_44
  have u5 := CI_b c (k := 309) (j := 58) bd_309_58
  have u6 := CI_b c (k := 316) (j := 0) bd_316_0
  have u7 := CI_b c (k := 329) (j := 0) bd_329_0
  have u8 := CI_b c (k := 329) (j := 1) bd_329_1
  have t9 : s 309 20 = r0 309 20 := f 309 20 (by decide)
  have t10 : s 309 36 = r0 309 36 := f 309 36 (by decide)
  have t11 : s 309 44 = r0 309 44 := f 309 44 (by decide)
  have t12 : s 309 58 = r0 309 58 := f 309 58 (by decide)
  have t13 : s 316 0 = r0 316 0 := f 316 0 (by decide)
  have t14 : s 329 0 = r0 329 0 := f 329 0 (by decide)
  have t15 : s 329 1 = r0 329 1 := f 329 1 (by decide)
  exact T_ret ⟨c, f, p0, p2, (by first | exact p3 | exact y_DD.z (by omega) (by omega)), p4, (by first | exact p5 | exact y_K.b0 (by omega) | exact y_K.k0 (by omega) | exact y_K.bk (by omega)), (by first | exact p1 | exact y_YM.b0 (by omega) | exact y_YM.k0 (by omega) | exact y_YM.bk (by omega)), ⟨t0, rfl, by omega, by omega⟩⟩
set_option maxHeartbeats 4000000 in
theorem sj_X12_lend_309Y_J20 {fu : Nat} (hfu : 8589934592 ≤ fu) (r0 s : z_M) (c : z_CI s) (f : z_Fr R_X12_lend_309 r0 s) (a1 : Int) (t1 : Int) (b1 : -2147483648 ≤ a1 ∧ a1 ≤ 2147483647) (d1 : 0 ≤ t1 ∧ t1 ≤ 1) (p0 : y_SE r0 s) (p1 : y_YM s) (p2 : y_TA s) (p3 : y_DD s) (p4 : y_B s) (p5 : y_K s) : z_T (fX12_lend_J20 fu s 309 a1 309 t1) (P_X12_lend_309Y r0) := by
  refine T_of (fX12_lend_J20.eq_1 ..) ?_
  have u1 := CI_b c (k := 309) (j := 20) bd_309_20
  have u2 := CI_b c (k := 309) (j := 36) bd_309_36
  have u3 := CI_b c (k := 309) (j := 43) bd_309_43
  have u4 := CI_b c (k := 309) (j := 44) bd_309_44
  have u5 := CI_b c (k := 309) (j := 58) bd_309_58
  have u6 := CI_b c (k := 316) (j := 0) bd_316_0
  have u7 := CI_b c (k := 329) (j := 0) bd_329_0
  have u8 := CI_b c (k := 329) (j := 1) bd_329_1
  have t9 : s 309 20 = r0 309 20 := f 309 20 (by decide)
  have t10 : s 309 36 = r0 309 36 := f 309 36 (by decide)
  have t11 : s 309 44 = r0 309 44 := f 309 44 (by decide)
  have t12 : s 309 58 = r0 309 58 := f 309 58 (by decide)
  have t13 : s 316 0 = r0 316 0 := f 316 0 (by decide)
  have t14 : s 329 0 = r0 329 0 := f 329 0 (by decide)
  have t15 : s 329 1 = r0 329 1 := f 329 1 (by decide)
  refine T_if1 (by decide +kernel) ?_
  refine T_useI (sf_X12_bad_309 hfu s c t1 1 1 (by omega) (by omega) (by omega) (by omega)) (fun v21 s16 hq => ?_)
  obtain ⟨c17, f18, o22, ⟨x20, rfl, b23, b24, o25, o26⟩⟩ := hq
  refine T_vI ?_
  have f19 := z_Fr.tr (R := R_X12_lend_309) f f18 rs_X12_bad_309__X12_lend_309
  have t27 : s16 309 20 = s 309 20 := f18 309 20 (by decide)
  have t28 : s16 309 36 = s 309 36 := f18 309 36 (by decide)
  have t29 : s16 309 43 = s 309 43 := f18 309 43 (by decide)
  have t30 : s16 309 44 = s 309 44 := f18 309 44 (by decide)
  have t31 : s16 309 58 = s 309 58 := f18 309 58 (by decide)
  have t32 : s16 316 0 = s 316 0 := f18 316 0 (by decide)
  have t33 : s16 329 0 = s 329 0 := f18 329 0 (by decide)
  have t34 : s16 329 1 = s 329 1 := f18 329 1 (by decide)
  have r35 := y_SE.fr p0 (fun b => f18 312 b (nr_X12_bad_309__312 b))
  have r36 := y_YM.fr p1 (by omega) (f18 309 44 (by decide)) (f18 309 20 (by decide)) (f18 309 58 (by decide)) (fun b => f18 312 b (nr_X12_bad_309__312 b)) (fun b => f18 331 b (nr_X12_bad_309__331 b)) (fun b => f18 346 b (nr_X12_bad_309__346 b)) (fun b => f18 361 b (nr_X12_bad_309__361 b)) (fun b => f18 391 b (nr_X12_bad_309__391 b)) (fun a b h => f18 a b (nz_X12_bad_309__407_606 a b h)) (fun a b h => f18 a b (nz_X12_bad_309__3220_3223 a b h)) (fun b => f18 3438 b (nr_X12_bad_309__3438 b)) (fun a b h => f18 a b (nz_X12_bad_309__3441_3450 a b h)) (fun a b h => f18 a b (nz_X12_bad_309__3452_3651 a b h))
  have r37 := y_TA.fr p2 (fun a b h => f18 a b (nz_X12_bad_309__316_328 a b h)) (fun a b h => f18 a b (nz_X12_bad_309__346_358 a b h)) (fun a b h => f18 a b (nz_X12_bad_309__361_373 a b h))
  have r38 := y_DD.fr p3 (f18 329 0 (by decide)) (f18 329 1 (by decide)) (fun b => f18 359 b (nr_X12_bad_309__359 b)) (fun b => f18 374 b (nr_X12_bad_309__374 b))
  have r39 := y_B.fr p4 (f18 309 20 (by decide)) (f18 316 0 (by decide)) (fun b => f18 3220 b (nr_X12_bad_309__3220 b)) (fun b => f18 3221 b (nr_X12_bad_309__3221 b)) (fun b => f18 3222 b (nr_X12_bad_309__3222 b)) (fun b => f18 361 b (nr_X12_bad_309__361 b))
  have r40 := y_K.fr p5 (by omega) (by omega) (f18 309 44 (by decide)) (f18 309 20 (by decide)) (f18 309 58 (by decide)) (fun b => f18 3438 b (nr_X12_bad_309__3438 b)) (fun b => f18 3220 b (nr_X12_bad_309__3220 b)) (fun a b h => f18 a b (nz_X12_bad_309__3452_3651 a b h))
  refine T_ite (fun h41 => ?_) (fun h41 => ?_)
  · refine T_if1 (by decide +kernel) ?_
    refine T_let 312 (by decide +kernel) ?_
    refine T_if1 (z_ixl (n := 9) (by decide +kernel) (by omega) (by omega)) ?_
    refine T_leq (fun x42 e43 => ?_)
    have u44 := CI_b c17 (k := 312) (j := 2) (bdr_312 2)
    have n45 := y_SE.at r35 2
    refine sl_X12_lend_309Y_L45 hfu r0 a1 x42 (by omega) (by omega) (fun s46 y49 y50 c47 f48 b51 b52 g53 g54 g55 g56 g57 => ?_) fu s16 0 (-1) 0 c17 f19 (by omega) (by omega) (by omega) (by first | exact y_S2.of r35) r37 (by first | exact r38 | exact y_DD.z (by omega) (by omega)) r39 (by first | exact r40 | exact y_K.b0 (by omega) | exact y_K.k0 (by omega) | exact y_K.bk (by omega)) (by omega)
    have u58 := CI_b c47 (k := 309) (j := 20) bd_309_20
    have u59 := CI_b c47 (k := 309) (j := 36) bd_309_36
    have u60 := CI_b c47 (k := 309) (j := 43) bd_309_43
    have u61 := CI_b c47 (k := 309) (j := 44) bd_309_44
    have u62 := CI_b c47 (k := 309) (j := 58) bd_309_58
    have u63 := CI_b c47 (k := 316) (j := 0) bd_316_0
    have u64 := CI_b c47 (k := 329) (j := 0) bd_329_0
    have u65 := CI_b c47 (k := 329) (j := 1) bd_329_1
    have t66 : s46 309 20 = r0 309 20 := f48 309 20 (by decide)
    have t67 : s46 309 36 = r0 309 36 := f48 309 36 (by decide)
    have t68 : s46 309 44 = r0 309 44 := f48 309 44 (by decide)
    have t69 : s46 309 58 = r0 309 58 := f48 309 58 (by decide)
    have t70 : s46 316 0 = r0 316 0 := f48 316 0 (by decide)
    have t71 : s46 329 0 = r0 329 0 := f48 329 0 (by decide)
    have t72 : s46 329 1 = r0 329 1 := f48 329 1 (by decide)
    refine T_if1 (by decide +kernel) ?_
    refine T_let 312 (by decide +kernel) ?_
    refine T_if1 (z_ixl (n := 9) (by decide +kernel) (by omega) (by omega)) ?_
    refine T_upg c47 (bdr_312 2) (by omega) (fun s73 c74 g76 g77 e78 => ?_)
    have f75 := z_Fr.up (R := R_X12_lend_309) f48 g76 (fun _ => (Or.inl (⟨by decide, by decide⟩)))
    have t79 : s73 309 20 = s46 309 20 := g76 309 20 (by decide)
    have t80 : s73 309 36 = s46 309 36 := g76 309 36 (by decide)
    have t81 : s73 309 43 = s46 309 43 := g76 309 43 (by decide)
    have t82 : s73 309 44 = s46 309 44 := g76 309 44 (by decide)
    have t83 : s73 309 58 = s46 309 58 := g76 309 58 (by decide)
    have t84 : s73 316 0 = s46 316 0 := g76 316 0 (by decide)
    have t85 : s73 329 0 = s46 329 0 := g76 329 0 (by decide)
    have t86 : s73 329 1 = s46 329 1 := g76 329 1 (by decide)
    have r87 := y_TA.fr g54 (fun a b h => g76 a b (by omega)) (fun a b h => g76 a b (by omega)) (fun a b h => g76 a b (by omega))
    have r88 := y_DD.fr g55 (g76 329 0 (by decide)) (g76 329 1 (by decide)) (fun b => g76 359 b (by decide)) (fun b => g76 374 b (by decide))
    have r89 := y_B.fr g56 (g76 309 20 (by decide)) (g76 316 0 (by decide)) (fun b => g76 3220 b (by decide)) (fun b => g76 3221 b (by decide)) (fun b => g76 3222 b (by decide)) (fun b => g76 361 b (by decide))
    have r90 := y_K.fr g57 (by omega) (by omega) (g76 309 44 (by decide)) (g76 309 20 (by decide)) (g76 309 58 (by decide)) (fun b => g76 3438 b (by decide)) (fun b => g76 3220 b (by decide)) (fun a b h => g76 a b (by omega))
    have r91 := y_SE.re g53 g77 e78 (by omega)
    refine T_if1 ⟨(by decide +kernel), by unfold z_bl; omega⟩ ?_
    refine T_upg c74 bd_309_43 (by omega) (fun s92 c93 g95 g96 e97 => ?_)
    have f94 := z_Fr.upf (R := R_X12_lend_309) f75 g95 g96 (Or.inr (Or.inr (⟨rfl, by decide⟩)))
    have t98 : s92 309 20 = s46 309 20 := (g96 20 (by decide)).trans t79
    have t99 : s92 309 36 = s46 309 36 := (g96 36 (by decide)).trans t80
    have t100 : s92 309 44 = s46 309 44 := (g96 44 (by decide)).trans t82
    have t101 : s92 309 58 = s46 309 58 := (g96 58 (by decide)).trans t83
    have t102 : s92 316 0 = s46 316 0 := (g95 316 0 (by decide)).trans t84
    have t103 : s92 329 0 = s46 329 0 := (g95 329 0 (by decide)).trans t85
    have t104 : s92 329 1 = s46 329 1 := (g95 329 1 (by decide)).trans t86
    have u105 := CI_b c93 (k := 309) (j := 43) bd_309_43
    have r106 := y_TA.fr r87 (fun a b h => g95 a b (by omega)) (fun a b h => g95 a b (by omega)) (fun a b h => g95 a b (by omega))
    have r107 := y_DD.fr r88 (g95 329 0 (by decide)) (g95 329 1 (by decide)) (fun b => g95 359 b (by decide)) (fun b => g95 374 b (by decide))
    have r108 := y_B.fr r89 (g96 20 (by decide)) (g95 316 0 (by decide)) (fun b => g95 3220 b (by decide)) (fun b => g95 3221 b (by decide)) (fun b => g95 3222 b (by decide)) (fun b => g95 361 b (by decide))
    have r109 := y_K.fr r90 (by omega) (by omega) (g96 44 (by decide)) (g96 20 (by decide)) (g96 58 (by decide)) (fun b => g95 3438 b (by decide)) (fun b => g95 3220 b (by decide)) (fun a b h => g95 a b (by omega))
    have r110 := y_SE.fr r91 (fun b => g95 312 b (by decide))
    clear t79
    clear t80
    clear t82
    clear t83
    clear t84
    clear t85
    clear t86
    refine T_ite (fun h111 => ?_) (fun h111 => ?_)
    · exact sj_X12_lend_309Y_J135 hfu r0 s92 c93 f94 y50 (by omega) r110 (by first | exact y_YM.b0 (by omega) | exact y_YM.k0 (by omega) | exact y_YM.bk (by omega)) r106 (by first | exact r107 | exact y_DD.z (by omega) (by omega)) r108 (by first | exact r109 | exact y_K.b0 (by omega) | exact y_K.k0 (by omega) | exact y_K.bk (by omega))
    · exact sj_X12_lend_309Y_J135 hfu r0 s92 c93 f94 y49 (by omega) r110 (by first | exact y_YM.b0 (by omega) | exact y_YM.k0 (by omega) | exact y_YM.bk (by omega)) r106 (by first | exact r107 | exact y_DD.z (by omega) (by omega)) r108 (by first | exact r109 | exact y_K.b0 (by omega) | exact y_K.k0 (by omega) | exact y_K.bk (by omega))
  · exact T_ret ⟨c17, f19, r35, r37, (by first | exact r38 | exact y_DD.z (by omega) (by omega)), r39, (by first | exact r40 | exact y_K.b0 (by omega) | exact y_K.k0 (by omega) | exact y_K.bk (by omega)), (by first | exact r36 | exact y_YM.b0 (by omega) | exact y_YM.k0 (by omega) | exact y_YM.bk (by omega)), ⟨0, rfl, by omega, by omega⟩⟩
theorem sf_X12_lend_309Y {fu : Nat} (hfu : 8589934592 ≤ fu) (r0 : z_M) (c0 : z_CI r0) (a1 : Int) (b1 : -2147483648 ≤ a1 ∧ a1 ≤ 2147483647) (p0 : y_TA r0) (p1 : y_DD r0) (p2 : y_B r0) (p3 : y_K r0) (p4 : y_YM r0) : z_T (fX12_lend fu r0 309 a1) (P_X12_lend_309Y r0) := by
  refine T_of (fX12_lend.eq_1 ..) ?_
  have u1 := CI_b c0 (k := 309) (j := 20) bd_309_20
  have u2 := CI_b c0 (k := 309) (j := 36) bd_309_36
  have u3 := CI_b c0 (k := 309) (j := 43) bd_309_43
  have u4 := CI_b c0 (k := 309) (j := 44) bd_309_44
  have u5 := CI_b c0 (k := 309) (j := 58) bd_309_58
  have u6 := CI_b c0 (k := 316) (j := 0) bd_316_0
  have u7 := CI_b c0 (k := 329) (j := 0) bd_329_0
  have u8 := CI_b c0 (k := 329) (j := 1) bd_329_1
  have r9 : y_SE r0 r0 := y_SE.z
  refine T_if1 (by decide +kernel) ?_
  refine T_upg c0 bd_309_0 (by omega) (fun s10 c11 g13 g14 e15 => ?_)
  have f12 := z_Fr.upf (R := R_X12_lend_309) z_Fr.rf g13 g14 (Or.inr (Or.inr (⟨rfl, by decide⟩)))
  have t16 : s10 309 20 = r0 309 20 := g14 20 (by decide)
  have t17 : s10 309 36 = r0 309 36 := g14 36 (by decide)
  have t18 : s10 309 43 = r0 309 43 := g14 43 (by decide)
  have t19 : s10 309 44 = r0 309 44 := g14 44 (by decide)
  have t20 : s10 309 58 = r0 309 58 := g14 58 (by decide)
  have t21 : s10 316 0 = r0 316 0 := g13 316 0 (by decide)
  have t22 : s10 329 0 = r0 329 0 := g13 329 0 (by decide)
  have t23 : s10 329 1 = r0 329 1 := g13 329 1 (by decide)
  have r24 := y_TA.fr p0 (fun a b h => g13 a b (by omega)) (fun a b h => g13 a b (by omega)) (fun a b h => g13 a b (by omega))
  have r25 := y_DD.fr p1 (g13 329 0 (by decide)) (g13 329 1 (by decide)) (fun b => g13 359 b (by decide)) (fun b => g13 374 b (by decide))
  have r26 := y_B.fr p2 (g14 20 (by decide)) (g13 316 0 (by decide)) (fun b => g13 3220 b (by decide)) (fun b => g13 3221 b (by decide)) (fun b => g13 3222 b (by decide)) (fun b => g13 361 b (by decide))
  have r27 := y_K.fr p3 (by omega) (by omega) (g14 44 (by decide)) (g14 20 (by decide)) (g14 58 (by decide)) (fun b => g13 3438 b (by decide)) (fun b => g13 3220 b (by decide)) (fun a b h => g13 a b (by omega))
  have r28 := y_YM.fr p4 (by omega) (g14 44 (by decide)) (g14 20 (by decide)) (g14 58 (by decide)) (fun b => g13 312 b (by decide)) (fun b => g13 331 b (by decide)) (fun b => g13 346 b (by decide)) (fun b => g13 361 b (by decide)) (fun b => g13 391 b (by decide)) (fun a b h => g13 a b (by omega)) (fun a b h => g13 a b (by omega)) (fun b => g13 3438 b (by decide)) (fun a b h => g13 a b (by omega)) (fun a b h => g13 a b (by omega))
  have r29 := y_SE.fr r9 (fun b => g13 312 b (by decide))
  refine T_useI (sf_X12_in hfu s10 c11 a1 0 1 (by omega) (by omega) (by omega)) (fun v35 s30 hq => ?_)
  obtain ⟨c31, f32, ⟨x34, rfl, b36, b37, o38⟩⟩ := hq
  refine T_vI ?_
  have q39 := z_Fr.eq (fun a b h => h) f32
  subst q39
  refine T_ite (fun h40 => ?_) (fun h40 => ?_)
  · exact sj_X12_lend_309Y_J20 hfu r0 s10 c11 f12 a1 0 (by omega) (by omega) r29 (by first | exact r28 | exact y_YM.b0 (by omega) | exact y_YM.k0 (by omega) | exact y_YM.bk (by omega)) r24 (by first | exact r25 | exact y_DD.z (by omega) (by omega)) r26 (by first | exact r27 | exact y_K.b0 (by omega) | exact y_K.k0 (by omega) | exact y_K.bk (by omega))
  · exact sj_X12_lend_309Y_J20 hfu r0 s10 c11 f12 a1 1 (by omega) (by omega) r29 (by first | exact r28 | exact y_YM.b0 (by omega) | exact y_YM.k0 (by omega) | exact y_YM.bk (by omega)) r24 (by first | exact r25 | exact y_DD.z (by omega) (by omega)) r26 (by first | exact r27 | exact y_K.b0 (by omega) | exact y_K.k0 (by omega) | exact y_K.bk (by omega))
