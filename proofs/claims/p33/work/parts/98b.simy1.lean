/-! READING, 6: the reference's readers (by program, wip/tool/mksim.py) -/
abbrev P_X12_copies_309Y (r0 : z_M) (a1 : Int) (a2 : Int) : z_V → z_M → Prop := fun v s' => z_CI s' ∧ z_Fr R_X12_copies_309 r0 s' ∧ (y_CP r0 s' a1 a2 3 200) ∧ (y_KQ s' a2) ∧ (y_YQ s' a2) ∧ (v = vN)
theorem sf_X12_copies_309Y {fu : Nat} (hfu : 8589934592 ≤ fu) (r0 : z_M) (c0 : z_CI r0) (a1 : Int) (a2 : Int) (b1 : 0 ≤ a1 ∧ a1 ≤ 13) (b2 : 0 ≤ a2 ∧ a2 ≤ 13) (p0 : a1 ≠ a2) (p1 : y_KM r0) (p2 : y_YM r0) : z_T (fX12_copies fu r0 309 a1 a2) (P_X12_copies_309Y r0 a1 a2) := by
  refine T_mono (sf_X12_copies_309T hfu r0 c0 a1 a2 b1 b2 p0) (fun v s h => ?_)
  obtain ⟨c, fr, cp, cf, cl, e⟩ := h
  have nn : ∀ x y : Int, x < 316 ∨ 3220 ≤ x → s x y = r0 x y := fun x y w => fr x y (by unfold R_X12_copies_309; omega)
  refine ⟨c, fr, cp, ?_, ?_, e⟩
  rotate_left
  · by_cases z : a2 = 0
    · exact Or.inl z
    · have k := cf.2.2 0 (by decide) (by decide) (fun w => z w.symm)
      have l := cl.2 0 (by decide) (by decide) (fun w => z w.symm)
      refine Or.inr (p2.fr (by have a := nn 309 36 (by omega); have b := nn 309 43 (by omega); omega) (nn 309 44 (by omega)) (nn 309 20 (by omega)) (nn 309 58 (by omega)) (fun b => nn 312 b (by omega)) (fun b => ?_) (fun b => ?_) (fun b => ?_) (fun b => ?_) (fun a b q => ?_) (fun a b q => nn a b (by omega)) (fun b => nn 3438 b (by omega)) (fun a b q => nn a b (by omega)) (fun a b q => nn a b (by omega)))
      · have w := (k b).2.1; simpa using w
      · have w := (k b).2.2.1; simpa using w
      · have w := (k b).2.2.2.1; simpa using w
      · have w := l.1 b; simpa using w
      · have w := l.2 (a - 407) b (by omega) (by omega)
        rwa [show 407 + 201 * 0 + (a - 407) = a by omega] at w
  by_cases z : a2 = 0
  · exact Or.inl z
  · have k := cf.2.2 0 (by decide) (by decide) (fun w => z w.symm)
    have l := cl.2 0 (by decide) (by decide) (fun w => z w.symm)
    have n : ∀ x y : Int, ¬ R_X12_copies_309 x y → s x y = r0 x y := fun x y w => fr x y w
    have m : ∀ x y : Int, x < 316 ∨ 3220 ≤ x → s x y = r0 x y := fun x y w => n x y (by unfold R_X12_copies_309; omega)
    refine Or.inr (p1.fr (m _ _ (by omega)) (m _ _ (by omega)) (m _ _ (by omega)) (m _ _ (by omega)) (fun b => m _ _ (by omega)) (fun b => ?_) (fun b => ?_) (fun b => ?_) (fun b => ?_) (fun a b q => ?_) (fun a b q => m _ _ (by omega)) (fun a b q => m _ _ (by omega)))
    · have w := (k b).2.1; simpa using w
    · have w := (k b).2.2.1; simpa using w
    · have w := (k b).2.2.2.1; simpa using w
    · have w := l.1 b; simpa using w
    · have w := l.2 (a - 407) b (by omega) (by omega)
      rwa [show 407 + 201 * 0 + (a - 407) = a by omega] at w
abbrev P_X12_stands_309Y (r0 : z_M) : z_V → z_M → Prop := fun v s' => z_CI s' ∧ z_Fr R_X12_stands_309 r0 s' ∧ (y_TA s') ∧ (y_DD s') ∧ (y_B s') ∧ (s' 309 36 = 0) ∧ (y_KM s') ∧ (y_YM s') ∧ (v = vN)
theorem nz_X12_copies_309__3441_3450 (a b : Int) (h : 3441 ≤ a ∧ a ≤ 3450) : ¬ R_X12_copies_309 a b := by
  unfold R_X12_copies_309; omega
theorem nr_X12_laysUnits_309__3438 (b : Int) : ¬ R_X12_laysUnits_309 3438 b := by
  unfold R_X12_laysUnits_309; omega
theorem nz_X12_laysUnits_309__3441_3450 (a b : Int) (h : 3441 ≤ a ∧ a ≤ 3450) : ¬ R_X12_laysUnits_309 a b := by
  unfold R_X12_laysUnits_309; omega
theorem nz_X12_laysUnits_309__3452_3651 (a b : Int) (h : 3452 ≤ a ∧ a ≤ 3651) : ¬ R_X12_laysUnits_309 a b := by
  unfold R_X12_laysUnits_309; omega
theorem sj_X12_stands_309Y_J41 {fu : Nat} (hfu : 8589934592 ≤ fu) (r0 s : z_M) (c : z_CI s) (f : z_Fr R_X12_stands_309 r0 s) (p0 : y_TA s) (p1 : y_DD s) (p2 : s 309 19 ≤ 11) (p3 : y_KM s) (p4 : y_YM s) : z_T (fX12_stands_J41 fu s 309) (P_X12_stands_309Y r0) := by
  refine T_of (fX12_stands_J41.eq_1 ..) ?_
  have u1 := CI_b c (k := 309) (j := 19) bd_309_19
  have u2 := CI_b c (k := 309) (j := 20) bd_309_20
  have u3 := CI_b c (k := 309) (j := 36) bd_309_36
  have u4 := CI_b c (k := 309) (j := 43) bd_309_43
  have u5 := CI_b c (k := 309) (j := 44) bd_309_44
  have u6 := CI_b c (k := 309) (j := 58) bd_309_58
  have u7 := CI_b c (k := 316) (j := 0) bd_316_0
  have u8 := CI_b c (k := 329) (j := 0) bd_329_0
  have u9 := CI_b c (k := 329) (j := 1) bd_329_1
  have t10 : s 309 43 = r0 309 43 := f 309 43 (by decide)
  have t11 : s 309 44 = r0 309 44 := f 309 44 (by decide)
  have t12 : s 309 58 = r0 309 58 := f 309 58 (by decide)
  refine T_if1 (by decide +kernel) ?_
  refine T_leq (fun x13 e14 => ?_)
  have u15 := CI_b c (k := 309) (j := 19) bd_309_19
  refine T_leq (fun x16 e17 => ?_)
  first | (have w18 := z_wx e17 (by omega)) | (have w18 := z_wr e17)
  refine T_if1 (by decide +kernel) ?_
  refine T_upg c bd_309_19 (by omega) (fun s19 c20 g22 g23 e24 => ?_)
  have f21 := z_Fr.upf (R := R_X12_stands_309) f g22 g23 (Or.inr (Or.inr (⟨rfl, by decide⟩)))
  have t25 : s19 309 20 = s 309 20 := g23 20 (by decide)
  have t26 : s19 309 36 = s 309 36 := g23 36 (by decide)
  have t27 : s19 309 43 = s 309 43 := g23 43 (by decide)
  have t28 : s19 309 44 = s 309 44 := g23 44 (by decide)
  have t29 : s19 309 58 = s 309 58 := g23 58 (by decide)
  have t30 : s19 316 0 = s 316 0 := g22 316 0 (by decide)
  have t31 : s19 329 0 = s 329 0 := g22 329 0 (by decide)
  have t32 : s19 329 1 = s 329 1 := g22 329 1 (by decide)
  have u33 := CI_b c20 (k := 309) (j := 19) bd_309_19
  have r34 := y_TA.fr p0 (fun a b h => g22 a b (by omega)) (fun a b h => g22 a b (by omega)) (fun a b h => g22 a b (by omega))
  have r35 := y_DD.fr p1 (g22 329 0 (by decide)) (g22 329 1 (by decide)) (fun b => g22 359 b (by decide)) (fun b => g22 374 b (by decide))
  have r36 := y_KM.fr p3 (g23 20 (by decide)) (g23 36 (by decide)) (g23 38 (by decide)) (g23 39 (by decide)) (fun b => g22 312 b (by decide)) (fun b => g22 331 b (by decide)) (fun b => g22 346 b (by decide)) (fun b => g22 361 b (by decide)) (fun b => g22 391 b (by decide)) (fun a b h => g22 a b (by omega)) (fun a b h => g22 a b (by omega)) (fun a b h => g22 a b (by omega))
  have r37 := y_YM.fr p4 (by omega) (g23 44 (by decide)) (g23 20 (by decide)) (g23 58 (by decide)) (fun b => g22 312 b (by decide)) (fun b => g22 331 b (by decide)) (fun b => g22 346 b (by decide)) (fun b => g22 361 b (by decide)) (fun b => g22 391 b (by decide)) (fun a b h => g22 a b (by omega)) (fun a b h => g22 a b (by omega)) (fun b => g22 3438 b (by decide)) (fun a b h => g22 a b (by omega)) (fun a b h => g22 a b (by omega))
  refine T_if1 (by decide +kernel) ?_
  refine T_leq (fun x38 e39 => ?_)
  have u40 := CI_b c20 (k := 309) (j := 19) bd_309_19
  refine T_if1 (by decide +kernel) ?_
  refine T_useN (sf_X12_copies_309Y hfu s19 c20 0 x38 (by omega) (by omega) (by omega) (by first | exact r36 | exact y_KM.z (by omega)) (by first | exact r37 | exact y_YM.b0 (by omega) | exact y_YM.k0 (by omega) | exact y_YM.bk (by omega))) (fun v46 s41 hq => ?_)
  obtain ⟨c42, f43, o47, o48, o49, rfl⟩ := hq
  refine T_vN ?_
  have f44 := z_Fr.tr (R := R_X12_stands_309) f21 f43 rs_X12_copies_309__X12_stands_309
  have t52 : s41 309 19 = x38 := (f43 309 19 (by decide)).trans e39
  have t53 : s41 309 20 = s 309 20 := (f43 309 20 (by decide)).trans t25
  have t54 : s41 309 36 = s 309 36 := (f43 309 36 (by decide)).trans t26
  have t55 : s41 309 43 = s 309 43 := (f43 309 43 (by decide)).trans t27
  have t56 : s41 309 44 = s 309 44 := (f43 309 44 (by decide)).trans t28
  have t57 : s41 309 58 = s 309 58 := (f43 309 58 (by decide)).trans t29
  have u58 := CI_b c42 (k := 316) (j := 0) bd_316_0
  have u59 := CI_b c42 (k := 329) (j := 0) bd_329_0
  have u60 := CI_b c42 (k := 329) (j := 1) bd_329_1
  have r61 := y_CP.TA o47 c20 (by omega) r34
  have r62 := y_CP.DDk o47 (by omega) r35
  clear t25
  clear t26
  clear t27
  clear t28
  clear t29
  refine T_if1 (by decide +kernel) ?_
  refine T_useN (sf_X12_copies_309Y hfu s41 c42 13 0 (by omega) (by omega) (by omega) (by first | exact y_KM.z (by omega) | exact y_KQ.m o48 (by omega)) (by first | exact y_YM.b0 (by omega) | exact y_YM.k0 (by omega) | exact y_YM.bk (by omega) | exact y_YQ.m o49 (by omega))) (fun v68 s63 hq => ?_)
  obtain ⟨c64, f65, o69, o70, o71, rfl⟩ := hq
  refine T_vN ?_
  have f66 := z_Fr.tr (R := R_X12_stands_309) f44 f65 rs_X12_copies_309__X12_stands_309
  have t74 : s63 309 19 = x38 := (f65 309 19 (by decide)).trans t52
  have t75 : s63 309 20 = s 309 20 := (f65 309 20 (by decide)).trans t53
  have t76 : s63 309 36 = s 309 36 := (f65 309 36 (by decide)).trans t54
  have t77 : s63 309 43 = s 309 43 := (f65 309 43 (by decide)).trans t55
  have t78 : s63 309 44 = s 309 44 := (f65 309 44 (by decide)).trans t56
  have t79 : s63 309 58 = s 309 58 := (f65 309 58 (by decide)).trans t57
  have u80 := CI_b c64 (k := 316) (j := 0) bd_316_0
  have u81 := CI_b c64 (k := 329) (j := 0) bd_329_0
  have u82 := CI_b c64 (k := 329) (j := 1) bd_329_1
  have r83 := y_CP.TAd o69 c42 r61 r62
  have r84 := y_CP.DDk o69 (by omega) r62
  clear t52
  clear t53
  clear t54
  clear t55
  clear t56
  clear t57
  refine T_if1 (by decide +kernel) ?_
  refine T_useN (sf_X12_laysUnits_309K hfu s63 c64 r83) (fun v90 s85 hq => ?_)
  obtain ⟨c86, f87, o91, o92, o93, rfl⟩ := hq
  refine T_vN ?_
  have f88 := z_Fr.tr (R := R_X12_stands_309) f66 f87 rs_X12_laysUnits_309__X12_stands_309
  have t96 : s85 309 19 = x38 := (f87 309 19 (by decide)).trans t74
  have t97 : s85 309 43 = s 309 43 := (f87 309 43 (by decide)).trans t77
  have t98 : s85 309 44 = s 309 44 := (f87 309 44 (by decide)).trans t78
  have t99 : s85 309 58 = s 309 58 := (f87 309 58 (by decide)).trans t79
  have t100 : s85 316 0 = s63 316 0 := f87 316 0 (by decide)
  have t101 : s85 329 0 = s63 329 0 := f87 329 0 (by decide)
  have t102 : s85 329 1 = s63 329 1 := f87 329 1 (by decide)
  have u103 := CI_b c86 (k := 309) (j := 20) bd_309_20
  have u104 := CI_b c86 (k := 309) (j := 36) bd_309_36
  have r105 := y_TA.fr r83 (fun a b h => f87 a b (nz_X12_laysUnits_309__316_328 a b h)) (fun a b h => f87 a b (nz_X12_laysUnits_309__346_358 a b h)) (fun a b h => f87 a b (nz_X12_laysUnits_309__361_373 a b h))
  have r106 := y_DD.fr r84 (f87 329 0 (by decide)) (f87 329 1 (by decide)) (fun b => f87 359 b (nr_X12_laysUnits_309__359 b)) (fun b => f87 374 b (nr_X12_laysUnits_309__374 b))
  clear t74
  clear t77
  clear t78
  clear t79
  exact T_ret ⟨c86, f88, r105, (by first | exact r106 | exact y_DD.z (by omega) (by omega)), o91, (by omega), (by first | exact y_KM.z (by omega)), (by first | exact y_YM.b0 (by omega) | exact y_YM.k0 (by omega) | exact y_YM.bk (by omega)), rfl⟩
theorem sl_X12_stands_309Y_L11 {fu : Nat} (hfu : 8589934592 ≤ fu) (r0 : z_M) {k : z_M → z_O} (hk : ∀ (s' : z_M), z_CI s' → z_Fr R_X12_stands_309 r0 s' → (y_TA s') → (y_DD s') → (s' 309 19 = 12) → (y_KM s') → (y_YM s') → z_T (k s') (P_X12_stands_309Y r0)) : ∀ (F : Nat) (s : z_M) (a1 : Int), z_CI s → z_Fr R_X12_stands_309 r0 s → (2 ≤ a1 ∧ a1 ≤ 13) → (y_TA s) → (y_DD s) → (s 309 19 = 12) → (y_KM s) → (y_YM s) → (2147483647 - a1 < (F : Int)) → z_T (fX12_stands_L11 fu 309 F s a1 k) (P_X12_stands_309Y r0) := by
  intro F
  induction F with
  | zero =>
    intro s a1 c f b1 i0 i1 i2 i3 i4 hm
    have u42 := CI_b c (k := 309) (j := 19) bd_309_19
    have u43 := CI_b c (k := 309) (j := 20) bd_309_20
    have u44 := CI_b c (k := 309) (j := 36) bd_309_36
    have u45 := CI_b c (k := 309) (j := 43) bd_309_43
    have u46 := CI_b c (k := 309) (j := 44) bd_309_44
    have u47 := CI_b c (k := 309) (j := 58) bd_309_58
    have u48 := CI_b c (k := 316) (j := 0) bd_316_0
    have u49 := CI_b c (k := 329) (j := 0) bd_329_0
    have u50 := CI_b c (k := 329) (j := 1) bd_329_1
    exfalso; omega
  | succ F ih =>
    intro s a1 c f b1 i0 i1 i2 i3 i4 hm
    refine T_of (fX12_stands_L11.eq_2 ..) ?_
    have u1 := CI_b c (k := 309) (j := 19) bd_309_19
    have u2 := CI_b c (k := 309) (j := 20) bd_309_20
    have u3 := CI_b c (k := 309) (j := 36) bd_309_36
    have u4 := CI_b c (k := 309) (j := 43) bd_309_43
    have u5 := CI_b c (k := 309) (j := 44) bd_309_44
    have u6 := CI_b c (k := 309) (j := 58) bd_309_58
    have u7 := CI_b c (k := 316) (j := 0) bd_316_0
    have u8 := CI_b c (k := 329) (j := 0) bd_329_0
    have u9 := CI_b c (k := 329) (j := 1) bd_329_1
    have t10 : s 309 43 = r0 309 43 := f 309 43 (by decide)
    have t11 : s 309 44 = r0 309 44 := f 309 44 (by decide)
    have t12 : s 309 58 = r0 309 58 := f 309 58 (by decide)
    refine T_ite (fun h13 => ?_) (fun h13 => ?_)
    · exact hk s c f i0 (by first | exact i1 | exact y_DD.z (by omega) (by omega)) (by omega) (by first | exact i3 | exact y_KM.z (by omega)) (by first | exact i4 | exact y_YM.b0 (by omega) | exact y_YM.k0 (by omega) | exact y_YM.bk (by omega))
    · refine T_leq (fun x14 e15 => ?_)
      first | (have w16 := z_wx e15 (by omega)) | (have w16 := z_wr e15)
      refine T_if1 (by decide +kernel) ?_
      refine T_useN (sf_X12_copies_309Y hfu s c a1 x14 (by omega) (by omega) (by omega) (by first | exact i3 | exact y_KM.z (by omega)) (by first | exact i4 | exact y_YM.b0 (by omega) | exact y_YM.k0 (by omega) | exact y_YM.bk (by omega))) (fun v22 s17 hq => ?_)
      obtain ⟨c18, f19, o23, o24, o25, rfl⟩ := hq
      refine T_vN ?_
      have f20 := z_Fr.tr (R := R_X12_stands_309) f f19 rs_X12_copies_309__X12_stands_309
      have t28 : s17 309 19 = s 309 19 := f19 309 19 (by decide)
      have t29 : s17 309 20 = s 309 20 := f19 309 20 (by decide)
      have t30 : s17 309 36 = s 309 36 := f19 309 36 (by decide)
      have t31 : s17 309 43 = s 309 43 := f19 309 43 (by decide)
      have t32 : s17 309 44 = s 309 44 := f19 309 44 (by decide)
      have t33 : s17 309 58 = s 309 58 := f19 309 58 (by decide)
      have u34 := CI_b c18 (k := 316) (j := 0) bd_316_0
      have u35 := CI_b c18 (k := 329) (j := 0) bd_329_0
      have u36 := CI_b c18 (k := 329) (j := 1) bd_329_1
      have r37 := y_CP.TA o23 c (by omega) i0
      have r38 := y_CP.DDk o23 (by omega) i1
      refine T_leq (fun x39 e40 => ?_)
      first | (have w41 := z_wx e40 (by omega)) | (have w41 := z_wr e40)
      exact ih s17 x39 c18 f20 (by omega) r37 (by first | exact r38 | exact y_DD.z (by omega) (by omega)) (by omega) (by first | exact y_KM.z (by omega) | exact y_KQ.m o24 (by omega)) (by first | exact y_YM.b0 (by omega) | exact y_YM.k0 (by omega) | exact y_YM.bk (by omega) | exact y_YQ.m o25 (by omega)) (by omega)
theorem sf_X12_stands_309Y {fu : Nat} (hfu : 8589934592 ≤ fu) (r0 : z_M) (c0 : z_CI r0) (p0 : y_TA r0) (p1 : y_DD r0) (p2 : y_KM r0) (p3 : y_YM r0) : z_T (fX12_stands fu r0 309) (P_X12_stands_309Y r0) := by
  refine T_of (fX12_stands.eq_1 ..) ?_
  have u1 := CI_b c0 (k := 309) (j := 19) bd_309_19
  have u2 := CI_b c0 (k := 309) (j := 20) bd_309_20
  have u3 := CI_b c0 (k := 309) (j := 36) bd_309_36
  have u4 := CI_b c0 (k := 309) (j := 43) bd_309_43
  have u5 := CI_b c0 (k := 309) (j := 44) bd_309_44
  have u6 := CI_b c0 (k := 309) (j := 58) bd_309_58
  have u7 := CI_b c0 (k := 316) (j := 0) bd_316_0
  have u8 := CI_b c0 (k := 329) (j := 0) bd_329_0
  have u9 := CI_b c0 (k := 329) (j := 1) bd_329_1
  refine T_if1 (by decide +kernel) ?_
  refine T_leq (fun x10 e11 => ?_)
  have u12 := CI_b c0 (k := 309) (j := 19) bd_309_19
  refine T_ite (fun h13 => ?_) (fun h13 => ?_)
  · exact sj_X12_stands_309Y_J41 hfu r0 r0 c0 z_Fr.rf p0 (by first | exact p1 | exact y_DD.z (by omega) (by omega)) (by omega) (by first | exact p2 | exact y_KM.z (by omega)) (by first | exact p3 | exact y_YM.b0 (by omega) | exact y_YM.k0 (by omega) | exact y_YM.bk (by omega))
  · refine sl_X12_stands_309Y_L11 hfu r0 (fun s14 c15 f16 g17 g18 g19 g20 g21 => ?_) fu r0 2 c0 z_Fr.rf (by omega) p0 (by first | exact p1 | exact y_DD.z (by omega) (by omega)) (by omega) (by first | exact p2 | exact y_KM.z (by omega)) (by first | exact p3 | exact y_YM.b0 (by omega) | exact y_YM.k0 (by omega) | exact y_YM.bk (by omega)) (by omega)
    have u22 := CI_b c15 (k := 309) (j := 19) bd_309_19
    have u23 := CI_b c15 (k := 309) (j := 20) bd_309_20
    have u24 := CI_b c15 (k := 309) (j := 36) bd_309_36
    have u25 := CI_b c15 (k := 309) (j := 43) bd_309_43
    have u26 := CI_b c15 (k := 309) (j := 44) bd_309_44
    have u27 := CI_b c15 (k := 309) (j := 58) bd_309_58
    have u28 := CI_b c15 (k := 316) (j := 0) bd_316_0
    have u29 := CI_b c15 (k := 329) (j := 0) bd_329_0
    have u30 := CI_b c15 (k := 329) (j := 1) bd_329_1
    have t31 : s14 309 43 = r0 309 43 := f16 309 43 (by decide)
    have t32 : s14 309 44 = r0 309 44 := f16 309 44 (by decide)
    have t33 : s14 309 58 = r0 309 58 := f16 309 58 (by decide)
    refine T_if1 (by decide +kernel) ?_
    refine T_leq (fun x34 e35 => ?_)
    have u36 := CI_b c15 (k := 309) (j := 19) bd_309_19
    refine T_leq (fun x37 e38 => ?_)
    first | (have w39 := z_wx e38 (by omega)) | (have w39 := z_wr e38)
    refine T_if1 (by decide +kernel) ?_
    refine T_upg c15 bd_309_19 (by omega) (fun s40 c41 g43 g44 e45 => ?_)
    have f42 := z_Fr.upf (R := R_X12_stands_309) f16 g43 g44 (Or.inr (Or.inr (⟨rfl, by decide⟩)))
    have t46 : s40 309 20 = s14 309 20 := g44 20 (by decide)
    have t47 : s40 309 36 = s14 309 36 := g44 36 (by decide)
    have t48 : s40 309 43 = s14 309 43 := g44 43 (by decide)
    have t49 : s40 309 44 = s14 309 44 := g44 44 (by decide)
    have t50 : s40 309 58 = s14 309 58 := g44 58 (by decide)
    have t51 : s40 316 0 = s14 316 0 := g43 316 0 (by decide)
    have t52 : s40 329 0 = s14 329 0 := g43 329 0 (by decide)
    have t53 : s40 329 1 = s14 329 1 := g43 329 1 (by decide)
    have u54 := CI_b c41 (k := 309) (j := 19) bd_309_19
    have r55 := y_TA.fr g17 (fun a b h => g43 a b (by omega)) (fun a b h => g43 a b (by omega)) (fun a b h => g43 a b (by omega))
    have r56 := y_DD.fr g18 (g43 329 0 (by decide)) (g43 329 1 (by decide)) (fun b => g43 359 b (by decide)) (fun b => g43 374 b (by decide))
    have r57 := y_KM.fr g20 (g44 20 (by decide)) (g44 36 (by decide)) (g44 38 (by decide)) (g44 39 (by decide)) (fun b => g43 312 b (by decide)) (fun b => g43 331 b (by decide)) (fun b => g43 346 b (by decide)) (fun b => g43 361 b (by decide)) (fun b => g43 391 b (by decide)) (fun a b h => g43 a b (by omega)) (fun a b h => g43 a b (by omega)) (fun a b h => g43 a b (by omega))
    have r58 := y_YM.fr g21 (by omega) (g44 44 (by decide)) (g44 20 (by decide)) (g44 58 (by decide)) (fun b => g43 312 b (by decide)) (fun b => g43 331 b (by decide)) (fun b => g43 346 b (by decide)) (fun b => g43 361 b (by decide)) (fun b => g43 391 b (by decide)) (fun a b h => g43 a b (by omega)) (fun a b h => g43 a b (by omega)) (fun b => g43 3438 b (by decide)) (fun a b h => g43 a b (by omega)) (fun a b h => g43 a b (by omega))
    exact sj_X12_stands_309Y_J41 hfu r0 s40 c41 f42 r55 (by first | exact r56 | exact y_DD.z (by omega) (by omega)) (by omega) (by first | exact r57 | exact y_KM.z (by omega)) (by first | exact r58 | exact y_YM.b0 (by omega) | exact y_YM.k0 (by omega) | exact y_YM.bk (by omega))
abbrev P_X12_reads_309Y (r0 : z_M) : z_V → z_M → Prop := fun v s' => z_CI s' ∧ z_Fr R_X12_reads_309 r0 s' ∧ (y_TA s') ∧ (y_DD s') ∧ (y_B s') ∧ (y_K s') ∧ (s' 309 2 = 0) ∧ (y_KM s') ∧ (y_YM s') ∧ (∃ x, v = vI x ∧ -2147483648 ≤ x ∧ x ≤ 2147483647)
theorem nz_X12_readsPart_309__3441_3450 (a b : Int) (h : 3441 ≤ a ∧ a ≤ 3450) : ¬ R_X12_readsPart_309 a b := by
  unfold R_X12_readsPart_309; omega
theorem sl_X12_reads_309Y_L25 {fu : Nat} (hfu : 8589934592 ≤ fu) (r0 : z_M) {k : z_M → z_O} (hk : ∀ (s' : z_M), z_CI s' → z_Fr R_X12_reads_309 r0 s' → (y_TA s') → (y_B s') → (y_K s') → (y_D s' (s' 329 0)) → (s' 329 1 ≤ s' 329 0) → (s' 309 2 = 0) → (y_KM s') → (y_YM s') → z_T (k s') (P_X12_reads_309Y r0)) : ∀ (F : Nat) (s : z_M), z_CI s → z_Fr R_X12_reads_309 r0 s → (y_TA s) → (y_B s) → (y_K s) → (y_D s (s 329 0)) → (s 329 1 ≤ s 329 0) → (s 309 4 ≤ s 309 3 + 1) → (s 309 2 = 0) → (y_KM s) → (y_YM s) → (303 - s 309 4 + (if s 309 6 = 0 then 1 else 0) < (F : Int)) → z_T (fX12_reads_L25 fu 309 F s k) (P_X12_reads_309Y r0) := by
  intro F
  induction F with
  | zero =>
    intro s c f i0 i1 i2 i3 i4 i5 i6 i7 i8 hm
    have u64 := CI_b c (k := 309) (j := 2) bd_309_2
    have u65 := CI_b c (k := 309) (j := 3) bd_309_3
    have u66 := CI_b c (k := 309) (j := 4) bd_309_4
    have u67 := CI_b c (k := 309) (j := 6) bd_309_6
    have u68 := CI_b c (k := 309) (j := 20) bd_309_20
    have u69 := CI_b c (k := 309) (j := 36) bd_309_36
    have u70 := CI_b c (k := 309) (j := 43) bd_309_43
    have u71 := CI_b c (k := 309) (j := 44) bd_309_44
    have u72 := CI_b c (k := 309) (j := 58) bd_309_58
    have u73 := CI_b c (k := 316) (j := 0) bd_316_0
    have u74 := CI_b c (k := 329) (j := 0) bd_329_0
    have u75 := CI_b c (k := 329) (j := 1) bd_329_1
    exfalso; omega
  | succ F ih =>
    intro s c f i0 i1 i2 i3 i4 i5 i6 i7 i8 hm
    refine T_of (fX12_reads_L25.eq_2 ..) ?_
    have u1 := CI_b c (k := 309) (j := 2) bd_309_2
    have u2 := CI_b c (k := 309) (j := 3) bd_309_3
    have u3 := CI_b c (k := 309) (j := 4) bd_309_4
    have u4 := CI_b c (k := 309) (j := 6) bd_309_6
    have u5 := CI_b c (k := 309) (j := 20) bd_309_20
    have u6 := CI_b c (k := 309) (j := 36) bd_309_36
    have u7 := CI_b c (k := 309) (j := 43) bd_309_43
    have u8 := CI_b c (k := 309) (j := 44) bd_309_44
    have u9 := CI_b c (k := 309) (j := 58) bd_309_58
    have u10 := CI_b c (k := 316) (j := 0) bd_316_0
    have u11 := CI_b c (k := 329) (j := 0) bd_329_0
    have u12 := CI_b c (k := 329) (j := 1) bd_329_1
    have t13 : s 309 43 = r0 309 43 := f 309 43 (by decide)
    have t14 : s 309 44 = r0 309 44 := f 309 44 (by decide)
    have t15 : s 309 58 = r0 309 58 := f 309 58 (by decide)
    refine T_if1 (by decide +kernel) ?_
    refine T_useI (sf_X12_fine_309 hfu s c) (fun v21 s16 hq => ?_)
    obtain ⟨c17, f18, ⟨x20, rfl, b22, b23, o24⟩⟩ := hq
    refine T_vI ?_
    have q25 := z_Fr.eq (fun a b h => h) f18
    subst q25
    refine T_ite (fun h26 => ?_) (fun h26 => ?_)
    · exact hk s c f i0 i1 (by first | exact i2 | exact y_K.b0 (by omega) | exact y_K.k0 (by omega) | exact y_K.bk (by omega)) (by first | exact y_D.cg i3 (by omega) | exact y_D.z (by omega) | exact y_D.ex i3 (by omega) (by omega)) (by omega) (by omega) (by first | exact i7 | exact y_KM.z (by omega)) (by first | exact i8 | exact y_YM.b0 (by omega) | exact y_YM.k0 (by omega) | exact y_YM.bk (by omega))
    · refine T_if1 (by decide +kernel) ?_
      refine T_leq (fun x27 e28 => ?_)
      have u29 := CI_b c (k := 309) (j := 4) bd_309_4
      refine T_if1 (by decide +kernel) ?_
      refine T_leq (fun x30 e31 => ?_)
      have u32 := CI_b c (k := 309) (j := 3) bd_309_3
      refine T_ite (fun h33 => ?_) (fun h33 => ?_)
      · exact hk s c f i0 i1 (by first | exact i2 | exact y_K.b0 (by omega) | exact y_K.k0 (by omega) | exact y_K.bk (by omega)) (by first | exact y_D.cg i3 (by omega) | exact y_D.z (by omega) | exact y_D.ex i3 (by omega) (by omega)) (by omega) (by omega) (by first | exact i7 | exact y_KM.z (by omega)) (by first | exact i8 | exact y_YM.b0 (by omega) | exact y_YM.k0 (by omega) | exact y_YM.bk (by omega))
      · refine T_if1 (by decide +kernel) ?_
        refine T_useN (sf_X12_readsPart_309 hfu s c (by first | exact y_D.cg i3 (by omega) | exact y_D.z (by omega) | exact y_D.ex i3 (by omega) (by omega)) (by omega) (by omega)) (fun v39 s34 hq => ?_)
        obtain ⟨c35, f36, o40, o41, o42, o43, o44, rfl⟩ := hq
        refine T_vN ?_
        have f37 := z_Fr.tr (R := R_X12_reads_309) f f36 rs_X12_readsPart_309__X12_reads_309
        have t47 : s34 309 2 = s 309 2 := f36 309 2 (by decide)
        have t48 : s34 309 3 = x30 := (f36 309 3 (by decide)).trans e31
        have t49 : s34 309 20 = s 309 20 := f36 309 20 (by decide)
        have t50 : s34 309 36 = s 309 36 := f36 309 36 (by decide)
        have t51 : s34 309 43 = s 309 43 := f36 309 43 (by decide)
        have t52 : s34 309 44 = s 309 44 := f36 309 44 (by decide)
        have t53 : s34 309 58 = s 309 58 := f36 309 58 (by decide)
        have t54 : s34 316 0 = s 316 0 := f36 316 0 (by decide)
        have u55 := CI_b c35 (k := 309) (j := 4) bd_309_4
        have u56 := CI_b c35 (k := 309) (j := 6) bd_309_6
        have u57 := CI_b c35 (k := 329) (j := 0) bd_329_0
        have u58 := CI_b c35 (k := 329) (j := 1) bd_329_1
        have r59 := y_TA.fr i0 (fun a b h => f36 a b (nz_X12_readsPart_309__316_328 a b h)) (fun a b h => f36 a b (nz_X12_readsPart_309__346_358 a b h)) (fun a b h => f36 a b (nz_X12_readsPart_309__361_373 a b h))
        have r60 := y_B.fr i1 (f36 309 20 (by decide)) (f36 316 0 (by decide)) (fun b => f36 3220 b (nr_X12_readsPart_309__3220 b)) (fun b => f36 3221 b (nr_X12_readsPart_309__3221 b)) (fun b => f36 3222 b (nr_X12_readsPart_309__3222 b)) (fun b => f36 361 b (nr_X12_readsPart_309__361 b))
        have r61 := y_K.fr i2 (by omega) (by omega) (f36 309 44 (by decide)) (f36 309 20 (by decide)) (f36 309 58 (by decide)) (fun b => f36 3438 b (nr_X12_readsPart_309__3438 b)) (fun b => f36 3220 b (nr_X12_readsPart_309__3220 b)) (fun a b h => f36 a b (nz_X12_readsPart_309__3452_3651 a b h))
        have r62 := y_KM.fr i7 (f36 309 20 (by decide)) (f36 309 36 (by decide)) (f36 309 38 (by decide)) (f36 309 39 (by decide)) (fun b => f36 312 b (nr_X12_readsPart_309__312 b)) (fun b => f36 331 b (nr_X12_readsPart_309__331 b)) (fun b => f36 346 b (nr_X12_readsPart_309__346 b)) (fun b => f36 361 b (nr_X12_readsPart_309__361 b)) (fun b => f36 391 b (nr_X12_readsPart_309__391 b)) (fun a b h => f36 a b (nz_X12_readsPart_309__407_606 a b h)) (fun a b h => f36 a b (nz_X12_readsPart_309__3220_3223 a b h)) (fun a b h => f36 a b (nz_X12_readsPart_309__3235_3437 a b h))
        have r63 := y_YM.fr i8 (by omega) (f36 309 44 (by decide)) (f36 309 20 (by decide)) (f36 309 58 (by decide)) (fun b => f36 312 b (nr_X12_readsPart_309__312 b)) (fun b => f36 331 b (nr_X12_readsPart_309__331 b)) (fun b => f36 346 b (nr_X12_readsPart_309__346 b)) (fun b => f36 361 b (nr_X12_readsPart_309__361 b)) (fun b => f36 391 b (nr_X12_readsPart_309__391 b)) (fun a b h => f36 a b (nz_X12_readsPart_309__407_606 a b h)) (fun a b h => f36 a b (nz_X12_readsPart_309__3220_3223 a b h)) (fun b => f36 3438 b (nr_X12_readsPart_309__3438 b)) (fun a b h => f36 a b (nz_X12_readsPart_309__3441_3450 a b h)) (fun a b h => f36 a b (nz_X12_readsPart_309__3452_3651 a b h))
        exact ih s34 c35 f37 r59 r60 (by first | exact r61 | exact y_K.b0 (by omega) | exact y_K.k0 (by omega) | exact y_K.bk (by omega)) (by first | exact y_D.cg o40 (by omega) | exact y_D.z (by omega) | exact y_D.ex o40 (by omega) (by omega)) (by omega) (by omega) (by omega) (by first | exact r62 | exact y_KM.z (by omega)) (by first | exact r63 | exact y_YM.b0 (by omega) | exact y_YM.k0 (by omega) | exact y_YM.bk (by omega)) (by omega)
theorem nr_X12_stands_309__3438 (b : Int) : ¬ R_X12_stands_309 3438 b := by
  unfold R_X12_stands_309; omega
theorem nz_X12_stands_309__3441_3450 (a b : Int) (h : 3441 ≤ a ∧ a ≤ 3450) : ¬ R_X12_stands_309 a b := by
  unfold R_X12_stands_309; omega
theorem nz_X12_stands_309__3452_3651 (a b : Int) (h : 3452 ≤ a ∧ a ≤ 3651) : ¬ R_X12_stands_309 a b := by
  unfold R_X12_stands_309; omega
theorem sj_X12_reads_309Y_J50 {fu : Nat} (hfu : 8589934592 ≤ fu) (r0 s : z_M) (c : z_CI s) (f : z_Fr R_X12_reads_309 r0 s) (p0 : y_TA s) (p1 : y_B s) (p2 : y_K s) (p3 : y_D s (s 329 0)) (p4 : s 329 1 ≤ s 329 0) (p5 : s 309 2 = 0) (p6 : y_YM s) (p7 : y_KM s) : z_T (fX12_reads_J50 fu s 309) (P_X12_reads_309Y r0) := by
  refine T_of (fX12_reads_J50.eq_1 ..) ?_
  have u1 := CI_b c (k := 309) (j := 2) bd_309_2
  have u2 := CI_b c (k := 309) (j := 3) bd_309_3
  have u3 := CI_b c (k := 309) (j := 4) bd_309_4
  have u4 := CI_b c (k := 309) (j := 6) bd_309_6
  have u5 := CI_b c (k := 309) (j := 20) bd_309_20
  have u6 := CI_b c (k := 309) (j := 36) bd_309_36
  have u7 := CI_b c (k := 309) (j := 43) bd_309_43
  have u8 := CI_b c (k := 309) (j := 44) bd_309_44
  have u9 := CI_b c (k := 309) (j := 58) bd_309_58
  have u10 := CI_b c (k := 316) (j := 0) bd_316_0
  have u11 := CI_b c (k := 329) (j := 0) bd_329_0
  have u12 := CI_b c (k := 329) (j := 1) bd_329_1
  have t13 : s 309 43 = r0 309 43 := f 309 43 (by decide)
  have t14 : s 309 44 = r0 309 44 := f 309 44 (by decide)
  have t15 : s 309 58 = r0 309 58 := f 309 58 (by decide)
  refine T_if1 (by decide +kernel) ?_
  refine T_leq (fun x16 e17 => ?_)
  have u18 := CI_b c (k := 309) (j := 7) bd_309_7
  refine T_if1 (by decide +kernel) ?_
  refine T_upg c bd_309_5 (by omega) (fun s19 c20 g22 g23 e24 => ?_)
  have f21 := z_Fr.upf (R := R_X12_reads_309) f g22 g23 (Or.inr (Or.inr (⟨rfl, by decide⟩)))
  have t25 : s19 309 2 = s 309 2 := g23 2 (by decide)
  have t26 : s19 309 3 = s 309 3 := g23 3 (by decide)
  have t27 : s19 309 4 = s 309 4 := g23 4 (by decide)
  have t28 : s19 309 6 = s 309 6 := g23 6 (by decide)
  have t29 : s19 309 20 = s 309 20 := g23 20 (by decide)
  have t30 : s19 309 36 = s 309 36 := g23 36 (by decide)
  have t31 : s19 309 43 = s 309 43 := g23 43 (by decide)
  have t32 : s19 309 44 = s 309 44 := g23 44 (by decide)
  have t33 : s19 309 58 = s 309 58 := g23 58 (by decide)
  have t34 : s19 316 0 = s 316 0 := g22 316 0 (by decide)
  have t35 : s19 329 0 = s 329 0 := g22 329 0 (by decide)
  have t36 : s19 329 1 = s 329 1 := g22 329 1 (by decide)
  have r37 := y_TA.fr p0 (fun a b h => g22 a b (by omega)) (fun a b h => g22 a b (by omega)) (fun a b h => g22 a b (by omega))
  have r38 := y_B.fr p1 (g23 20 (by decide)) (g22 316 0 (by decide)) (fun b => g22 3220 b (by decide)) (fun b => g22 3221 b (by decide)) (fun b => g22 3222 b (by decide)) (fun b => g22 361 b (by decide))
  have r39 := y_K.fr p2 (by omega) (by omega) (g23 44 (by decide)) (g23 20 (by decide)) (g23 58 (by decide)) (fun b => g22 3438 b (by decide)) (fun b => g22 3220 b (by decide)) (fun a b h => g22 a b (by omega))
  have r40 := y_D.fr p3 (fun b => g22 359 b (by decide)) (fun b => g22 374 b (by decide))
  have r41 := y_YM.fr p6 (by omega) (g23 44 (by decide)) (g23 20 (by decide)) (g23 58 (by decide)) (fun b => g22 312 b (by decide)) (fun b => g22 331 b (by decide)) (fun b => g22 346 b (by decide)) (fun b => g22 361 b (by decide)) (fun b => g22 391 b (by decide)) (fun a b h => g22 a b (by omega)) (fun a b h => g22 a b (by omega)) (fun b => g22 3438 b (by decide)) (fun a b h => g22 a b (by omega)) (fun a b h => g22 a b (by omega))
  have r42 := y_KM.fr p7 (g23 20 (by decide)) (g23 36 (by decide)) (g23 38 (by decide)) (g23 39 (by decide)) (fun b => g22 312 b (by decide)) (fun b => g22 331 b (by decide)) (fun b => g22 346 b (by decide)) (fun b => g22 361 b (by decide)) (fun b => g22 391 b (by decide)) (fun a b h => g22 a b (by omega)) (fun a b h => g22 a b (by omega)) (fun a b h => g22 a b (by omega))
  refine T_if1 (by decide +kernel) ?_
  refine T_useI (sf_X12_fine_309 hfu s19 c20) (fun v48 s43 hq => ?_)
  obtain ⟨c44, f45, ⟨x47, rfl, b49, b50, o51⟩⟩ := hq
  refine T_vI ?_
  have q52 := z_Fr.eq (fun a b h => h) f45
  subst q52
  refine T_ite (fun h53 => ?_) (fun h53 => ?_)
  · refine T_if1 (by decide +kernel) ?_
    refine T_useN (sf_X12_stands_309Y hfu s19 c20 r37 (by first | exact ⟨by omega, y_D.cg r40 (by omega)⟩ | exact y_DD.z (by omega) (by omega)) (by first | exact r42 | exact y_KM.z (by omega)) (by first | exact r41 | exact y_YM.b0 (by omega) | exact y_YM.k0 (by omega) | exact y_YM.bk (by omega))) (fun v59 s54 hq => ?_)
    obtain ⟨c55, f56, o60, o61, o62, o63, o64, o65, rfl⟩ := hq
    refine T_vN ?_
    have f57 := z_Fr.tr (R := R_X12_reads_309) f21 f56 rs_X12_stands_309__X12_reads_309
    have t68 : s54 309 2 = s 309 2 := (f56 309 2 (by decide)).trans t25
    have t69 : s54 309 3 = s 309 3 := (f56 309 3 (by decide)).trans t26
    have t70 : s54 309 4 = s 309 4 := (f56 309 4 (by decide)).trans t27
    have t71 : s54 309 6 = s 309 6 := (f56 309 6 (by decide)).trans t28
    have t72 : s54 309 43 = s 309 43 := (f56 309 43 (by decide)).trans t31
    have t73 : s54 309 44 = s 309 44 := (f56 309 44 (by decide)).trans t32
    have t74 : s54 309 58 = s 309 58 := (f56 309 58 (by decide)).trans t33
    have u75 := CI_b c55 (k := 309) (j := 20) bd_309_20
    have u76 := CI_b c55 (k := 309) (j := 36) bd_309_36
    have u77 := CI_b c55 (k := 316) (j := 0) bd_316_0
    have u78 := CI_b c55 (k := 329) (j := 0) bd_329_0
    have u79 := CI_b c55 (k := 329) (j := 1) bd_329_1
    clear t25
    clear t26
    clear t27
    clear t28
    clear t31
    clear t32
    clear t33
    refine T_if1 (by decide +kernel) ?_
    refine T_leq (fun x80 e81 => ?_)
    have u82 := CI_b c55 (k := 309) (j := 20) bd_309_20
    exact T_ret ⟨c55, f57, o60, (by first | exact o61 | exact y_DD.z (by omega) (by omega)), o62, (by first | exact y_K.b0 (by omega) | exact y_K.k0 (by omega) | exact y_K.bk (by omega)), (by omega), (by first | exact o64 | exact y_KM.z (by omega)), (by first | exact o65 | exact y_YM.b0 (by omega) | exact y_YM.k0 (by omega) | exact y_YM.bk (by omega)), ⟨x80, rfl, by omega, by omega⟩⟩
  · refine T_if1 (by decide +kernel) ?_
    refine T_leq (fun x83 e84 => ?_)
    have u85 := CI_b c20 (k := 309) (j := 6) bd_309_6
    refine T_leq (fun x86 e87 => ?_)
    first | (have w88 := z_wx e87 (by omega)) | (have w88 := z_wr e87)
    exact T_ret ⟨c20, f21, r37, (by first | exact ⟨by omega, y_D.cg r40 (by omega)⟩ | exact y_DD.z (by omega) (by omega)), r38, (by first | exact r39 | exact y_K.b0 (by omega) | exact y_K.k0 (by omega) | exact y_K.bk (by omega)), (by omega), (by first | exact r42 | exact y_KM.z (by omega)), (by first | exact r41 | exact y_YM.b0 (by omega) | exact y_YM.k0 (by omega) | exact y_YM.bk (by omega)), ⟨x86, rfl, by omega, by omega⟩⟩
set_option maxHeartbeats 4000000 in
theorem sf_X12_reads_309Y {fu : Nat} (hfu : 8589934592 ≤ fu) (r0 : z_M) (c0 : z_CI r0) (a1 : Int) (b1 : 0 ≤ a1 ∧ a1 ≤ 300) (p0 : y_TA r0) (p1 : y_DD r0) (p2 : y_B r0) (p3 : y_K r0) (p4 : y_KM r0) (p5 : y_YM r0) : z_T (fX12_reads fu r0 309 a1) (P_X12_reads_309Y r0) := by
  refine T_of (fX12_reads.eq_1 ..) ?_
  have u1 := CI_b c0 (k := 309) (j := 2) bd_309_2
  have u2 := CI_b c0 (k := 309) (j := 3) bd_309_3
  have u3 := CI_b c0 (k := 309) (j := 4) bd_309_4
  have u4 := CI_b c0 (k := 309) (j := 6) bd_309_6
  have u5 := CI_b c0 (k := 309) (j := 20) bd_309_20
  have u6 := CI_b c0 (k := 309) (j := 36) bd_309_36
  have u7 := CI_b c0 (k := 309) (j := 43) bd_309_43
  have u8 := CI_b c0 (k := 309) (j := 44) bd_309_44
  have u9 := CI_b c0 (k := 309) (j := 58) bd_309_58
  have u10 := CI_b c0 (k := 316) (j := 0) bd_316_0
  have u11 := CI_b c0 (k := 329) (j := 0) bd_329_0
  have u12 := CI_b c0 (k := 329) (j := 1) bd_329_1
  have n13 := (p1).1
  refine T_if1 (by decide +kernel) ?_
  refine T_upg c0 bd_309_2 (by omega) (fun s14 c15 g17 g18 e19 => ?_)
  have f16 := z_Fr.upf (R := R_X12_reads_309) z_Fr.rf g17 g18 (Or.inr (Or.inr (⟨rfl, by decide⟩)))
  have t20 : s14 309 3 = r0 309 3 := g18 3 (by decide)
  have t21 : s14 309 4 = r0 309 4 := g18 4 (by decide)
  have t22 : s14 309 6 = r0 309 6 := g18 6 (by decide)
  have t23 : s14 309 20 = r0 309 20 := g18 20 (by decide)
  have t24 : s14 309 36 = r0 309 36 := g18 36 (by decide)
  have t25 : s14 309 43 = r0 309 43 := g18 43 (by decide)
  have t26 : s14 309 44 = r0 309 44 := g18 44 (by decide)
  have t27 : s14 309 58 = r0 309 58 := g18 58 (by decide)
  have t28 : s14 316 0 = r0 316 0 := g17 316 0 (by decide)
  have t29 : s14 329 0 = r0 329 0 := g17 329 0 (by decide)
  have t30 : s14 329 1 = r0 329 1 := g17 329 1 (by decide)
  have u31 := CI_b c15 (k := 309) (j := 2) bd_309_2
  have r32 := y_TA.fr p0 (fun a b h => g17 a b (by omega)) (fun a b h => g17 a b (by omega)) (fun a b h => g17 a b (by omega))
  have r33 := y_DD.fr p1 (g17 329 0 (by decide)) (g17 329 1 (by decide)) (fun b => g17 359 b (by decide)) (fun b => g17 374 b (by decide))
  have r34 := y_B.fr p2 (g18 20 (by decide)) (g17 316 0 (by decide)) (fun b => g17 3220 b (by decide)) (fun b => g17 3221 b (by decide)) (fun b => g17 3222 b (by decide)) (fun b => g17 361 b (by decide))
  have r35 := y_K.fr p3 (by omega) (by omega) (g18 44 (by decide)) (g18 20 (by decide)) (g18 58 (by decide)) (fun b => g17 3438 b (by decide)) (fun b => g17 3220 b (by decide)) (fun a b h => g17 a b (by omega))
  have r36 := y_KM.fr p4 (g18 20 (by decide)) (g18 36 (by decide)) (g18 38 (by decide)) (g18 39 (by decide)) (fun b => g17 312 b (by decide)) (fun b => g17 331 b (by decide)) (fun b => g17 346 b (by decide)) (fun b => g17 361 b (by decide)) (fun b => g17 391 b (by decide)) (fun a b h => g17 a b (by omega)) (fun a b h => g17 a b (by omega)) (fun a b h => g17 a b (by omega))
  have r37 := y_YM.fr p5 (by omega) (g18 44 (by decide)) (g18 20 (by decide)) (g18 58 (by decide)) (fun b => g17 312 b (by decide)) (fun b => g17 331 b (by decide)) (fun b => g17 346 b (by decide)) (fun b => g17 361 b (by decide)) (fun b => g17 391 b (by decide)) (fun a b h => g17 a b (by omega)) (fun a b h => g17 a b (by omega)) (fun b => g17 3438 b (by decide)) (fun a b h => g17 a b (by omega)) (fun a b h => g17 a b (by omega))
  refine T_if1 (by decide +kernel) ?_
  refine T_upg c15 bd_309_3 (by omega) (fun s38 c39 g41 g42 e43 => ?_)
  have f40 := z_Fr.upf (R := R_X12_reads_309) f16 g41 g42 (Or.inr (Or.inr (⟨rfl, by decide⟩)))
  have t44 : s38 309 2 = s14 309 2 := g42 2 (by decide)
  have t45 : s38 309 4 = r0 309 4 := (g42 4 (by decide)).trans t21
  have t46 : s38 309 6 = r0 309 6 := (g42 6 (by decide)).trans t22
  have t47 : s38 309 20 = r0 309 20 := (g42 20 (by decide)).trans t23
  have t48 : s38 309 36 = r0 309 36 := (g42 36 (by decide)).trans t24
  have t49 : s38 309 43 = r0 309 43 := (g42 43 (by decide)).trans t25
  have t50 : s38 309 44 = r0 309 44 := (g42 44 (by decide)).trans t26
  have t51 : s38 309 58 = r0 309 58 := (g42 58 (by decide)).trans t27
  have t52 : s38 316 0 = r0 316 0 := (g41 316 0 (by decide)).trans t28
  have t53 : s38 329 0 = r0 329 0 := (g41 329 0 (by decide)).trans t29
  have t54 : s38 329 1 = r0 329 1 := (g41 329 1 (by decide)).trans t30
  have u55 := CI_b c39 (k := 309) (j := 3) bd_309_3
  have r56 := y_TA.fr r32 (fun a b h => g41 a b (by omega)) (fun a b h => g41 a b (by omega)) (fun a b h => g41 a b (by omega))
  have r57 := y_DD.fr r33 (g41 329 0 (by decide)) (g41 329 1 (by decide)) (fun b => g41 359 b (by decide)) (fun b => g41 374 b (by decide))
  have r58 := y_B.fr r34 (g42 20 (by decide)) (g41 316 0 (by decide)) (fun b => g41 3220 b (by decide)) (fun b => g41 3221 b (by decide)) (fun b => g41 3222 b (by decide)) (fun b => g41 361 b (by decide))
  have r59 := y_K.fr r35 (by omega) (by omega) (g42 44 (by decide)) (g42 20 (by decide)) (g42 58 (by decide)) (fun b => g41 3438 b (by decide)) (fun b => g41 3220 b (by decide)) (fun a b h => g41 a b (by omega))
  have r60 := y_KM.fr r36 (g42 20 (by decide)) (g42 36 (by decide)) (g42 38 (by decide)) (g42 39 (by decide)) (fun b => g41 312 b (by decide)) (fun b => g41 331 b (by decide)) (fun b => g41 346 b (by decide)) (fun b => g41 361 b (by decide)) (fun b => g41 391 b (by decide)) (fun a b h => g41 a b (by omega)) (fun a b h => g41 a b (by omega)) (fun a b h => g41 a b (by omega))
  have r61 := y_YM.fr r37 (by omega) (g42 44 (by decide)) (g42 20 (by decide)) (g42 58 (by decide)) (fun b => g41 312 b (by decide)) (fun b => g41 331 b (by decide)) (fun b => g41 346 b (by decide)) (fun b => g41 361 b (by decide)) (fun b => g41 391 b (by decide)) (fun a b h => g41 a b (by omega)) (fun a b h => g41 a b (by omega)) (fun b => g41 3438 b (by decide)) (fun a b h => g41 a b (by omega)) (fun a b h => g41 a b (by omega))
  clear t21
  clear t22
  clear t23
  clear t24
  clear t25
  clear t26
  clear t27
  clear t28
  clear t29
  clear t30
  refine T_if1 (by decide +kernel) ?_
  refine T_upg c39 bd_309_4 (by omega) (fun s62 c63 g65 g66 e67 => ?_)
  have f64 := z_Fr.upf (R := R_X12_reads_309) f40 g65 g66 (Or.inr (Or.inr (⟨rfl, by decide⟩)))
  have t68 : s62 309 2 = s14 309 2 := (g66 2 (by decide)).trans t44
  have t69 : s62 309 3 = s38 309 3 := g66 3 (by decide)
  have t70 : s62 309 6 = r0 309 6 := (g66 6 (by decide)).trans t46
  have t71 : s62 309 20 = r0 309 20 := (g66 20 (by decide)).trans t47
  have t72 : s62 309 36 = r0 309 36 := (g66 36 (by decide)).trans t48
  have t73 : s62 309 43 = r0 309 43 := (g66 43 (by decide)).trans t49
  have t74 : s62 309 44 = r0 309 44 := (g66 44 (by decide)).trans t50
  have t75 : s62 309 58 = r0 309 58 := (g66 58 (by decide)).trans t51
  have t76 : s62 316 0 = r0 316 0 := (g65 316 0 (by decide)).trans t52
  have t77 : s62 329 0 = r0 329 0 := (g65 329 0 (by decide)).trans t53
  have t78 : s62 329 1 = r0 329 1 := (g65 329 1 (by decide)).trans t54
  have u79 := CI_b c63 (k := 309) (j := 4) bd_309_4
  have r80 := y_TA.fr r56 (fun a b h => g65 a b (by omega)) (fun a b h => g65 a b (by omega)) (fun a b h => g65 a b (by omega))
  have r81 := y_DD.fr r57 (g65 329 0 (by decide)) (g65 329 1 (by decide)) (fun b => g65 359 b (by decide)) (fun b => g65 374 b (by decide))
  have r82 := y_B.fr r58 (g66 20 (by decide)) (g65 316 0 (by decide)) (fun b => g65 3220 b (by decide)) (fun b => g65 3221 b (by decide)) (fun b => g65 3222 b (by decide)) (fun b => g65 361 b (by decide))
  have r83 := y_K.fr r59 (by omega) (by omega) (g66 44 (by decide)) (g66 20 (by decide)) (g66 58 (by decide)) (fun b => g65 3438 b (by decide)) (fun b => g65 3220 b (by decide)) (fun a b h => g65 a b (by omega))
  have r84 := y_KM.fr r60 (g66 20 (by decide)) (g66 36 (by decide)) (g66 38 (by decide)) (g66 39 (by decide)) (fun b => g65 312 b (by decide)) (fun b => g65 331 b (by decide)) (fun b => g65 346 b (by decide)) (fun b => g65 361 b (by decide)) (fun b => g65 391 b (by decide)) (fun a b h => g65 a b (by omega)) (fun a b h => g65 a b (by omega)) (fun a b h => g65 a b (by omega))
  have r85 := y_YM.fr r61 (by omega) (g66 44 (by decide)) (g66 20 (by decide)) (g66 58 (by decide)) (fun b => g65 312 b (by decide)) (fun b => g65 331 b (by decide)) (fun b => g65 346 b (by decide)) (fun b => g65 361 b (by decide)) (fun b => g65 391 b (by decide)) (fun a b h => g65 a b (by omega)) (fun a b h => g65 a b (by omega)) (fun b => g65 3438 b (by decide)) (fun a b h => g65 a b (by omega)) (fun a b h => g65 a b (by omega))
  clear t44
  clear t46
  clear t47
  clear t48
  clear t49
  clear t50
  clear t51
  clear t52
  clear t53
  clear t54
  refine T_if1 (by decide +kernel) ?_
  refine T_upg c63 bd_309_6 (by omega) (fun s86 c87 g89 g90 e91 => ?_)
  have f88 := z_Fr.upf (R := R_X12_reads_309) f64 g89 g90 (Or.inr (Or.inr (⟨rfl, by decide⟩)))
  have t92 : s86 309 2 = s14 309 2 := (g90 2 (by decide)).trans t68
  have t93 : s86 309 3 = s38 309 3 := (g90 3 (by decide)).trans t69
  have t94 : s86 309 4 = s62 309 4 := g90 4 (by decide)
  have t95 : s86 309 20 = r0 309 20 := (g90 20 (by decide)).trans t71
  have t96 : s86 309 36 = r0 309 36 := (g90 36 (by decide)).trans t72
  have t97 : s86 309 43 = r0 309 43 := (g90 43 (by decide)).trans t73
  have t98 : s86 309 44 = r0 309 44 := (g90 44 (by decide)).trans t74
  have t99 : s86 309 58 = r0 309 58 := (g90 58 (by decide)).trans t75
  have t100 : s86 316 0 = r0 316 0 := (g89 316 0 (by decide)).trans t76
  have t101 : s86 329 0 = r0 329 0 := (g89 329 0 (by decide)).trans t77
  have t102 : s86 329 1 = r0 329 1 := (g89 329 1 (by decide)).trans t78
  have u103 := CI_b c87 (k := 309) (j := 6) bd_309_6
  have r104 := y_TA.fr r80 (fun a b h => g89 a b (by omega)) (fun a b h => g89 a b (by omega)) (fun a b h => g89 a b (by omega))
  have r105 := y_DD.fr r81 (g89 329 0 (by decide)) (g89 329 1 (by decide)) (fun b => g89 359 b (by decide)) (fun b => g89 374 b (by decide))
  have r106 := y_B.fr r82 (g90 20 (by decide)) (g89 316 0 (by decide)) (fun b => g89 3220 b (by decide)) (fun b => g89 3221 b (by decide)) (fun b => g89 3222 b (by decide)) (fun b => g89 361 b (by decide))
  have r107 := y_K.fr r83 (by omega) (by omega) (g90 44 (by decide)) (g90 20 (by decide)) (g90 58 (by decide)) (fun b => g89 3438 b (by decide)) (fun b => g89 3220 b (by decide)) (fun a b h => g89 a b (by omega))
  have r108 := y_KM.fr r84 (g90 20 (by decide)) (g90 36 (by decide)) (g90 38 (by decide)) (g90 39 (by decide)) (fun b => g89 312 b (by decide)) (fun b => g89 331 b (by decide)) (fun b => g89 346 b (by decide)) (fun b => g89 361 b (by decide)) (fun b => g89 391 b (by decide)) (fun a b h => g89 a b (by omega)) (fun a b h => g89 a b (by omega)) (fun a b h => g89 a b (by omega))
  have r109 := y_YM.fr r85 (by omega) (g90 44 (by decide)) (g90 20 (by decide)) (g90 58 (by decide)) (fun b => g89 312 b (by decide)) (fun b => g89 331 b (by decide)) (fun b => g89 346 b (by decide)) (fun b => g89 361 b (by decide)) (fun b => g89 391 b (by decide)) (fun a b h => g89 a b (by omega)) (fun a b h => g89 a b (by omega)) (fun b => g89 3438 b (by decide)) (fun a b h => g89 a b (by omega)) (fun a b h => g89 a b (by omega))
  clear t68
  clear t69
  clear t71
  clear t72
  clear t73
  clear t74
  clear t75
  clear t76
  clear t77
  clear t78
  refine T_if1 (by decide +kernel) ?_
  refine T_upg c87 bd_309_7 (by omega) (fun s110 c111 g113 g114 e115 => ?_)
  have f112 := z_Fr.upf (R := R_X12_reads_309) f88 g113 g114 (Or.inr (Or.inr (⟨rfl, by decide⟩)))
  have t116 : s110 309 2 = s14 309 2 := (g114 2 (by decide)).trans t92
  have t117 : s110 309 3 = s38 309 3 := (g114 3 (by decide)).trans t93
  have t118 : s110 309 4 = s62 309 4 := (g114 4 (by decide)).trans t94
  have t119 : s110 309 6 = s86 309 6 := g114 6 (by decide)
  have t120 : s110 309 20 = r0 309 20 := (g114 20 (by decide)).trans t95
  have t121 : s110 309 36 = r0 309 36 := (g114 36 (by decide)).trans t96
  have t122 : s110 309 43 = r0 309 43 := (g114 43 (by decide)).trans t97
  have t123 : s110 309 44 = r0 309 44 := (g114 44 (by decide)).trans t98
  have t124 : s110 309 58 = r0 309 58 := (g114 58 (by decide)).trans t99
  have t125 : s110 316 0 = r0 316 0 := (g113 316 0 (by decide)).trans t100
  have t126 : s110 329 0 = r0 329 0 := (g113 329 0 (by decide)).trans t101
  have t127 : s110 329 1 = r0 329 1 := (g113 329 1 (by decide)).trans t102
  have r128 := y_TA.fr r104 (fun a b h => g113 a b (by omega)) (fun a b h => g113 a b (by omega)) (fun a b h => g113 a b (by omega))
  have r129 := y_DD.fr r105 (g113 329 0 (by decide)) (g113 329 1 (by decide)) (fun b => g113 359 b (by decide)) (fun b => g113 374 b (by decide))
  have r130 := y_B.fr r106 (g114 20 (by decide)) (g113 316 0 (by decide)) (fun b => g113 3220 b (by decide)) (fun b => g113 3221 b (by decide)) (fun b => g113 3222 b (by decide)) (fun b => g113 361 b (by decide))
  have r131 := y_K.fr r107 (by omega) (by omega) (g114 44 (by decide)) (g114 20 (by decide)) (g114 58 (by decide)) (fun b => g113 3438 b (by decide)) (fun b => g113 3220 b (by decide)) (fun a b h => g113 a b (by omega))
  have r132 := y_KM.fr r108 (g114 20 (by decide)) (g114 36 (by decide)) (g114 38 (by decide)) (g114 39 (by decide)) (fun b => g113 312 b (by decide)) (fun b => g113 331 b (by decide)) (fun b => g113 346 b (by decide)) (fun b => g113 361 b (by decide)) (fun b => g113 391 b (by decide)) (fun a b h => g113 a b (by omega)) (fun a b h => g113 a b (by omega)) (fun a b h => g113 a b (by omega))
  have r133 := y_YM.fr r109 (by omega) (g114 44 (by decide)) (g114 20 (by decide)) (g114 58 (by decide)) (fun b => g113 312 b (by decide)) (fun b => g113 331 b (by decide)) (fun b => g113 346 b (by decide)) (fun b => g113 361 b (by decide)) (fun b => g113 391 b (by decide)) (fun a b h => g113 a b (by omega)) (fun a b h => g113 a b (by omega)) (fun b => g113 3438 b (by decide)) (fun a b h => g113 a b (by omega)) (fun a b h => g113 a b (by omega))
  clear t92
  clear t93
  clear t94
  clear t95
  clear t96
  clear t97
  clear t98
  clear t99
  clear t100
  clear t101
  clear t102
  refine sl_X12_reads_309Y_L25 hfu r0 (fun s134 c135 f136 g137 g138 g139 g140 g141 g142 g143 g144 => ?_) fu s110 c111 f112 r128 r130 (by first | exact r131 | exact y_K.b0 (by omega) | exact y_K.k0 (by omega) | exact y_K.bk (by omega)) (by first | exact y_D.z (by omega) | exact y_D.cg (And.right r129) (by omega)) (by omega) (by omega) (by omega) (by first | exact r132 | exact y_KM.z (by omega)) (by first | exact r133 | exact y_YM.b0 (by omega) | exact y_YM.k0 (by omega) | exact y_YM.bk (by omega)) (by omega)
  have u145 := CI_b c135 (k := 309) (j := 2) bd_309_2
  have u146 := CI_b c135 (k := 309) (j := 3) bd_309_3
  have u147 := CI_b c135 (k := 309) (j := 4) bd_309_4
  have u148 := CI_b c135 (k := 309) (j := 6) bd_309_6
  have u149 := CI_b c135 (k := 309) (j := 20) bd_309_20
  have u150 := CI_b c135 (k := 309) (j := 36) bd_309_36
  have u151 := CI_b c135 (k := 309) (j := 43) bd_309_43
  have u152 := CI_b c135 (k := 309) (j := 44) bd_309_44
  have u153 := CI_b c135 (k := 309) (j := 58) bd_309_58
  have u154 := CI_b c135 (k := 316) (j := 0) bd_316_0
  have u155 := CI_b c135 (k := 329) (j := 0) bd_329_0
  have u156 := CI_b c135 (k := 329) (j := 1) bd_329_1
  have t157 : s134 309 43 = r0 309 43 := f136 309 43 (by decide)
  have t158 : s134 309 44 = r0 309 44 := f136 309 44 (by decide)
  have t159 : s134 309 58 = r0 309 58 := f136 309 58 (by decide)
  exact sj_X12_reads_309Y_J50 hfu r0 s134 c135 f136 g137 g138 (by first | exact g139 | exact y_K.b0 (by omega) | exact y_K.k0 (by omega) | exact y_K.bk (by omega)) (by first | exact y_D.cg g140 (by omega) | exact y_D.z (by omega) | exact y_D.ex g140 (by omega) (by omega)) (by omega) (by omega) (by first | exact g144 | exact y_YM.b0 (by omega) | exact y_YM.k0 (by omega) | exact y_YM.bk (by omega)) (by first | exact g143 | exact y_KM.z (by omega))
abbrev P_X12_text_309Y (r0 : z_M) (a1 : Int) : z_V → z_M → Prop := fun v s' => z_CI s' ∧ z_Fr R_X12_text_309 r0 s' ∧ (y_DD s') ∧ ((0 ≤ a1 ∧ a1 ≤ r0 309 2 ∧ s' 309 2 = 0) ∨ ((a1 < 0 ∨ r0 309 2 < a1) ∧ s' 309 2 = r0 309 2)) ∧ (y_TA s') ∧ (y_B s') ∧ (y_K s') ∧ (y_KM s') ∧ (y_YM s') ∧ (∃ x, v = vI x ∧ -2147483648 ≤ x ∧ x ≤ 2147483647)
theorem nz_X12_bad_309__3441_3450 (a b : Int) (h : 3441 ≤ a ∧ a ≤ 3450) : ¬ R_X12_bad_309 a b := by
  unfold R_X12_bad_309; omega
theorem sl_X12_text_309Y_L35 {fu : Nat} (hfu : 8589934592 ≤ fu) (r0 : z_M) (a1 : Int) (b1 : 0 ≤ a1 ∧ a1 ≤ 300) {k : z_M → z_O} (hk : ∀ (s' : z_M), z_CI s' → z_Fr R_X12_text_309 r0 s' → (s' 329 0 = 0) → (s' 329 1 = 0) → (s' 309 2 = r0 309 2) → (y_TA s') → (y_B s') → (y_K s') → (y_KM s') → (y_YM s') → z_T (k s') (P_X12_text_309Y r0 a1)) : ∀ (F : Nat) (s : z_M) (a2 : Int), z_CI s → z_Fr R_X12_text_309 r0 s → (0 ≤ a2 ∧ a2 ≤ 3) → (a2 ≤ 0 ∨ s 329 0 = 0) → (a2 ≤ 1 ∨ s 329 1 = 0) → (s 309 2 = r0 309 2) → (y_TA s) → (y_B s) → (y_K s) → (y_KM s) → (y_YM s) → (2147483647 - a2 < (F : Int)) → z_T (fX12_text_L35 fu 309 a1 F s a2 k) (P_X12_text_309Y r0 a1) := by
  intro F
  induction F with
  | zero =>
    intro s a2 c f b2 i0 i1 i2 i3 i4 i5 i6 i7 hm
    have u41 := CI_b c (k := 309) (j := 0) bd_309_0
    have u42 := CI_b c (k := 309) (j := 2) bd_309_2
    have u43 := CI_b c (k := 309) (j := 20) bd_309_20
    have u44 := CI_b c (k := 309) (j := 36) bd_309_36
    have u45 := CI_b c (k := 309) (j := 43) bd_309_43
    have u46 := CI_b c (k := 309) (j := 44) bd_309_44
    have u47 := CI_b c (k := 309) (j := 58) bd_309_58
    have u48 := CI_b c (k := 316) (j := 0) bd_316_0
    have u49 := CI_b c (k := 329) (j := 0) bd_329_0
    have u50 := CI_b c (k := 329) (j := 1) bd_329_1
    exfalso; omega
  | succ F ih =>
    intro s a2 c f b2 i0 i1 i2 i3 i4 i5 i6 i7 hm
    refine T_of (fX12_text_L35.eq_2 ..) ?_
    have u1 := CI_b c (k := 309) (j := 0) bd_309_0
    have u2 := CI_b c (k := 309) (j := 2) bd_309_2
    have u3 := CI_b c (k := 309) (j := 20) bd_309_20
    have u4 := CI_b c (k := 309) (j := 36) bd_309_36
    have u5 := CI_b c (k := 309) (j := 43) bd_309_43
    have u6 := CI_b c (k := 309) (j := 44) bd_309_44
    have u7 := CI_b c (k := 309) (j := 58) bd_309_58
    have u8 := CI_b c (k := 316) (j := 0) bd_316_0
    have u9 := CI_b c (k := 329) (j := 0) bd_329_0
    have u10 := CI_b c (k := 329) (j := 1) bd_329_1
    have t11 : s 309 43 = r0 309 43 := f 309 43 (by decide)
    have t12 : s 309 44 = r0 309 44 := f 309 44 (by decide)
    have t13 : s 309 58 = r0 309 58 := f 309 58 (by decide)
    refine T_ite (fun h14 => ?_) (fun h14 => ?_)
    · exact hk s c f (by omega) (by omega) (by omega) i3 i4 (by first | exact i5 | exact y_K.b0 (by omega) | exact y_K.k0 (by omega) | exact y_K.bk (by omega)) (by first | exact i6 | exact y_KM.z (by omega)) (by first | exact i7 | exact y_YM.b0 (by omega) | exact y_YM.k0 (by omega) | exact y_YM.bk (by omega))
    · refine T_if1 (by decide +kernel) ?_
      refine T_let 315 (by decide +kernel) ?_
      refine T_if1 (z_ixl (n := 14) (by decide +kernel) (by omega) (by omega)) ?_
      refine T_let 329 (by decide +kernel) ?_
      refine T_if1 (z_ixl (n := 3) (by decide +kernel) (by omega) (by omega)) ?_
      refine T_upg c (z_bde _ _) (z_bd0 _ _) (fun s15 c16 g18 g19 e20 => ?_)
      have f17 := z_Fr.up (R := R_X12_text_309) f g18 (fun _ => (Or.inr (Or.inl (⟨by decide, by decide⟩))))
      have t21 : s15 309 0 = s 309 0 := g18 309 0 (by decide)
      have t22 : s15 309 2 = s 309 2 := g18 309 2 (by decide)
      have t23 : s15 309 20 = s 309 20 := g18 309 20 (by decide)
      have t24 : s15 309 36 = s 309 36 := g18 309 36 (by decide)
      have t25 : s15 309 43 = s 309 43 := g18 309 43 (by decide)
      have t26 : s15 309 44 = s 309 44 := g18 309 44 (by decide)
      have t27 : s15 309 58 = s 309 58 := g18 309 58 (by decide)
      have t28 : s15 316 0 = s 316 0 := g18 316 0 (by decide)
      have u29 := CI_b c16 (k := 329) (j := 0) bd_329_0
      have u30 := CI_b c16 (k := 329) (j := 1) bd_329_1
      have r31 := y_TA.fr i3 (fun a b h => g18 a b (by omega)) (fun a b h => g18 a b (by omega)) (fun a b h => g18 a b (by omega))
      have r32 := y_B.fr i4 (g18 309 20 (by decide)) (g18 316 0 (by decide)) (fun b => g18 3220 b (by decide)) (fun b => g18 3221 b (by decide)) (fun b => g18 3222 b (by decide)) (fun b => g18 361 b (by decide))
      have r33 := y_K.fr i5 (by omega) (by omega) (g18 309 44 (by decide)) (g18 309 20 (by decide)) (g18 309 58 (by decide)) (fun b => g18 3438 b (by decide)) (fun b => g18 3220 b (by decide)) (fun a b h => g18 a b (by omega))
      have r34 := y_KM.fr i6 (g18 309 20 (by decide)) (g18 309 36 (by decide)) (g18 309 38 (by decide)) (g18 309 39 (by decide)) (fun b => g18 312 b (by decide)) (fun b => g18 331 b (by decide)) (fun b => g18 346 b (by decide)) (fun b => g18 361 b (by decide)) (fun b => g18 391 b (by decide)) (fun a b h => g18 a b (by omega)) (fun a b h => g18 a b (by omega)) (fun a b h => g18 a b (by omega))
      have r35 := y_YM.fr i7 (by omega) (g18 309 44 (by decide)) (g18 309 20 (by decide)) (g18 309 58 (by decide)) (fun b => g18 312 b (by decide)) (fun b => g18 331 b (by decide)) (fun b => g18 346 b (by decide)) (fun b => g18 361 b (by decide)) (fun b => g18 391 b (by decide)) (fun a b h => g18 a b (by omega)) (fun a b h => g18 a b (by omega)) (fun b => g18 3438 b (by decide)) (fun a b h => g18 a b (by omega)) (fun a b h => g18 a b (by omega))
      have n36 := z_pt g19 e20 0
      have n37 := z_pt g19 e20 1
      refine T_leq (fun x38 e39 => ?_)
      first | (have w40 := z_wx e39 (by omega)) | (have w40 := z_wr e39)
      exact ih s15 x38 c16 f17 (by omega) (by omega) (by omega) (by omega) r31 r32 (by first | exact r33 | exact y_K.b0 (by omega) | exact y_K.k0 (by omega) | exact y_K.bk (by omega)) (by first | exact r34 | exact y_KM.z (by omega)) (by first | exact r35 | exact y_YM.b0 (by omega) | exact y_YM.k0 (by omega) | exact y_YM.bk (by omega)) (by omega)
theorem nr_X12_reads_309__3438 (b : Int) : ¬ R_X12_reads_309 3438 b := by
  unfold R_X12_reads_309; omega
theorem nz_X12_reads_309__3441_3450 (a b : Int) (h : 3441 ≤ a ∧ a ≤ 3450) : ¬ R_X12_reads_309 a b := by
  unfold R_X12_reads_309; omega
theorem nz_X12_reads_309__3452_3651 (a b : Int) (h : 3452 ≤ a ∧ a ≤ 3651) : ¬ R_X12_reads_309 a b := by
  unfold R_X12_reads_309; omega
theorem sj_X12_text_309Y_J23 {fu : Nat} (hfu : 8589934592 ≤ fu) (r0 s : z_M) (c : z_CI s) (f : z_Fr R_X12_text_309 r0 s) (a1 : Int) (t1 : Int) (b1 : -2147483648 ≤ a1 ∧ a1 ≤ 2147483647) (d1 : 0 ≤ t1 ∧ t1 ≤ 1) (p0 : t1 = 1 ∨ (0 ≤ a1 ∧ a1 ≤ s 309 2)) (p1 : s 309 0 = 0) (p2 : t1 = 0 ∨ a1 < 0 ∨ s 309 2 < a1) (p3 : y_DD s) (p4 : s 309 2 = r0 309 2) (p5 : y_TA s) (p6 : y_B s) (p7 : y_K s) (p8 : y_KM s) (p9 : y_YM s) : z_T (fX12_text_J23 fu s 309 a1 309 t1) (P_X12_text_309Y r0 a1) := by
  refine T_of (fX12_text_J23.eq_1 ..) ?_
  have u1 := CI_b c (k := 309) (j := 0) bd_309_0
  have u2 := CI_b c (k := 309) (j := 2) bd_309_2
  have u3 := CI_b c (k := 309) (j := 20) bd_309_20
  have u4 := CI_b c (k := 309) (j := 36) bd_309_36
  have u5 := CI_b c (k := 309) (j := 43) bd_309_43
  have u6 := CI_b c (k := 309) (j := 44) bd_309_44
  have u7 := CI_b c (k := 309) (j := 58) bd_309_58
  have u8 := CI_b c (k := 316) (j := 0) bd_316_0
  have u9 := CI_b c (k := 329) (j := 0) bd_329_0
  have u10 := CI_b c (k := 329) (j := 1) bd_329_1
  have t11 : s 309 43 = r0 309 43 := f 309 43 (by decide)
  have t12 : s 309 44 = r0 309 44 := f 309 44 (by decide)
  have t13 : s 309 58 = r0 309 58 := f 309 58 (by decide)
  refine T_if1 (by decide +kernel) ?_
  refine T_useI (sf_X12_bad_309 hfu s c t1 1 1 (by omega) (by omega) (by omega) (by omega)) (fun v19 s14 hq => ?_)
  obtain ⟨c15, f16, o20, ⟨x18, rfl, b21, b22, o23, o24⟩⟩ := hq
  refine T_vI ?_
  have f17 := z_Fr.tr (R := R_X12_text_309) f f16 rs_X12_bad_309__X12_text_309
  have t25 : s14 309 2 = s 309 2 := f16 309 2 (by decide)
  have t26 : s14 309 20 = s 309 20 := f16 309 20 (by decide)
  have t27 : s14 309 36 = s 309 36 := f16 309 36 (by decide)
  have t28 : s14 309 43 = s 309 43 := f16 309 43 (by decide)
  have t29 : s14 309 44 = s 309 44 := f16 309 44 (by decide)
  have t30 : s14 309 58 = s 309 58 := f16 309 58 (by decide)
  have t31 : s14 316 0 = s 316 0 := f16 316 0 (by decide)
  have t32 : s14 329 0 = s 329 0 := f16 329 0 (by decide)
  have t33 : s14 329 1 = s 329 1 := f16 329 1 (by decide)
  have u34 := CI_b c15 (k := 309) (j := 0) bd_309_0
  have r35 := y_DD.fr p3 (f16 329 0 (by decide)) (f16 329 1 (by decide)) (fun b => f16 359 b (nr_X12_bad_309__359 b)) (fun b => f16 374 b (nr_X12_bad_309__374 b))
  have r36 := y_TA.fr p5 (fun a b h => f16 a b (nz_X12_bad_309__316_328 a b h)) (fun a b h => f16 a b (nz_X12_bad_309__346_358 a b h)) (fun a b h => f16 a b (nz_X12_bad_309__361_373 a b h))
  have r37 := y_B.fr p6 (f16 309 20 (by decide)) (f16 316 0 (by decide)) (fun b => f16 3220 b (nr_X12_bad_309__3220 b)) (fun b => f16 3221 b (nr_X12_bad_309__3221 b)) (fun b => f16 3222 b (nr_X12_bad_309__3222 b)) (fun b => f16 361 b (nr_X12_bad_309__361 b))
  have r38 := y_K.fr p7 (by omega) (by omega) (f16 309 44 (by decide)) (f16 309 20 (by decide)) (f16 309 58 (by decide)) (fun b => f16 3438 b (nr_X12_bad_309__3438 b)) (fun b => f16 3220 b (nr_X12_bad_309__3220 b)) (fun a b h => f16 a b (nz_X12_bad_309__3452_3651 a b h))
  have r39 := y_KM.fr p8 (f16 309 20 (by decide)) (f16 309 36 (by decide)) (f16 309 38 (by decide)) (f16 309 39 (by decide)) (fun b => f16 312 b (nr_X12_bad_309__312 b)) (fun b => f16 331 b (nr_X12_bad_309__331 b)) (fun b => f16 346 b (nr_X12_bad_309__346 b)) (fun b => f16 361 b (nr_X12_bad_309__361 b)) (fun b => f16 391 b (nr_X12_bad_309__391 b)) (fun a b h => f16 a b (nz_X12_bad_309__407_606 a b h)) (fun a b h => f16 a b (nz_X12_bad_309__3220_3223 a b h)) (fun a b h => f16 a b (nz_X12_bad_309__3235_3437 a b h))
  have r40 := y_YM.fr p9 (by omega) (f16 309 44 (by decide)) (f16 309 20 (by decide)) (f16 309 58 (by decide)) (fun b => f16 312 b (nr_X12_bad_309__312 b)) (fun b => f16 331 b (nr_X12_bad_309__331 b)) (fun b => f16 346 b (nr_X12_bad_309__346 b)) (fun b => f16 361 b (nr_X12_bad_309__361 b)) (fun b => f16 391 b (nr_X12_bad_309__391 b)) (fun a b h => f16 a b (nz_X12_bad_309__407_606 a b h)) (fun a b h => f16 a b (nz_X12_bad_309__3220_3223 a b h)) (fun b => f16 3438 b (nr_X12_bad_309__3438 b)) (fun a b h => f16 a b (nz_X12_bad_309__3441_3450 a b h)) (fun a b h => f16 a b (nz_X12_bad_309__3452_3651 a b h))
  refine T_ite (fun h41 => ?_) (fun h41 => ?_)
  · refine sl_X12_text_309Y_L35 hfu r0 a1 (by omega) (fun s42 c43 f44 g45 g46 g47 g48 g49 g50 g51 g52 => ?_) fu s14 0 c15 f17 (by omega) (by omega) (by omega) (by omega) r36 r37 (by first | exact r38 | exact y_K.b0 (by omega) | exact y_K.k0 (by omega) | exact y_K.bk (by omega)) (by first | exact r39 | exact y_KM.z (by omega)) (by first | exact r40 | exact y_YM.b0 (by omega) | exact y_YM.k0 (by omega) | exact y_YM.bk (by omega)) (by omega)
    have u53 := CI_b c43 (k := 309) (j := 0) bd_309_0
    have u54 := CI_b c43 (k := 309) (j := 2) bd_309_2
    have u55 := CI_b c43 (k := 309) (j := 20) bd_309_20
    have u56 := CI_b c43 (k := 309) (j := 36) bd_309_36
    have u57 := CI_b c43 (k := 309) (j := 43) bd_309_43
    have u58 := CI_b c43 (k := 309) (j := 44) bd_309_44
    have u59 := CI_b c43 (k := 309) (j := 58) bd_309_58
    have u60 := CI_b c43 (k := 316) (j := 0) bd_316_0
    have u61 := CI_b c43 (k := 329) (j := 0) bd_329_0
    have u62 := CI_b c43 (k := 329) (j := 1) bd_329_1
    have t63 : s42 309 43 = r0 309 43 := f44 309 43 (by decide)
    have t64 : s42 309 44 = r0 309 44 := f44 309 44 (by decide)
    have t65 : s42 309 58 = r0 309 58 := f44 309 58 (by decide)
    refine T_if1 (by decide +kernel) ?_
    refine T_useI (sf_X12_reads_309Y hfu s42 c43 a1 (by omega) g48 (by first | exact y_DD.z (by omega) (by omega)) g49 (by first | exact g50 | exact y_K.b0 (by omega) | exact y_K.k0 (by omega) | exact y_K.bk (by omega)) (by first | exact g51 | exact y_KM.z (by omega)) (by first | exact g52 | exact y_YM.b0 (by omega) | exact y_YM.k0 (by omega) | exact y_YM.bk (by omega))) (fun v71 s66 hq => ?_)
    obtain ⟨c67, f68, o72, o73, o74, o75, o76, o77, o78, ⟨x70, rfl, b79, b80⟩⟩ := hq
    refine T_vI ?_
    have f69 := z_Fr.tr (R := R_X12_text_309) f44 f68 rs_X12_reads_309__X12_text_309
    have t81 : s66 309 0 = s42 309 0 := f68 309 0 (by decide)
    have t82 : s66 309 43 = s42 309 43 := f68 309 43 (by decide)
    have t83 : s66 309 44 = s42 309 44 := f68 309 44 (by decide)
    have t84 : s66 309 58 = s42 309 58 := f68 309 58 (by decide)
    have u85 := CI_b c67 (k := 309) (j := 2) bd_309_2
    have u86 := CI_b c67 (k := 309) (j := 20) bd_309_20
    have u87 := CI_b c67 (k := 309) (j := 36) bd_309_36
    have u88 := CI_b c67 (k := 316) (j := 0) bd_316_0
    have u89 := CI_b c67 (k := 329) (j := 0) bd_329_0
    have u90 := CI_b c67 (k := 329) (j := 1) bd_329_1
    exact T_ret ⟨c67, f69, (by first | exact o73 | exact y_DD.z (by omega) (by omega)), (by omega), o72, o74, (by first | exact o75 | exact y_K.b0 (by omega) | exact y_K.k0 (by omega) | exact y_K.bk (by omega)), (by first | exact o77 | exact y_KM.z (by omega)), (by first | exact o78 | exact y_YM.b0 (by omega) | exact y_YM.k0 (by omega) | exact y_YM.bk (by omega)), ⟨x70, rfl, by omega, by omega⟩⟩
  · exact T_ret ⟨c15, f17, (by first | exact r35 | exact y_DD.z (by omega) (by omega)), (by omega), r36, r37, (by first | exact r38 | exact y_K.b0 (by omega) | exact y_K.k0 (by omega) | exact y_K.bk (by omega)), (by first | exact r39 | exact y_KM.z (by omega)), (by first | exact r40 | exact y_YM.b0 (by omega) | exact y_YM.k0 (by omega) | exact y_YM.bk (by omega)), ⟨0, rfl, by omega, by omega⟩⟩
theorem sf_X12_text_309Y {fu : Nat} (hfu : 8589934592 ≤ fu) (r0 : z_M) (c0 : z_CI r0) (a1 : Int) (b1 : -2147483648 ≤ a1 ∧ a1 ≤ 2147483647) (p0 : y_DD r0) (p1 : y_TA r0) (p2 : y_B r0) (p3 : y_K r0) (p4 : y_KM r0) (p5 : y_YM r0) : z_T (fX12_text fu r0 309 a1) (P_X12_text_309Y r0 a1) := by
  refine T_of (fX12_text.eq_1 ..) ?_
  have u1 := CI_b c0 (k := 309) (j := 0) bd_309_0
  have u2 := CI_b c0 (k := 309) (j := 2) bd_309_2
  have u3 := CI_b c0 (k := 309) (j := 20) bd_309_20
  have u4 := CI_b c0 (k := 309) (j := 36) bd_309_36
  have u5 := CI_b c0 (k := 309) (j := 43) bd_309_43
  have u6 := CI_b c0 (k := 309) (j := 44) bd_309_44
  have u7 := CI_b c0 (k := 309) (j := 58) bd_309_58
  have u8 := CI_b c0 (k := 316) (j := 0) bd_316_0
  have u9 := CI_b c0 (k := 329) (j := 0) bd_329_0
  have u10 := CI_b c0 (k := 329) (j := 1) bd_329_1
  refine T_if1 (by decide +kernel) ?_
  refine T_upg c0 bd_309_0 (by omega) (fun s11 c12 g14 g15 e16 => ?_)
  have f13 := z_Fr.upf (R := R_X12_text_309) z_Fr.rf g14 g15 (Or.inr (Or.inr (Or.inr (⟨rfl, by decide⟩))))
  have t17 : s11 309 2 = r0 309 2 := g15 2 (by decide)
  have t18 : s11 309 20 = r0 309 20 := g15 20 (by decide)
  have t19 : s11 309 36 = r0 309 36 := g15 36 (by decide)
  have t20 : s11 309 43 = r0 309 43 := g15 43 (by decide)
  have t21 : s11 309 44 = r0 309 44 := g15 44 (by decide)
  have t22 : s11 309 58 = r0 309 58 := g15 58 (by decide)
  have t23 : s11 316 0 = r0 316 0 := g14 316 0 (by decide)
  have t24 : s11 329 0 = r0 329 0 := g14 329 0 (by decide)
  have t25 : s11 329 1 = r0 329 1 := g14 329 1 (by decide)
  have u26 := CI_b c12 (k := 309) (j := 0) bd_309_0
  have r27 := y_DD.fr p0 (g14 329 0 (by decide)) (g14 329 1 (by decide)) (fun b => g14 359 b (by decide)) (fun b => g14 374 b (by decide))
  have r28 := y_TA.fr p1 (fun a b h => g14 a b (by omega)) (fun a b h => g14 a b (by omega)) (fun a b h => g14 a b (by omega))
  have r29 := y_B.fr p2 (g15 20 (by decide)) (g14 316 0 (by decide)) (fun b => g14 3220 b (by decide)) (fun b => g14 3221 b (by decide)) (fun b => g14 3222 b (by decide)) (fun b => g14 361 b (by decide))
  have r30 := y_K.fr p3 (by omega) (by omega) (g15 44 (by decide)) (g15 20 (by decide)) (g15 58 (by decide)) (fun b => g14 3438 b (by decide)) (fun b => g14 3220 b (by decide)) (fun a b h => g14 a b (by omega))
  have r31 := y_KM.fr p4 (g15 20 (by decide)) (g15 36 (by decide)) (g15 38 (by decide)) (g15 39 (by decide)) (fun b => g14 312 b (by decide)) (fun b => g14 331 b (by decide)) (fun b => g14 346 b (by decide)) (fun b => g14 361 b (by decide)) (fun b => g14 391 b (by decide)) (fun a b h => g14 a b (by omega)) (fun a b h => g14 a b (by omega)) (fun a b h => g14 a b (by omega))
  have r32 := y_YM.fr p5 (by omega) (g15 44 (by decide)) (g15 20 (by decide)) (g15 58 (by decide)) (fun b => g14 312 b (by decide)) (fun b => g14 331 b (by decide)) (fun b => g14 346 b (by decide)) (fun b => g14 361 b (by decide)) (fun b => g14 391 b (by decide)) (fun a b h => g14 a b (by omega)) (fun a b h => g14 a b (by omega)) (fun b => g14 3438 b (by decide)) (fun a b h => g14 a b (by omega)) (fun a b h => g14 a b (by omega))
  refine T_if1 (by decide +kernel) ?_
  refine T_leq (fun x33 e34 => ?_)
  have u35 := CI_b c12 (k := 309) (j := 2) bd_309_2
  refine T_useI (sf_X12_in hfu s11 c12 a1 0 x33 (by omega) (by omega) (by omega)) (fun v41 s36 hq => ?_)
  obtain ⟨c37, f38, ⟨x40, rfl, b42, b43, o44⟩⟩ := hq
  refine T_vI ?_
  have q45 := z_Fr.eq (fun a b h => h) f38
  subst q45
  refine T_ite (fun h46 => ?_) (fun h46 => ?_)
  · exact sj_X12_text_309Y_J23 hfu r0 s11 c12 f13 a1 0 (by omega) (by omega) (by omega) (by omega) (by omega) (by first | exact r27 | exact y_DD.z (by omega) (by omega)) (by omega) r28 r29 (by first | exact r30 | exact y_K.b0 (by omega) | exact y_K.k0 (by omega) | exact y_K.bk (by omega)) (by first | exact r31 | exact y_KM.z (by omega)) (by first | exact r32 | exact y_YM.b0 (by omega) | exact y_YM.k0 (by omega) | exact y_YM.bk (by omega))
  · exact sj_X12_text_309Y_J23 hfu r0 s11 c12 f13 a1 1 (by omega) (by omega) (by omega) (by omega) (by omega) (by first | exact r27 | exact y_DD.z (by omega) (by omega)) (by omega) r28 r29 (by first | exact r30 | exact y_K.b0 (by omega) | exact y_K.k0 (by omega) | exact y_K.bk (by omega)) (by first | exact r31 | exact y_KM.z (by omega)) (by first | exact r32 | exact y_YM.b0 (by omega) | exact y_YM.k0 (by omega) | exact y_YM.bk (by omega))
abbrev P_X12_more__309Y (r0 : z_M) (a1 : Int) : z_V → z_M → Prop := fun v s' => z_CI s' ∧ z_Fr R_X12_more__309 r0 s' ∧ (y_DD s') ∧ ((0 ≤ a1 ∧ a1 ≤ r0 309 2 ∧ s' 309 2 = 0) ∨ ((a1 < 0 ∨ r0 309 2 < a1) ∧ s' 309 2 = r0 309 2)) ∧ (y_TA s') ∧ (y_B s') ∧ (y_K s') ∧ (y_KM s') ∧ (y_YM s') ∧ (∃ x, v = vI x ∧ -2147483648 ≤ x ∧ x ≤ 2147483647)
set_option maxHeartbeats 4000000 in
theorem sj_X12_more__309Y_J23 {fu : Nat} (hfu : 8589934592 ≤ fu) (r0 s : z_M) (c : z_CI s) (f : z_Fr R_X12_more__309 r0 s) (a1 : Int) (t1 : Int) (b1 : -2147483648 ≤ a1 ∧ a1 ≤ 2147483647) (d1 : 0 ≤ t1 ∧ t1 ≤ 1) (p0 : t1 = 1 ∨ (0 ≤ a1 ∧ a1 ≤ s 309 2)) (p1 : s 309 0 = 0) (p2 : t1 = 0 ∨ a1 < 0 ∨ s 309 2 < a1) (p3 : y_DD s) (p4 : s 309 2 = r0 309 2) (p5 : y_TA s) (p6 : y_B s) (p7 : y_K s) (p8 : y_KM s) (p9 : y_YM s) : z_T (fX12_more__J23 fu s 309 a1 309 t1) (P_X12_more__309Y r0 a1) := by
  refine T_of (fX12_more__J23.eq_1 ..) ?_
  have u1 := CI_b c (k := 309) (j := 0) bd_309_0
  have u2 := CI_b c (k := 309) (j := 2) bd_309_2
  have u3 := CI_b c (k := 309) (j := 20) bd_309_20
  have u4 := CI_b c (k := 309) (j := 36) bd_309_36
  have u5 := CI_b c (k := 309) (j := 43) bd_309_43
  have u6 := CI_b c (k := 309) (j := 44) bd_309_44
  have u7 := CI_b c (k := 309) (j := 58) bd_309_58
  have u8 := CI_b c (k := 316) (j := 0) bd_316_0
  have u9 := CI_b c (k := 329) (j := 0) bd_329_0
  have u10 := CI_b c (k := 329) (j := 1) bd_329_1
  have t11 : s 309 43 = r0 309 43 := f 309 43 (by decide)
  have t12 : s 309 44 = r0 309 44 := f 309 44 (by decide)
  have t13 : s 309 58 = r0 309 58 := f 309 58 (by decide)
  refine T_if1 (by decide +kernel) ?_
  refine T_useI (sf_X12_bad_309 hfu s c t1 1 1 (by omega) (by omega) (by omega) (by omega)) (fun v19 s14 hq => ?_)
  obtain ⟨c15, f16, o20, ⟨x18, rfl, b21, b22, o23, o24⟩⟩ := hq
  refine T_vI ?_
  have f17 := z_Fr.tr (R := R_X12_more__309) f f16 rs_X12_bad_309__X12_more__309
  have t25 : s14 309 2 = s 309 2 := f16 309 2 (by decide)
  have t26 : s14 309 20 = s 309 20 := f16 309 20 (by decide)
  have t27 : s14 309 36 = s 309 36 := f16 309 36 (by decide)
  have t28 : s14 309 43 = s 309 43 := f16 309 43 (by decide)
  have t29 : s14 309 44 = s 309 44 := f16 309 44 (by decide)
  have t30 : s14 309 58 = s 309 58 := f16 309 58 (by decide)
  have t31 : s14 316 0 = s 316 0 := f16 316 0 (by decide)
  have t32 : s14 329 0 = s 329 0 := f16 329 0 (by decide)
  have t33 : s14 329 1 = s 329 1 := f16 329 1 (by decide)
  have u34 := CI_b c15 (k := 309) (j := 0) bd_309_0
  have r35 := y_DD.fr p3 (f16 329 0 (by decide)) (f16 329 1 (by decide)) (fun b => f16 359 b (nr_X12_bad_309__359 b)) (fun b => f16 374 b (nr_X12_bad_309__374 b))
  have r36 := y_TA.fr p5 (fun a b h => f16 a b (nz_X12_bad_309__316_328 a b h)) (fun a b h => f16 a b (nz_X12_bad_309__346_358 a b h)) (fun a b h => f16 a b (nz_X12_bad_309__361_373 a b h))
  have r37 := y_B.fr p6 (f16 309 20 (by decide)) (f16 316 0 (by decide)) (fun b => f16 3220 b (nr_X12_bad_309__3220 b)) (fun b => f16 3221 b (nr_X12_bad_309__3221 b)) (fun b => f16 3222 b (nr_X12_bad_309__3222 b)) (fun b => f16 361 b (nr_X12_bad_309__361 b))
  have r38 := y_K.fr p7 (by omega) (by omega) (f16 309 44 (by decide)) (f16 309 20 (by decide)) (f16 309 58 (by decide)) (fun b => f16 3438 b (nr_X12_bad_309__3438 b)) (fun b => f16 3220 b (nr_X12_bad_309__3220 b)) (fun a b h => f16 a b (nz_X12_bad_309__3452_3651 a b h))
  have r39 := y_KM.fr p8 (f16 309 20 (by decide)) (f16 309 36 (by decide)) (f16 309 38 (by decide)) (f16 309 39 (by decide)) (fun b => f16 312 b (nr_X12_bad_309__312 b)) (fun b => f16 331 b (nr_X12_bad_309__331 b)) (fun b => f16 346 b (nr_X12_bad_309__346 b)) (fun b => f16 361 b (nr_X12_bad_309__361 b)) (fun b => f16 391 b (nr_X12_bad_309__391 b)) (fun a b h => f16 a b (nz_X12_bad_309__407_606 a b h)) (fun a b h => f16 a b (nz_X12_bad_309__3220_3223 a b h)) (fun a b h => f16 a b (nz_X12_bad_309__3235_3437 a b h))
  have r40 := y_YM.fr p9 (by omega) (f16 309 44 (by decide)) (f16 309 20 (by decide)) (f16 309 58 (by decide)) (fun b => f16 312 b (nr_X12_bad_309__312 b)) (fun b => f16 331 b (nr_X12_bad_309__331 b)) (fun b => f16 346 b (nr_X12_bad_309__346 b)) (fun b => f16 361 b (nr_X12_bad_309__361 b)) (fun b => f16 391 b (nr_X12_bad_309__391 b)) (fun a b h => f16 a b (nz_X12_bad_309__407_606 a b h)) (fun a b h => f16 a b (nz_X12_bad_309__3220_3223 a b h)) (fun b => f16 3438 b (nr_X12_bad_309__3438 b)) (fun a b h => f16 a b (nz_X12_bad_309__3441_3450 a b h)) (fun a b h => f16 a b (nz_X12_bad_309__3452_3651 a b h))
  refine T_ite (fun h41 => ?_) (fun h41 => ?_)
  · refine T_if1 (by decide +kernel) ?_
    refine T_useN (sf_X12_copies_309Y hfu s14 c15 0 13 (by omega) (by omega) (by omega) (by first | exact r39 | exact y_KM.z (by omega)) (by first | exact r40 | exact y_YM.b0 (by omega) | exact y_YM.k0 (by omega) | exact y_YM.bk (by omega))) (fun v47 s42 hq => ?_)
    obtain ⟨c43, f44, o48, o49, o50, rfl⟩ := hq
    refine T_vN ?_
    have f45 := z_Fr.tr (R := R_X12_more__309) f17 f44 rs_X12_copies_309__X12_more__309
    have t53 : s42 309 0 = s14 309 0 := f44 309 0 (by decide)
    have t54 : s42 309 2 = s 309 2 := (f44 309 2 (by decide)).trans t25
    have t55 : s42 309 20 = s 309 20 := (f44 309 20 (by decide)).trans t26
    have t56 : s42 309 36 = s 309 36 := (f44 309 36 (by decide)).trans t27
    have t57 : s42 309 43 = s 309 43 := (f44 309 43 (by decide)).trans t28
    have t58 : s42 309 44 = s 309 44 := (f44 309 44 (by decide)).trans t29
    have t59 : s42 309 58 = s 309 58 := (f44 309 58 (by decide)).trans t30
    have u60 := CI_b c43 (k := 316) (j := 0) bd_316_0
    have u61 := CI_b c43 (k := 329) (j := 0) bd_329_0
    have u62 := CI_b c43 (k := 329) (j := 1) bd_329_1
    have r63 := y_K.fr r38 (by omega) (by omega) (f44 309 44 (by decide)) (f44 309 20 (by decide)) (f44 309 58 (by decide)) (fun b => f44 3438 b (nr_X12_copies_309__3438 b)) (fun b => f44 3220 b (nr_X12_copies_309__3220 b)) (fun a b h => f44 a b (nz_X12_copies_309__3452_3651 a b h))
    have r64 := y_CP.TA o48 c15 (by omega) r36
    have r65 := y_CP.DD o48 c15 (by omega) r36
    have r66 := y_CP.B o48 (by omega) r37 (f44 309 20 (by unfold R_X12_copies_309; omega)) (fun b => f44 3220 b (by unfold R_X12_copies_309; omega)) (fun b => f44 3221 b (by unfold R_X12_copies_309; omega)) (fun b => f44 3222 b (by unfold R_X12_copies_309; omega))
    clear t25
    clear t26
    clear t27
    clear t28
    clear t29
    clear t30
    refine T_if1 (by decide +kernel) ?_
    refine T_useI (sf_X12_reads_309Y hfu s42 c43 a1 (by omega) r64 (by first | exact r65 | exact y_DD.z (by omega) (by omega)) r66 (by first | exact r63 | exact y_K.b0 (by omega) | exact y_K.k0 (by omega) | exact y_K.bk (by omega)) (by first | exact y_KM.z (by omega) | exact y_KQ.m o49 (by omega)) (by first | exact y_YM.b0 (by omega) | exact y_YM.k0 (by omega) | exact y_YM.bk (by omega) | exact y_YQ.m o50 (by omega))) (fun v72 s67 hq => ?_)
    obtain ⟨c68, f69, o73, o74, o75, o76, o77, o78, o79, ⟨x71, rfl, b80, b81⟩⟩ := hq
    refine T_vI ?_
    have f70 := z_Fr.tr (R := R_X12_more__309) f45 f69 rs_X12_reads_309__X12_more__309
    have t82 : s67 309 0 = s14 309 0 := (f69 309 0 (by decide)).trans t53
    have t83 : s67 309 43 = s 309 43 := (f69 309 43 (by decide)).trans t57
    have t84 : s67 309 44 = s 309 44 := (f69 309 44 (by decide)).trans t58
    have t85 : s67 309 58 = s 309 58 := (f69 309 58 (by decide)).trans t59
    have u86 := CI_b c68 (k := 309) (j := 2) bd_309_2
    have u87 := CI_b c68 (k := 309) (j := 20) bd_309_20
    have u88 := CI_b c68 (k := 309) (j := 36) bd_309_36
    have u89 := CI_b c68 (k := 316) (j := 0) bd_316_0
    have u90 := CI_b c68 (k := 329) (j := 0) bd_329_0
    have u91 := CI_b c68 (k := 329) (j := 1) bd_329_1
    clear t53
    clear t57
    clear t58
    clear t59
    exact T_ret ⟨c68, f70, (by first | exact o74 | exact y_DD.z (by omega) (by omega)), (by omega), o73, o75, (by first | exact o76 | exact y_K.b0 (by omega) | exact y_K.k0 (by omega) | exact y_K.bk (by omega)), (by first | exact o78 | exact y_KM.z (by omega)), (by first | exact o79 | exact y_YM.b0 (by omega) | exact y_YM.k0 (by omega) | exact y_YM.bk (by omega)), ⟨x71, rfl, by omega, by omega⟩⟩
  · exact T_ret ⟨c15, f17, (by first | exact r35 | exact y_DD.z (by omega) (by omega)), (by omega), r36, r37, (by first | exact r38 | exact y_K.b0 (by omega) | exact y_K.k0 (by omega) | exact y_K.bk (by omega)), (by first | exact r39 | exact y_KM.z (by omega)), (by first | exact r40 | exact y_YM.b0 (by omega) | exact y_YM.k0 (by omega) | exact y_YM.bk (by omega)), ⟨0, rfl, by omega, by omega⟩⟩
theorem sf_X12_more__309Y {fu : Nat} (hfu : 8589934592 ≤ fu) (r0 : z_M) (c0 : z_CI r0) (a1 : Int) (b1 : -2147483648 ≤ a1 ∧ a1 ≤ 2147483647) (p0 : y_DD r0) (p1 : y_TA r0) (p2 : y_B r0) (p3 : y_K r0) (p4 : y_KM r0) (p5 : y_YM r0) : z_T (fX12_more_ fu r0 309 a1) (P_X12_more__309Y r0 a1) := by
  refine T_of (fX12_more_.eq_1 ..) ?_
  have u1 := CI_b c0 (k := 309) (j := 0) bd_309_0
  have u2 := CI_b c0 (k := 309) (j := 2) bd_309_2
  have u3 := CI_b c0 (k := 309) (j := 20) bd_309_20
  have u4 := CI_b c0 (k := 309) (j := 36) bd_309_36
  have u5 := CI_b c0 (k := 309) (j := 43) bd_309_43
  have u6 := CI_b c0 (k := 309) (j := 44) bd_309_44
  have u7 := CI_b c0 (k := 309) (j := 58) bd_309_58
  have u8 := CI_b c0 (k := 316) (j := 0) bd_316_0
  have u9 := CI_b c0 (k := 329) (j := 0) bd_329_0
  have u10 := CI_b c0 (k := 329) (j := 1) bd_329_1
  refine T_if1 (by decide +kernel) ?_
  refine T_upg c0 bd_309_0 (by omega) (fun s11 c12 g14 g15 e16 => ?_)
  have f13 := z_Fr.upf (R := R_X12_more__309) z_Fr.rf g14 g15 (Or.inr (Or.inr (Or.inr (⟨rfl, by decide⟩))))
  have t17 : s11 309 2 = r0 309 2 := g15 2 (by decide)
  have t18 : s11 309 20 = r0 309 20 := g15 20 (by decide)
  have t19 : s11 309 36 = r0 309 36 := g15 36 (by decide)
  have t20 : s11 309 43 = r0 309 43 := g15 43 (by decide)
  have t21 : s11 309 44 = r0 309 44 := g15 44 (by decide)
  have t22 : s11 309 58 = r0 309 58 := g15 58 (by decide)
  have t23 : s11 316 0 = r0 316 0 := g14 316 0 (by decide)
  have t24 : s11 329 0 = r0 329 0 := g14 329 0 (by decide)
  have t25 : s11 329 1 = r0 329 1 := g14 329 1 (by decide)
  have u26 := CI_b c12 (k := 309) (j := 0) bd_309_0
  have r27 := y_DD.fr p0 (g14 329 0 (by decide)) (g14 329 1 (by decide)) (fun b => g14 359 b (by decide)) (fun b => g14 374 b (by decide))
  have r28 := y_TA.fr p1 (fun a b h => g14 a b (by omega)) (fun a b h => g14 a b (by omega)) (fun a b h => g14 a b (by omega))
  have r29 := y_B.fr p2 (g15 20 (by decide)) (g14 316 0 (by decide)) (fun b => g14 3220 b (by decide)) (fun b => g14 3221 b (by decide)) (fun b => g14 3222 b (by decide)) (fun b => g14 361 b (by decide))
  have r30 := y_K.fr p3 (by omega) (by omega) (g15 44 (by decide)) (g15 20 (by decide)) (g15 58 (by decide)) (fun b => g14 3438 b (by decide)) (fun b => g14 3220 b (by decide)) (fun a b h => g14 a b (by omega))
  have r31 := y_KM.fr p4 (g15 20 (by decide)) (g15 36 (by decide)) (g15 38 (by decide)) (g15 39 (by decide)) (fun b => g14 312 b (by decide)) (fun b => g14 331 b (by decide)) (fun b => g14 346 b (by decide)) (fun b => g14 361 b (by decide)) (fun b => g14 391 b (by decide)) (fun a b h => g14 a b (by omega)) (fun a b h => g14 a b (by omega)) (fun a b h => g14 a b (by omega))
  have r32 := y_YM.fr p5 (by omega) (g15 44 (by decide)) (g15 20 (by decide)) (g15 58 (by decide)) (fun b => g14 312 b (by decide)) (fun b => g14 331 b (by decide)) (fun b => g14 346 b (by decide)) (fun b => g14 361 b (by decide)) (fun b => g14 391 b (by decide)) (fun a b h => g14 a b (by omega)) (fun a b h => g14 a b (by omega)) (fun b => g14 3438 b (by decide)) (fun a b h => g14 a b (by omega)) (fun a b h => g14 a b (by omega))
  refine T_if1 (by decide +kernel) ?_
  refine T_leq (fun x33 e34 => ?_)
  have u35 := CI_b c12 (k := 309) (j := 2) bd_309_2
  refine T_useI (sf_X12_in hfu s11 c12 a1 0 x33 (by omega) (by omega) (by omega)) (fun v41 s36 hq => ?_)
  obtain ⟨c37, f38, ⟨x40, rfl, b42, b43, o44⟩⟩ := hq
  refine T_vI ?_
  have q45 := z_Fr.eq (fun a b h => h) f38
  subst q45
  refine T_ite (fun h46 => ?_) (fun h46 => ?_)
  · exact sj_X12_more__309Y_J23 hfu r0 s11 c12 f13 a1 0 (by omega) (by omega) (by omega) (by omega) (by omega) (by first | exact r27 | exact y_DD.z (by omega) (by omega)) (by omega) r28 r29 (by first | exact r30 | exact y_K.b0 (by omega) | exact y_K.k0 (by omega) | exact y_K.bk (by omega)) (by first | exact r31 | exact y_KM.z (by omega)) (by first | exact r32 | exact y_YM.b0 (by omega) | exact y_YM.k0 (by omega) | exact y_YM.bk (by omega))
  · exact sj_X12_more__309Y_J23 hfu r0 s11 c12 f13 a1 1 (by omega) (by omega) (by omega) (by omega) (by omega) (by first | exact r27 | exact y_DD.z (by omega) (by omega)) (by omega) r28 r29 (by first | exact r30 | exact y_K.b0 (by omega) | exact y_K.k0 (by omega) | exact y_K.bk (by omega)) (by first | exact r31 | exact y_KM.z (by omega)) (by first | exact r32 | exact y_YM.b0 (by omega) | exact y_YM.k0 (by omega) | exact y_YM.bk (by omega))
abbrev P_X12_undo_309Y (r0 : z_M) : z_V → z_M → Prop := fun v s' => z_CI s' ∧ z_Fr R_X12_undo_309 r0 s' ∧ (y_TA s') ∧ (y_DD s') ∧ (y_B s') ∧ (y_K s') ∧ (y_KM s') ∧ (y_YM s') ∧ (∃ x, v = vI x ∧ -2147483648 ≤ x ∧ x ≤ 2147483647)
set_option maxHeartbeats 4000000 in
theorem sf_X12_undo_309Y {fu : Nat} (hfu : 8589934592 ≤ fu) (r0 : z_M) (c0 : z_CI r0) (p0 : y_TA r0) (p1 : y_DD r0) (p2 : y_B r0) (p3 : y_K r0) (p4 : y_KM r0) (p5 : y_YM r0) : z_T (fX12_undo fu r0 309) (P_X12_undo_309Y r0) := by
  refine T_of (fX12_undo.eq_1 ..) ?_
  have u1 := CI_b c0 (k := 309) (j := 19) bd_309_19
  have u2 := CI_b c0 (k := 309) (j := 20) bd_309_20
  have u3 := CI_b c0 (k := 309) (j := 36) bd_309_36
  have u4 := CI_b c0 (k := 309) (j := 43) bd_309_43
  have u5 := CI_b c0 (k := 309) (j := 44) bd_309_44
  have u6 := CI_b c0 (k := 309) (j := 58) bd_309_58
  have u7 := CI_b c0 (k := 316) (j := 0) bd_316_0
  have u8 := CI_b c0 (k := 329) (j := 0) bd_329_0
  have u9 := CI_b c0 (k := 329) (j := 1) bd_329_1
  refine T_if1 (by decide +kernel) ?_
  refine T_upg c0 bd_309_0 (by omega) (fun s10 c11 g13 g14 e15 => ?_)
  have f12 := z_Fr.upf (R := R_X12_undo_309) z_Fr.rf g13 g14 (Or.inr (Or.inr (⟨rfl, by decide⟩)))
  have t16 : s10 309 19 = r0 309 19 := g14 19 (by decide)
  have t17 : s10 309 20 = r0 309 20 := g14 20 (by decide)
  have t18 : s10 309 36 = r0 309 36 := g14 36 (by decide)
  have t19 : s10 309 43 = r0 309 43 := g14 43 (by decide)
  have t20 : s10 309 44 = r0 309 44 := g14 44 (by decide)
  have t21 : s10 309 58 = r0 309 58 := g14 58 (by decide)
  have t22 : s10 316 0 = r0 316 0 := g13 316 0 (by decide)
  have t23 : s10 329 0 = r0 329 0 := g13 329 0 (by decide)
  have t24 : s10 329 1 = r0 329 1 := g13 329 1 (by decide)
  have r25 := y_TA.fr p0 (fun a b h => g13 a b (by omega)) (fun a b h => g13 a b (by omega)) (fun a b h => g13 a b (by omega))
  have r26 := y_DD.fr p1 (g13 329 0 (by decide)) (g13 329 1 (by decide)) (fun b => g13 359 b (by decide)) (fun b => g13 374 b (by decide))
  have r27 := y_B.fr p2 (g14 20 (by decide)) (g13 316 0 (by decide)) (fun b => g13 3220 b (by decide)) (fun b => g13 3221 b (by decide)) (fun b => g13 3222 b (by decide)) (fun b => g13 361 b (by decide))
  have r28 := y_K.fr p3 (by omega) (by omega) (g14 44 (by decide)) (g14 20 (by decide)) (g14 58 (by decide)) (fun b => g13 3438 b (by decide)) (fun b => g13 3220 b (by decide)) (fun a b h => g13 a b (by omega))
  have r29 := y_KM.fr p4 (g14 20 (by decide)) (g14 36 (by decide)) (g14 38 (by decide)) (g14 39 (by decide)) (fun b => g13 312 b (by decide)) (fun b => g13 331 b (by decide)) (fun b => g13 346 b (by decide)) (fun b => g13 361 b (by decide)) (fun b => g13 391 b (by decide)) (fun a b h => g13 a b (by omega)) (fun a b h => g13 a b (by omega)) (fun a b h => g13 a b (by omega))
  have r30 := y_YM.fr p5 (by omega) (g14 44 (by decide)) (g14 20 (by decide)) (g14 58 (by decide)) (fun b => g13 312 b (by decide)) (fun b => g13 331 b (by decide)) (fun b => g13 346 b (by decide)) (fun b => g13 361 b (by decide)) (fun b => g13 391 b (by decide)) (fun a b h => g13 a b (by omega)) (fun a b h => g13 a b (by omega)) (fun b => g13 3438 b (by decide)) (fun a b h => g13 a b (by omega)) (fun a b h => g13 a b (by omega))
  refine T_if1 (by decide +kernel) ?_
  refine T_leq (fun x31 e32 => ?_)
  have u33 := CI_b c11 (k := 309) (j := 19) bd_309_19
  refine T_ite (fun h34 => ?_) (fun h34 => ?_)
  · refine T_if1 (by decide +kernel) ?_
    refine T_leq (fun x35 e36 => ?_)
    have q37 : x31 = x35 := e32.symm.trans e36
    subst q37
    refine T_if1 (by decide +kernel) ?_
    refine T_useN (sf_X12_copies_309Y hfu s10 c11 x31 0 (by omega) (by omega) (by omega) (by first | exact r29 | exact y_KM.z (by omega)) (by first | exact r30 | exact y_YM.b0 (by omega) | exact y_YM.k0 (by omega) | exact y_YM.bk (by omega))) (fun v43 s38 hq => ?_)
    obtain ⟨c39, f40, o44, o45, o46, rfl⟩ := hq
    refine T_vN ?_
    have f41 := z_Fr.tr (R := R_X12_undo_309) f12 f40 rs_X12_copies_309__X12_undo_309
    have t49 : s38 309 19 = x31 := (f40 309 19 (by decide)).trans e32
    have t50 : s38 309 20 = r0 309 20 := (f40 309 20 (by decide)).trans t17
    have t51 : s38 309 36 = r0 309 36 := (f40 309 36 (by decide)).trans t18
    have t52 : s38 309 43 = r0 309 43 := (f40 309 43 (by decide)).trans t19
    have t53 : s38 309 44 = r0 309 44 := (f40 309 44 (by decide)).trans t20
    have t54 : s38 309 58 = r0 309 58 := (f40 309 58 (by decide)).trans t21
    have u55 := CI_b c39 (k := 316) (j := 0) bd_316_0
    have u56 := CI_b c39 (k := 329) (j := 0) bd_329_0
    have u57 := CI_b c39 (k := 329) (j := 1) bd_329_1
    have r58 := y_K.fr r28 (by omega) (by omega) (f40 309 44 (by decide)) (f40 309 20 (by decide)) (f40 309 58 (by decide)) (fun b => f40 3438 b (nr_X12_copies_309__3438 b)) (fun b => f40 3220 b (nr_X12_copies_309__3220 b)) (fun a b h => f40 a b (nz_X12_copies_309__3452_3651 a b h))
    have r59 := y_CP.TA o44 c11 (by omega) r25
    have r60 := y_CP.DDk o44 (by omega) r26
    clear t17
    clear t18
    clear t19
    clear t20
    clear t21
    refine T_if1 (by decide +kernel) ?_
    refine T_leq (fun x61 e62 => ?_)
    have q63 : x31 = x61 := t49.symm.trans e62
    subst q63
    refine T_leq (fun x64 e65 => ?_)
    first | (have w66 := z_wx e65 (by omega)) | (have w66 := z_wr e65)
    refine T_if1 (by decide +kernel) ?_
    refine T_upg c39 bd_309_19 (by omega) (fun s67 c68 g70 g71 e72 => ?_)
    have f69 := z_Fr.upf (R := R_X12_undo_309) f41 g70 g71 (Or.inr (Or.inr (⟨rfl, by decide⟩)))
    have t73 : s67 309 20 = r0 309 20 := (g71 20 (by decide)).trans t50
    have t74 : s67 309 36 = r0 309 36 := (g71 36 (by decide)).trans t51
    have t75 : s67 309 43 = r0 309 43 := (g71 43 (by decide)).trans t52
    have t76 : s67 309 44 = r0 309 44 := (g71 44 (by decide)).trans t53
    have t77 : s67 309 58 = r0 309 58 := (g71 58 (by decide)).trans t54
    have t78 : s67 316 0 = s38 316 0 := g70 316 0 (by decide)
    have t79 : s67 329 0 = s38 329 0 := g70 329 0 (by decide)
    have t80 : s67 329 1 = s38 329 1 := g70 329 1 (by decide)
    have u81 := CI_b c68 (k := 309) (j := 19) bd_309_19
    have r82 := y_K.fr r58 (by omega) (by omega) (g71 44 (by decide)) (g71 20 (by decide)) (g71 58 (by decide)) (fun b => g70 3438 b (by decide)) (fun b => g70 3220 b (by decide)) (fun a b h => g70 a b (by omega))
    have r83 := y_KQ.fr o45 (g71 20 (by decide)) (g71 36 (by decide)) (g71 38 (by decide)) (g71 39 (by decide)) (fun b => g70 312 b (by decide)) (fun b => g70 331 b (by decide)) (fun b => g70 346 b (by decide)) (fun b => g70 361 b (by decide)) (fun b => g70 391 b (by decide)) (fun a b h => g70 a b (by omega)) (fun a b h => g70 a b (by omega)) (fun a b h => g70 a b (by omega))
    have r84 := y_YQ.fr o46 (by omega) (g71 44 (by decide)) (g71 20 (by decide)) (g71 58 (by decide)) (fun b => g70 312 b (by decide)) (fun b => g70 331 b (by decide)) (fun b => g70 346 b (by decide)) (fun b => g70 361 b (by decide)) (fun b => g70 391 b (by decide)) (fun a b h => g70 a b (by omega)) (fun a b h => g70 a b (by omega)) (fun b => g70 3438 b (by decide)) (fun a b h => g70 a b (by omega)) (fun a b h => g70 a b (by omega))
    have r85 := y_TA.fr r59 (fun a b h => g70 a b (by omega)) (fun a b h => g70 a b (by omega)) (fun a b h => g70 a b (by omega))
    have r86 := y_DD.fr r60 (g70 329 0 (by decide)) (g70 329 1 (by decide)) (fun b => g70 359 b (by decide)) (fun b => g70 374 b (by decide))
    clear t50
    clear t51
    clear t52
    clear t53
    clear t54
    refine T_if1 (by decide +kernel) ?_
    refine T_useN (sf_X12_laysUnits_309K hfu s67 c68 r85) (fun v92 s87 hq => ?_)
    obtain ⟨c88, f89, o93, o94, o95, rfl⟩ := hq
    refine T_vN ?_
    have f90 := z_Fr.tr (R := R_X12_undo_309) f69 f89 rs_X12_laysUnits_309__X12_undo_309
    have t98 : s87 309 19 = s67 309 19 := f89 309 19 (by decide)
    have t99 : s87 309 43 = r0 309 43 := (f89 309 43 (by decide)).trans t75
    have t100 : s87 309 44 = r0 309 44 := (f89 309 44 (by decide)).trans t76
    have t101 : s87 309 58 = r0 309 58 := (f89 309 58 (by decide)).trans t77
    have t102 : s87 316 0 = s38 316 0 := (f89 316 0 (by decide)).trans t78
    have t103 : s87 329 0 = s38 329 0 := (f89 329 0 (by decide)).trans t79
    have t104 : s87 329 1 = s38 329 1 := (f89 329 1 (by decide)).trans t80
    have u105 := CI_b c88 (k := 309) (j := 20) bd_309_20
    have u106 := CI_b c88 (k := 309) (j := 36) bd_309_36
    have r107 := y_TA.fr r85 (fun a b h => f89 a b (nz_X12_laysUnits_309__316_328 a b h)) (fun a b h => f89 a b (nz_X12_laysUnits_309__346_358 a b h)) (fun a b h => f89 a b (nz_X12_laysUnits_309__361_373 a b h))
    have r108 := y_DD.fr r86 (f89 329 0 (by decide)) (f89 329 1 (by decide)) (fun b => f89 359 b (nr_X12_laysUnits_309__359 b)) (fun b => f89 374 b (nr_X12_laysUnits_309__374 b))
    clear t75
    clear t76
    clear t77
    clear t78
    clear t79
    clear t80
    refine T_if1 (by decide +kernel) ?_
    refine T_leq (fun x109 e110 => ?_)
    have u111 := CI_b c88 (k := 309) (j := 20) bd_309_20
    exact T_ret ⟨c88, f90, r107, (by first | exact r108 | exact y_DD.z (by omega) (by omega)), o93, (by first | exact y_K.b0 (by omega) | exact y_K.k0 (by omega) | exact y_K.bk (by omega)), (by first | exact y_KM.z (by omega)), (by first | exact y_YM.b0 (by omega) | exact y_YM.k0 (by omega) | exact y_YM.bk (by omega)), ⟨x109, rfl, by omega, by omega⟩⟩
  · exact T_ret ⟨c11, f12, r25, (by first | exact r26 | exact y_DD.z (by omega) (by omega)), r27, (by first | exact r28 | exact y_K.b0 (by omega) | exact y_K.k0 (by omega) | exact y_K.bk (by omega)), (by first | exact r29 | exact y_KM.z (by omega)), (by first | exact r30 | exact y_YM.b0 (by omega) | exact y_YM.k0 (by omega) | exact y_YM.bk (by omega)), ⟨(-1), rfl, by omega, by omega⟩⟩
abbrev P_X12_cut_309Y (r0 : z_M) : z_V → z_M → Prop := fun v s' => z_CI s' ∧ z_Fr R_X12_cut_309 r0 s' ∧ (y_TA s') ∧ (y_DD s') ∧ (y_B s') ∧ (y_K s') ∧ (y_KM s') ∧ (y_YM s') ∧ (∃ x, v = vI x ∧ -2147483648 ≤ x ∧ x ≤ 2147483647)
theorem sj_X12_cut_309Y_J54 {fu : Nat} (hfu : 8589934592 ≤ fu) (r0 s : z_M) (c : z_CI s) (f : z_Fr R_X12_cut_309 r0 s) (p0 : y_TA s) (p1 : y_DD s) (p2 : y_B s) (p3 : y_K s) (p4 : y_YM s) (p5 : y_KM s) : z_T (fX12_cut_J54 fu s) (P_X12_cut_309Y r0) := by
  refine T_of (fX12_cut_J54.eq_1 ..) ?_
  have u1 := CI_b c (k := 309) (j := 20) bd_309_20
  have u2 := CI_b c (k := 309) (j := 36) bd_309_36
  have u3 := CI_b c (k := 309) (j := 43) bd_309_43
  have u4 := CI_b c (k := 309) (j := 44) bd_309_44
  have u5 := CI_b c (k := 309) (j := 58) bd_309_58
  have u6 := CI_b c (k := 316) (j := 0) bd_316_0
  have u7 := CI_b c (k := 329) (j := 0) bd_329_0
  have u8 := CI_b c (k := 329) (j := 1) bd_329_1
  have t9 : s 309 43 = r0 309 43 := f 309 43 (by decide)
  have t10 : s 309 44 = r0 309 44 := f 309 44 (by decide)
  have t11 : s 309 58 = r0 309 58 := f 309 58 (by decide)
  exact T_ret ⟨c, f, p0, (by first | exact p1 | exact y_DD.z (by omega) (by omega)), p2, (by first | exact p3 | exact y_K.b0 (by omega) | exact y_K.k0 (by omega) | exact y_K.bk (by omega)), (by first | exact p5 | exact y_KM.z (by omega)), (by first | exact p4 | exact y_YM.b0 (by omega) | exact y_YM.k0 (by omega) | exact y_YM.bk (by omega)), ⟨0, rfl, by omega, by omega⟩⟩
theorem sl_X12_cut_309Y_L100 {fu : Nat} (hfu : 8589934592 ≤ fu) (r0 : z_M) (a3 : Int) (a4 : Int) (a5 : Int) (a6 : Int) (a7 : Int) (a8 : Int) (b3 : -2147483648 ≤ a3 ∧ a3 ≤ 2147483647) (b4 : -2147483648 ≤ a4 ∧ a4 ≤ 2147483647) (b5 : -2147483648 ≤ a5 ∧ a5 ≤ 2147483647) (b6 : -2147483648 ≤ a6 ∧ a6 ≤ 2147483647) (b7 : -2147483648 ≤ a7 ∧ a7 ≤ 2147483647) (b8 : -2147483648 ≤ a8 ∧ a8 ≤ 2147483647) {k : z_M → z_O} (hk : ∀ (s' : z_M), z_CI s' → z_Fr R_X12_cut_309 r0 s' → (y_TA s') → (y_K s') → (y_KM s') → (y_YM s') → z_T (k s') (P_X12_cut_309Y r0)) : ∀ (F : Nat) (s : z_M) (a9 : Int), z_CI s → z_Fr R_X12_cut_309 r0 s → (0 ≤ a9 ∧ a9 ≤ 200) → (y_TA s) → (y_K s) → (y_KM s) → (y_YM s) → (2147483647 - a9 < (F : Int)) → z_T (fX12_cut_L100 fu 309 a3 a4 a5 a6 a7 a8 F s a9 k) (P_X12_cut_309Y r0) := by
  intro F
  induction F with
  | zero =>
    intro s a9 c f b9 i0 i1 i2 i3 hm
    have u34 := CI_b c (k := 309) (j := 20) bd_309_20
    have u35 := CI_b c (k := 309) (j := 36) bd_309_36
    have u36 := CI_b c (k := 309) (j := 43) bd_309_43
    have u37 := CI_b c (k := 309) (j := 44) bd_309_44
    have u38 := CI_b c (k := 309) (j := 58) bd_309_58
    have u39 := CI_b c (k := 316) (j := 0) bd_316_0
    have u40 := CI_b c (k := 329) (j := 0) bd_329_0
    have u41 := CI_b c (k := 329) (j := 1) bd_329_1
    exfalso; omega
  | succ F ih =>
    intro s a9 c f b9 i0 i1 i2 i3 hm
    refine T_of (fX12_cut_L100.eq_2 ..) ?_
    have u1 := CI_b c (k := 309) (j := 20) bd_309_20
    have u2 := CI_b c (k := 309) (j := 36) bd_309_36
    have u3 := CI_b c (k := 309) (j := 43) bd_309_43
    have u4 := CI_b c (k := 309) (j := 44) bd_309_44
    have u5 := CI_b c (k := 309) (j := 58) bd_309_58
    have u6 := CI_b c (k := 316) (j := 0) bd_316_0
    have u7 := CI_b c (k := 329) (j := 0) bd_329_0
    have u8 := CI_b c (k := 329) (j := 1) bd_329_1
    have t9 : s 309 43 = r0 309 43 := f 309 43 (by decide)
    have t10 : s 309 44 = r0 309 44 := f 309 44 (by decide)
    have t11 : s 309 58 = r0 309 58 := f 309 58 (by decide)
    refine T_ite (fun h12 => ?_) (fun h12 => ?_)
    · exact hk s c f i0 (by first | exact i1 | exact y_K.b0 (by omega) | exact y_K.k0 (by omega) | exact y_K.bk (by omega)) (by first | exact i2 | exact y_KM.z (by omega)) (by first | exact i3 | exact y_YM.b0 (by omega) | exact y_YM.k0 (by omega) | exact y_YM.bk (by omega))
    · refine T_if1 (by decide +kernel) ?_
      refine T_let 7657 (by decide +kernel) ?_
      refine T_if1 (z_ixl (n := 200) (by decide +kernel) (by omega) (by omega)) ?_
      refine T_upg c (bdr_7657 a9) (by omega) (fun s13 c14 g16 g17 e18 => ?_)
      have f15 := z_Fr.up (R := R_X12_cut_309) f g16 (fun _ => (Or.inr (Or.inr (Or.inr (Or.inl (⟨by decide, by decide⟩))))))
      have t19 : s13 309 20 = s 309 20 := g16 309 20 (by decide)
      have t20 : s13 309 36 = s 309 36 := g16 309 36 (by decide)
      have t21 : s13 309 43 = s 309 43 := g16 309 43 (by decide)
      have t22 : s13 309 44 = s 309 44 := g16 309 44 (by decide)
      have t23 : s13 309 58 = s 309 58 := g16 309 58 (by decide)
      have t24 : s13 316 0 = s 316 0 := g16 316 0 (by decide)
      have t25 : s13 329 0 = s 329 0 := g16 329 0 (by decide)
      have t26 : s13 329 1 = s 329 1 := g16 329 1 (by decide)
      have r27 := y_TA.fr i0 (fun a b h => g16 a b (by omega)) (fun a b h => g16 a b (by omega)) (fun a b h => g16 a b (by omega))
      have r28 := y_K.fr i1 (by omega) (by omega) (g16 309 44 (by decide)) (g16 309 20 (by decide)) (g16 309 58 (by decide)) (fun b => g16 3438 b (by decide)) (fun b => g16 3220 b (by decide)) (fun a b h => g16 a b (by omega))
      have r29 := y_KM.fr i2 (g16 309 20 (by decide)) (g16 309 36 (by decide)) (g16 309 38 (by decide)) (g16 309 39 (by decide)) (fun b => g16 312 b (by decide)) (fun b => g16 331 b (by decide)) (fun b => g16 346 b (by decide)) (fun b => g16 361 b (by decide)) (fun b => g16 391 b (by decide)) (fun a b h => g16 a b (by omega)) (fun a b h => g16 a b (by omega)) (fun a b h => g16 a b (by omega))
      have r30 := y_YM.fr i3 (by omega) (g16 309 44 (by decide)) (g16 309 20 (by decide)) (g16 309 58 (by decide)) (fun b => g16 312 b (by decide)) (fun b => g16 331 b (by decide)) (fun b => g16 346 b (by decide)) (fun b => g16 361 b (by decide)) (fun b => g16 391 b (by decide)) (fun a b h => g16 a b (by omega)) (fun a b h => g16 a b (by omega)) (fun b => g16 3438 b (by decide)) (fun a b h => g16 a b (by omega)) (fun a b h => g16 a b (by omega))
      refine T_leq (fun x31 e32 => ?_)
      first | (have w33 := z_wx e32 (by omega)) | (have w33 := z_wr e32)
      exact ih s13 x31 c14 f15 (by omega) r27 (by first | exact r28 | exact y_K.b0 (by omega) | exact y_K.k0 (by omega) | exact y_K.bk (by omega)) (by first | exact r29 | exact y_KM.z (by omega)) (by first | exact r30 | exact y_YM.b0 (by omega) | exact y_YM.k0 (by omega) | exact y_YM.bk (by omega)) (by omega)
theorem sj_X12_cut_309Y_J369 {fu : Nat} (hfu : 8589934592 ≤ fu) (r0 s : z_M) (c : z_CI s) (f : z_Fr R_X12_cut_309 r0 s) (a3 : Int) (a4 : Int) (a5 : Int) (a6 : Int) (a7 : Int) (a8 : Int) (a9 : Int) (b3 : -2147483648 ≤ a3 ∧ a3 ≤ 2147483647) (b4 : -2147483648 ≤ a4 ∧ a4 ≤ 2147483647) (b5 : 0 ≤ a5 ∧ a5 ≤ 200) (b6 : 0 ≤ a6 ∧ a6 ≤ 200) (b7 : (-1) ≤ a7 ∧ a7 ≤ 199) (b8 : -2147483648 ≤ a8 ∧ a8 ≤ 2147483647) (b9 : 0 ≤ a9 ∧ a9 ≤ 199) (p0 : a6 ≤ a5) (p1 : a5 ≤ a9 + 1) (p2 : (a6 = 0 ∧ a7 = -1 ∧ a8 = -1) ∨ (0 ≤ a7 ∧ a7 ≤ a6 - 1)) (p3 : y_D s a5) (p4 : y_TA s) (p5 : y_K s) (p6 : a9 < s 316 0) (p7 : y_YM s) (p8 : y_KM s) (M : Int) (pm : 2147483647 - a9 ≤ M) {r : z_M → Int → Int → Int → Int → Int → z_O} {k : z_M → Int → Int → z_O} (hr : ∀ (s' : z_M) (v5 : Int) (v6 : Int) (v7 : Int) (v8 : Int) (v9 : Int), z_CI s' → z_Fr R_X12_cut_309 r0 s' → (0 ≤ v5 ∧ v5 ≤ 200) → (0 ≤ v6 ∧ v6 ≤ 200) → ((-1) ≤ v7 ∧ v7 ≤ 199) → (-2147483648 ≤ v8 ∧ v8 ≤ 2147483647) → (0 ≤ v9 ∧ v9 ≤ 200) → (v6 ≤ v5) → (v5 ≤ v9) → ((v6 = 0 ∧ v7 = -1 ∧ v8 = -1) ∨ (0 ≤ v7 ∧ v7 ≤ v6 - 1)) → (y_D s' v5) → (y_TA s') → (y_K s') → (v9 ≤ s' 316 0) → (y_KM s') → (y_YM s') → (2147483647 - v9 < M) → z_T (r s' v5 v6 v7 v8 v9) (P_X12_cut_309Y r0)) (hk : ∀ (s' : z_M) (v5 : Int) (v6 : Int), z_CI s' → z_Fr R_X12_cut_309 r0 s' → (0 ≤ v5 ∧ v5 ≤ 200) → (0 ≤ v6 ∧ v6 ≤ 200) → (v6 ≤ v5) → (y_D s' v5) → (y_TA s') → (y_K s') → (y_KM s') → (y_YM s') → z_T (k s' v5 v6) (P_X12_cut_309Y r0)) : z_T (fX12_cut_J369 fu s 309 a3 a4 a5 a6 a7 a8 a9 r k) (P_X12_cut_309Y r0) := by
  refine T_of (fX12_cut_J369.eq_1 ..) ?_
  have u1 := CI_b c (k := 309) (j := 20) bd_309_20
  have u2 := CI_b c (k := 309) (j := 36) bd_309_36
  have u3 := CI_b c (k := 309) (j := 43) bd_309_43
  have u4 := CI_b c (k := 309) (j := 44) bd_309_44
  have u5 := CI_b c (k := 309) (j := 58) bd_309_58
  have u6 := CI_b c (k := 316) (j := 0) bd_316_0
  have u7 := CI_b c (k := 329) (j := 0) bd_329_0
  have u8 := CI_b c (k := 329) (j := 1) bd_329_1
  have t9 : s 309 43 = r0 309 43 := f 309 43 (by decide)
  have t10 : s 309 44 = r0 309 44 := f 309 44 (by decide)
  have t11 : s 309 58 = r0 309 58 := f 309 58 (by decide)
  refine T_leq (fun x12 e13 => ?_)
  first | (have w14 := z_wx e13 (by omega)) | (have w14 := z_wr e13)
  exact hr s a5 a6 a7 a8 x12 c f (by omega) (by omega) (by omega) (by omega) (by omega) (by omega) (by omega) (by omega) (by first | exact y_D.cg p3 (by omega) | exact y_D.z (by omega) | exact y_D.ex p3 (by omega) (by omega)) p4 (by first | exact p5 | exact y_K.b0 (by omega) | exact y_K.k0 (by omega) | exact y_K.bk (by omega)) (by omega) (by first | exact p8 | exact y_KM.z (by omega)) (by first | exact p7 | exact y_YM.b0 (by omega) | exact y_YM.k0 (by omega) | exact y_YM.bk (by omega)) (by omega)
set_option maxHeartbeats 4000000 in
theorem sj_X12_cut_309Y_J346 {fu : Nat} (hfu : 8589934592 ≤ fu) (r0 s : z_M) (c : z_CI s) (f : z_Fr R_X12_cut_309 r0 s) (a3 : Int) (a4 : Int) (a5 : Int) (a6 : Int) (a7 : Int) (a8 : Int) (a9 : Int) (t1 : Int) (t2 : Int) (b3 : -2147483648 ≤ a3 ∧ a3 ≤ 2147483647) (b4 : -2147483648 ≤ a4 ∧ a4 ≤ 2147483647) (b5 : 0 ≤ a5 ∧ a5 ≤ 199) (b6 : 0 ≤ a6 ∧ a6 ≤ 200) (b7 : (-1) ≤ a7 ∧ a7 ≤ 199) (b8 : -2147483648 ≤ a8 ∧ a8 ≤ 2147483647) (b9 : 0 ≤ a9 ∧ a9 ≤ 199) (d1 : 0 ≤ t1 ∧ t1 ≤ 199) (d2 : (-1) ≤ t2 ∧ t2 ≤ 199) (p0 : a6 ≤ a5 + 1) (p1 : a5 ≤ a9) (p2 : (a6 = 0 ∧ a7 = -1 ∧ a8 = -1) ∨ (0 ≤ a7 ∧ a7 ≤ a6 - 1)) (p3 : y_TA s) (p4 : y_K s) (p5 : a9 < s 316 0) (p6 : y_D s a5) (p7 : t1 = a5) (p8 : s 359 t1 ≠ 7 ∨ 0 ≤ t2) (p9 : y_YM s) (p10 : y_KM s) (M : Int) (pm : 2147483647 - a9 ≤ M) {r : z_M → Int → Int → Int → Int → Int → z_O} {k : z_M → Int → Int → z_O} (hr : ∀ (s' : z_M) (v5 : Int) (v6 : Int) (v7 : Int) (v8 : Int) (v9 : Int), z_CI s' → z_Fr R_X12_cut_309 r0 s' → (0 ≤ v5 ∧ v5 ≤ 200) → (0 ≤ v6 ∧ v6 ≤ 200) → ((-1) ≤ v7 ∧ v7 ≤ 199) → (-2147483648 ≤ v8 ∧ v8 ≤ 2147483647) → (0 ≤ v9 ∧ v9 ≤ 200) → (v6 ≤ v5) → (v5 ≤ v9) → ((v6 = 0 ∧ v7 = -1 ∧ v8 = -1) ∨ (0 ≤ v7 ∧ v7 ≤ v6 - 1)) → (y_D s' v5) → (y_TA s') → (y_K s') → (v9 ≤ s' 316 0) → (y_KM s') → (y_YM s') → (2147483647 - v9 < M) → z_T (r s' v5 v6 v7 v8 v9) (P_X12_cut_309Y r0)) (hk : ∀ (s' : z_M) (v5 : Int) (v6 : Int), z_CI s' → z_Fr R_X12_cut_309 r0 s' → (0 ≤ v5 ∧ v5 ≤ 200) → (0 ≤ v6 ∧ v6 ≤ 200) → (v6 ≤ v5) → (y_D s' v5) → (y_TA s') → (y_K s') → (y_KM s') → (y_YM s') → z_T (k s' v5 v6) (P_X12_cut_309Y r0)) : z_T (fX12_cut_J346 fu s 309 a3 a4 a5 a6 a7 a8 a9 374 t1 t2 r k) (P_X12_cut_309Y r0) := by
  refine T_of (fX12_cut_J346.eq_1 ..) ?_
  have u1 := CI_b c (k := 309) (j := 20) bd_309_20
  have u2 := CI_b c (k := 309) (j := 36) bd_309_36
  have u3 := CI_b c (k := 309) (j := 43) bd_309_43
  have u4 := CI_b c (k := 309) (j := 44) bd_309_44
  have u5 := CI_b c (k := 309) (j := 58) bd_309_58
  have u6 := CI_b c (k := 316) (j := 0) bd_316_0
  have u7 := CI_b c (k := 329) (j := 0) bd_329_0
  have u8 := CI_b c (k := 329) (j := 1) bd_329_1
  have t9 : s 309 43 = r0 309 43 := f 309 43 (by decide)
  have t10 : s 309 44 = r0 309 44 := f 309 44 (by decide)
  have t11 : s 309 58 = r0 309 58 := f 309 58 (by decide)
  refine T_if1 (z_ixl (n := 200) (by decide +kernel) (by omega) (by omega)) ?_
  refine T_upg c (bdr_374 t1) (by omega) (fun s12 c13 g15 g16 e17 => ?_)
  have f14 := z_Fr.up (R := R_X12_cut_309) f g15 (fun _ => (Or.inr (Or.inl (⟨by decide, by decide⟩))))
  have t18 : s12 309 20 = s 309 20 := g15 309 20 (by decide)
  have t19 : s12 309 36 = s 309 36 := g15 309 36 (by decide)
  have t20 : s12 309 43 = s 309 43 := g15 309 43 (by decide)
  have t21 : s12 309 44 = s 309 44 := g15 309 44 (by decide)
  have t22 : s12 309 58 = s 309 58 := g15 309 58 (by decide)
  have t23 : s12 316 0 = s 316 0 := g15 316 0 (by decide)
  have t24 : s12 329 0 = s 329 0 := g15 329 0 (by decide)
  have t25 : s12 329 1 = s 329 1 := g15 329 1 (by decide)
  have r26 := y_TA.fr p3 (fun a b h => g15 a b (by omega)) (fun a b h => g15 a b (by omega)) (fun a b h => g15 a b (by omega))
  have r27 := y_K.fr p4 (by omega) (by omega) (g15 309 44 (by decide)) (g15 309 20 (by decide)) (g15 309 58 (by decide)) (fun b => g15 3438 b (by decide)) (fun b => g15 3220 b (by decide)) (fun a b h => g15 a b (by omega))
  have r28 := y_YM.fr p9 (by omega) (g15 309 44 (by decide)) (g15 309 20 (by decide)) (g15 309 58 (by decide)) (fun b => g15 312 b (by decide)) (fun b => g15 331 b (by decide)) (fun b => g15 346 b (by decide)) (fun b => g15 361 b (by decide)) (fun b => g15 391 b (by decide)) (fun a b h => g15 a b (by omega)) (fun a b h => g15 a b (by omega)) (fun b => g15 3438 b (by decide)) (fun a b h => g15 a b (by omega)) (fun a b h => g15 a b (by omega))
  have r29 := y_KM.fr p10 (g15 309 20 (by decide)) (g15 309 36 (by decide)) (g15 309 38 (by decide)) (g15 309 39 (by decide)) (fun b => g15 312 b (by decide)) (fun b => g15 331 b (by decide)) (fun b => g15 346 b (by decide)) (fun b => g15 361 b (by decide)) (fun b => g15 391 b (by decide)) (fun a b h => g15 a b (by omega)) (fun a b h => g15 a b (by omega)) (fun a b h => g15 a b (by omega))
  have n30 := g15 359 t1 (by decide)
  have r31 : y_D s12 t1 := y_D.cg (y_D.st p6 (fun b h => g15 359 b (by decide)) (fun b h => g16 b (by omega))) (by omega)
  have r32 : y_D s12 (t1 + 1) := y_D.ex r31 (by omega) rfl
  refine T_if1 (by decide +kernel) ?_
  refine T_let 375 (by decide +kernel) ?_
  refine T_if1 (z_ixl (n := 14) (by decide +kernel) (by omega) (by omega)) ?_
  refine T_let 389 (by decide +kernel) ?_
  refine T_if1 (by decide +kernel) ?_
  refine T_let 375 (by decide +kernel) ?_
  refine T_if1 (z_ixl (n := 14) (by decide +kernel) (by omega) (by omega)) ?_
  refine T_let 376 (by decide +kernel) ?_
  refine T_if1 (z_ixl (n := 200) (by decide +kernel) (by omega) (by omega)) ?_
  refine T_leq (fun x33 e34 => ?_)
  have u35 := CI_b c13 (k := 376) (j := a9) (bdr_376 a9)
  refine T_if1 (z_ixl (n := 200) (by decide +kernel) (by omega) (by omega)) ?_
  refine T_upg c13 (bdr_389 a5) (by omega) (fun s36 c37 g39 g40 e41 => ?_)
  have f38 := z_Fr.up (R := R_X12_cut_309) f14 g39 (fun _ => (Or.inr (Or.inl (⟨by decide, by decide⟩))))
  have t42 : s36 309 20 = s 309 20 := (g39 309 20 (by decide)).trans t18
  have t43 : s36 309 36 = s 309 36 := (g39 309 36 (by decide)).trans t19
  have t44 : s36 309 43 = s 309 43 := (g39 309 43 (by decide)).trans t20
  have t45 : s36 309 44 = s 309 44 := (g39 309 44 (by decide)).trans t21
  have t46 : s36 309 58 = s 309 58 := (g39 309 58 (by decide)).trans t22
  have t47 : s36 316 0 = s 316 0 := (g39 316 0 (by decide)).trans t23
  have t48 : s36 329 0 = s 329 0 := (g39 329 0 (by decide)).trans t24
  have t49 : s36 329 1 = s 329 1 := (g39 329 1 (by decide)).trans t25
  have r50 := y_TA.fr r26 (fun a b h => g39 a b (by omega)) (fun a b h => g39 a b (by omega)) (fun a b h => g39 a b (by omega))
  have r51 := y_K.fr r27 (by omega) (by omega) (g39 309 44 (by decide)) (g39 309 20 (by decide)) (g39 309 58 (by decide)) (fun b => g39 3438 b (by decide)) (fun b => g39 3220 b (by decide)) (fun a b h => g39 a b (by omega))
  have r52 := y_YM.fr r28 (by omega) (g39 309 44 (by decide)) (g39 309 20 (by decide)) (g39 309 58 (by decide)) (fun b => g39 312 b (by decide)) (fun b => g39 331 b (by decide)) (fun b => g39 346 b (by decide)) (fun b => g39 361 b (by decide)) (fun b => g39 391 b (by decide)) (fun a b h => g39 a b (by omega)) (fun a b h => g39 a b (by omega)) (fun b => g39 3438 b (by decide)) (fun a b h => g39 a b (by omega)) (fun a b h => g39 a b (by omega))
  have r53 := y_KM.fr r29 (g39 309 20 (by decide)) (g39 309 36 (by decide)) (g39 309 38 (by decide)) (g39 309 39 (by decide)) (fun b => g39 312 b (by decide)) (fun b => g39 331 b (by decide)) (fun b => g39 346 b (by decide)) (fun b => g39 361 b (by decide)) (fun b => g39 391 b (by decide)) (fun a b h => g39 a b (by omega)) (fun a b h => g39 a b (by omega)) (fun a b h => g39 a b (by omega))
  have r54 := y_D.fr r31 (fun b => g39 359 b (by decide)) (fun b => g39 374 b (by decide))
  have r55 := y_D.fr r32 (fun b => g39 359 b (by decide)) (fun b => g39 374 b (by decide))
  clear t18
  clear t19
  clear t20
  clear t21
  clear t22
  clear t23
  clear t24
  clear t25
  refine T_leq (fun x56 e57 => ?_)
  first | (have w58 := z_wx e57 (by omega)) | (have w58 := z_wr e57)
  exact sj_X12_cut_309Y_J369 hfu r0 s36 c37 f38 a3 a4 x56 a6 a7 a8 a9 (by omega) (by omega) (by omega) (by omega) (by omega) (by omega) (by omega) (by omega) (by omega) (by omega) (by first | exact y_D.cg r55 (by omega) | exact y_D.cg r54 (by omega) | exact y_D.z (by omega) | exact y_D.ex r55 (by omega) (by omega) | exact y_D.ex r54 (by omega) (by omega)) r50 (by first | exact r51 | exact y_K.b0 (by omega) | exact y_K.k0 (by omega) | exact y_K.bk (by omega)) (by omega) (by first | exact r52 | exact y_YM.b0 (by omega) | exact y_YM.k0 (by omega) | exact y_YM.bk (by omega)) (by first | exact r53 | exact y_KM.z (by omega)) M (by omega) (fun s' v5 v6 v7 v8 v9 c' f' w5 w6 w7 w8 w9 z0 z1 z2 z3 z4 z5 z6 z7 z8 pg => hr s' v5 v6 v7 v8 v9 c' f' w5 w6 w7 w8 w9 z0 z1 z2 z3 z4 z5 z6 z7 z8 (by omega)) hk
set_option maxHeartbeats 4000000 in
theorem sj_X12_cut_309Y_J282 {fu : Nat} (hfu : 8589934592 ≤ fu) (r0 s : z_M) (c : z_CI s) (f : z_Fr R_X12_cut_309 r0 s) (a3 : Int) (a4 : Int) (a5 : Int) (a6 : Int) (a7 : Int) (a8 : Int) (a9 : Int) (a10 : Int) (b3 : -2147483648 ≤ a3 ∧ a3 ≤ 2147483647) (b4 : -2147483648 ≤ a4 ∧ a4 ≤ 2147483647) (b5 : 0 ≤ a5 ∧ a5 ≤ 200) (b6 : 0 ≤ a6 ∧ a6 ≤ 200) (b7 : (-1) ≤ a7 ∧ a7 ≤ 199) (b8 : -2147483648 ≤ a8 ∧ a8 ≤ 2147483647) (b9 : 0 ≤ a9 ∧ a9 ≤ 199) (b10 : (-1) ≤ a10 ∧ a10 ≤ 199) (p0 : a6 ≤ a5 + 1) (p1 : a5 ≤ a9) (p2 : (a6 = 0 ∧ a7 = -1 ∧ a8 = -1) ∨ (0 ≤ a7 ∧ a7 ≤ a6 - 1)) (p3 : y_D s a5) (p4 : y_TA s) (p5 : y_K s) (p6 : a9 < s 316 0) (p7 : y_CB s a9 a10) (p8 : y_YM s) (p9 : y_KM s) (M : Int) (pm : 2147483647 - a9 ≤ M) {r : z_M → Int → Int → Int → Int → Int → z_O} {k : z_M → Int → Int → z_O} (hr : ∀ (s' : z_M) (v5 : Int) (v6 : Int) (v7 : Int) (v8 : Int) (v9 : Int), z_CI s' → z_Fr R_X12_cut_309 r0 s' → (0 ≤ v5 ∧ v5 ≤ 200) → (0 ≤ v6 ∧ v6 ≤ 200) → ((-1) ≤ v7 ∧ v7 ≤ 199) → (-2147483648 ≤ v8 ∧ v8 ≤ 2147483647) → (0 ≤ v9 ∧ v9 ≤ 200) → (v6 ≤ v5) → (v5 ≤ v9) → ((v6 = 0 ∧ v7 = -1 ∧ v8 = -1) ∨ (0 ≤ v7 ∧ v7 ≤ v6 - 1)) → (y_D s' v5) → (y_TA s') → (y_K s') → (v9 ≤ s' 316 0) → (y_KM s') → (y_YM s') → (2147483647 - v9 < M) → z_T (r s' v5 v6 v7 v8 v9) (P_X12_cut_309Y r0)) (hk : ∀ (s' : z_M) (v5 : Int) (v6 : Int), z_CI s' → z_Fr R_X12_cut_309 r0 s' → (0 ≤ v5 ∧ v5 ≤ 200) → (0 ≤ v6 ∧ v6 ≤ 200) → (v6 ≤ v5) → (y_D s' v5) → (y_TA s') → (y_K s') → (y_KM s') → (y_YM s') → z_T (k s' v5 v6) (P_X12_cut_309Y r0)) : z_T (fX12_cut_J282 fu s 309 a3 a4 a5 a6 a7 a8 a9 a10 r k) (P_X12_cut_309Y r0) := by
  refine T_of (fX12_cut_J282.eq_1 ..) ?_
  have u1 := CI_b c (k := 309) (j := 20) bd_309_20
  have u2 := CI_b c (k := 309) (j := 36) bd_309_36
  have u3 := CI_b c (k := 309) (j := 43) bd_309_43
  have u4 := CI_b c (k := 309) (j := 44) bd_309_44
  have u5 := CI_b c (k := 309) (j := 58) bd_309_58
  have u6 := CI_b c (k := 316) (j := 0) bd_316_0
  have u7 := CI_b c (k := 329) (j := 0) bd_329_0
  have u8 := CI_b c (k := 329) (j := 1) bd_329_1
  have t9 : s 309 43 = r0 309 43 := f 309 43 (by decide)
  have t10 : s 309 44 = r0 309 44 := f 309 44 (by decide)
  have t11 : s 309 58 = r0 309 58 := f 309 58 (by decide)
  refine T_if1 (by decide +kernel) ?_
  refine T_let 330 (by decide +kernel) ?_
  refine T_if1 (z_ixl (n := 14) (by decide +kernel) (by omega) (by omega)) ?_
  refine T_let 344 (by decide +kernel) ?_
  refine T_if1 (by decide +kernel) ?_
  refine T_let 330 (by decide +kernel) ?_
  refine T_if1 (z_ixl (n := 14) (by decide +kernel) (by omega) (by omega)) ?_
  refine T_let 331 (by decide +kernel) ?_
  refine T_if1 (z_ixl (n := 200) (by decide +kernel) (by omega) (by omega)) ?_
  refine T_leq (fun x12 e13 => ?_)
  have u14 := CI_b c (k := 331) (j := a9) (bdr_331 a9)
  refine T_if1 (z_ixl (n := 200) (by decide +kernel) (by omega) (by omega)) ?_
  refine T_upg c (bdr_344 a5) (by omega) (fun s15 c16 g18 g19 e20 => ?_)
  have f17 := z_Fr.up (R := R_X12_cut_309) f g18 (fun _ => (Or.inr (Or.inl (⟨by decide, by decide⟩))))
  have t21 : s15 309 20 = s 309 20 := g18 309 20 (by decide)
  have t22 : s15 309 36 = s 309 36 := g18 309 36 (by decide)
  have t23 : s15 309 43 = s 309 43 := g18 309 43 (by decide)
  have t24 : s15 309 44 = s 309 44 := g18 309 44 (by decide)
  have t25 : s15 309 58 = s 309 58 := g18 309 58 (by decide)
  have t26 : s15 316 0 = s 316 0 := g18 316 0 (by decide)
  have t27 : s15 329 0 = s 329 0 := g18 329 0 (by decide)
  have t28 : s15 329 1 = s 329 1 := g18 329 1 (by decide)
  have r29 := y_D.fr p3 (fun b => g18 359 b (by decide)) (fun b => g18 374 b (by decide))
  have r30 := y_TA.fr p4 (fun a b h => g18 a b (by omega)) (fun a b h => g18 a b (by omega)) (fun a b h => g18 a b (by omega))
  have r31 := y_K.fr p5 (by omega) (by omega) (g18 309 44 (by decide)) (g18 309 20 (by decide)) (g18 309 58 (by decide)) (fun b => g18 3438 b (by decide)) (fun b => g18 3220 b (by decide)) (fun a b h => g18 a b (by omega))
  have r32 := y_CB.fr p7 (fun b => g18 346 b (by decide)) (fun b => g18 7657 b (by decide))
  have r33 := y_YM.fr p8 (by omega) (g18 309 44 (by decide)) (g18 309 20 (by decide)) (g18 309 58 (by decide)) (fun b => g18 312 b (by decide)) (fun b => g18 331 b (by decide)) (fun b => g18 346 b (by decide)) (fun b => g18 361 b (by decide)) (fun b => g18 391 b (by decide)) (fun a b h => g18 a b (by omega)) (fun a b h => g18 a b (by omega)) (fun b => g18 3438 b (by decide)) (fun a b h => g18 a b (by omega)) (fun a b h => g18 a b (by omega))
  have r34 := y_KM.fr p9 (g18 309 20 (by decide)) (g18 309 36 (by decide)) (g18 309 38 (by decide)) (g18 309 39 (by decide)) (fun b => g18 312 b (by decide)) (fun b => g18 331 b (by decide)) (fun b => g18 346 b (by decide)) (fun b => g18 361 b (by decide)) (fun b => g18 391 b (by decide)) (fun a b h => g18 a b (by omega)) (fun a b h => g18 a b (by omega)) (fun a b h => g18 a b (by omega))
  refine T_if1 (by decide +kernel) ?_
  refine T_let 345 (by decide +kernel) ?_
  refine T_if1 (z_ixl (n := 14) (by decide +kernel) (by omega) (by omega)) ?_
  refine T_let 359 (by decide +kernel) ?_
  refine T_if1 (by decide +kernel) ?_
  refine T_let 345 (by decide +kernel) ?_
  refine T_if1 (z_ixl (n := 14) (by decide +kernel) (by omega) (by omega)) ?_
  refine T_let 346 (by decide +kernel) ?_
  refine T_if1 (z_ixl (n := 200) (by decide +kernel) (by omega) (by omega)) ?_
  refine T_leq (fun x35 e36 => ?_)
  have u37 := CI_b c16 (k := 346) (j := a9) (bdr_346 a9)
  refine T_if1 (z_ixl (n := 200) (by decide +kernel) (by omega) (by omega)) ?_
  refine T_upg c16 (bdr_359 a5) (by omega) (fun s38 c39 g41 g42 e43 => ?_)
  have f40 := z_Fr.up (R := R_X12_cut_309) f17 g41 (fun _ => (Or.inr (Or.inl (⟨by decide, by decide⟩))))
  have t44 : s38 309 20 = s 309 20 := (g41 309 20 (by decide)).trans t21
  have t45 : s38 309 36 = s 309 36 := (g41 309 36 (by decide)).trans t22
  have t46 : s38 309 43 = s 309 43 := (g41 309 43 (by decide)).trans t23
  have t47 : s38 309 44 = s 309 44 := (g41 309 44 (by decide)).trans t24
  have t48 : s38 309 58 = s 309 58 := (g41 309 58 (by decide)).trans t25
  have t49 : s38 316 0 = s 316 0 := (g41 316 0 (by decide)).trans t26
  have t50 : s38 329 0 = s 329 0 := (g41 329 0 (by decide)).trans t27
  have t51 : s38 329 1 = s 329 1 := (g41 329 1 (by decide)).trans t28
  have r52 := y_TA.fr r30 (fun a b h => g41 a b (by omega)) (fun a b h => g41 a b (by omega)) (fun a b h => g41 a b (by omega))
  have r53 := y_K.fr r31 (by omega) (by omega) (g41 309 44 (by decide)) (g41 309 20 (by decide)) (g41 309 58 (by decide)) (fun b => g41 3438 b (by decide)) (fun b => g41 3220 b (by decide)) (fun a b h => g41 a b (by omega))
  have r54 := y_CB.fr r32 (fun b => g41 346 b (by decide)) (fun b => g41 7657 b (by decide))
  have r55 := y_YM.fr r33 (by omega) (g41 309 44 (by decide)) (g41 309 20 (by decide)) (g41 309 58 (by decide)) (fun b => g41 312 b (by decide)) (fun b => g41 331 b (by decide)) (fun b => g41 346 b (by decide)) (fun b => g41 361 b (by decide)) (fun b => g41 391 b (by decide)) (fun a b h => g41 a b (by omega)) (fun a b h => g41 a b (by omega)) (fun b => g41 3438 b (by decide)) (fun a b h => g41 a b (by omega)) (fun a b h => g41 a b (by omega))
  have r56 := y_KM.fr r34 (g41 309 20 (by decide)) (g41 309 36 (by decide)) (g41 309 38 (by decide)) (g41 309 39 (by decide)) (fun b => g41 312 b (by decide)) (fun b => g41 331 b (by decide)) (fun b => g41 346 b (by decide)) (fun b => g41 361 b (by decide)) (fun b => g41 391 b (by decide)) (fun a b h => g41 a b (by omega)) (fun a b h => g41 a b (by omega)) (fun a b h => g41 a b (by omega))
  have t57 : s38 346 a9 = x35 := by first | exact (g41 346 a9 (by omega)).trans e36 | exact (g42 a9 (by omega)).trans e36
  have r58 := y_D.st r29 (fun b h => g42 b (by omega)) (fun b h => g41 374 b (by decide))
  clear t21
  clear t22
  clear t23
  clear t24
  clear t25
  clear t26
  clear t27
  clear t28
  refine T_if1 (by decide +kernel) ?_
  refine T_let 360 (by decide +kernel) ?_
  refine T_if1 (z_ixl (n := 14) (by decide +kernel) (by omega) (by omega)) ?_
  refine T_let 374 (by decide +kernel) ?_
  have n59 := y_CB.to r54
  refine T_ite (fun h60 => ?_) (fun h60 => ?_)
  · refine T_if1 (by decide +kernel) ?_
    refine T_let 7657 (by decide +kernel) ?_
    refine T_if1 (z_ixl (n := 200) (by decide +kernel) (by omega) (by omega)) ?_
    refine T_leq (fun x61 e62 => ?_)
    have u63 := CI_b c39 (k := 7657) (j := a10) (bdr_7657 a10)
    exact sj_X12_cut_309Y_J346 hfu r0 s38 c39 f40 a3 a4 a5 a6 a7 a8 a9 a5 x61 (by omega) (by omega) (by omega) (by omega) (by omega) (by omega) (by omega) (by omega) (by omega) (by omega) (by omega) (by omega) r52 (by first | exact r53 | exact y_K.b0 (by omega) | exact y_K.k0 (by omega) | exact y_K.bk (by omega)) (by omega) (by first | exact y_D.cg r58 (by omega) | exact y_D.z (by omega) | exact y_D.ex r58 (by omega) (by omega)) (by omega) (by omega) (by first | exact r55 | exact y_YM.b0 (by omega) | exact y_YM.k0 (by omega) | exact y_YM.bk (by omega)) (by first | exact r56 | exact y_KM.z (by omega)) M (by omega) (fun s' v5 v6 v7 v8 v9 c' f' w5 w6 w7 w8 w9 z0 z1 z2 z3 z4 z5 z6 z7 z8 pg => hr s' v5 v6 v7 v8 v9 c' f' w5 w6 w7 w8 w9 z0 z1 z2 z3 z4 z5 z6 z7 z8 (by omega)) hk
  · exact sj_X12_cut_309Y_J346 hfu r0 s38 c39 f40 a3 a4 a5 a6 a7 a8 a9 a5 (-1) (by omega) (by omega) (by omega) (by omega) (by omega) (by omega) (by omega) (by omega) (by omega) (by omega) (by omega) (by omega) r52 (by first | exact r53 | exact y_K.b0 (by omega) | exact y_K.k0 (by omega) | exact y_K.bk (by omega)) (by omega) (by first | exact y_D.cg r58 (by omega) | exact y_D.z (by omega) | exact y_D.ex r58 (by omega) (by omega)) (by omega) (by omega) (by first | exact r55 | exact y_YM.b0 (by omega) | exact y_YM.k0 (by omega) | exact y_YM.bk (by omega)) (by first | exact r56 | exact y_KM.z (by omega)) M (by omega) (fun s' v5 v6 v7 v8 v9 c' f' w5 w6 w7 w8 w9 z0 z1 z2 z3 z4 z5 z6 z7 z8 pg => hr s' v5 v6 v7 v8 v9 c' f' w5 w6 w7 w8 w9 z0 z1 z2 z3 z4 z5 z6 z7 z8 (by omega)) hk
theorem sl_X12_cut_309Y_L241 {fu : Nat} (hfu : 8589934592 ≤ fu) (r0 : z_M) (a3 : Int) (a4 : Int) (a5 : Int) (a6 : Int) (a7 : Int) (a8 : Int) (a9 : Int) (a10 : Int) (b3 : -2147483648 ≤ a3 ∧ a3 ≤ 2147483647) (b4 : -2147483648 ≤ a4 ∧ a4 ≤ 2147483647) (b5 : 0 ≤ a5 ∧ a5 ≤ 200) (b6 : 0 ≤ a6 ∧ a6 ≤ 199) (b7 : (-1) ≤ a7 ∧ a7 ≤ 199) (b8 : -2147483648 ≤ a8 ∧ a8 ≤ 2147483647) (b9 : 0 ≤ a9 ∧ a9 ≤ 199) (b10 : 0 ≤ a10 ∧ a10 ≤ 199) {k : z_M → z_O} (hk : ∀ (s' : z_M), z_CI s' → z_Fr R_X12_cut_309 r0 s' → (y_D s' a5) → (y_CB s' a9 a10) → (a9 < s' 316 0) → (y_TA s') → (y_K s') → (y_KM s') → (y_YM s') → z_T (k s') (P_X12_cut_309Y r0)) : ∀ (F : Nat) (s : z_M) (a11 : Int), z_CI s → z_Fr R_X12_cut_309 r0 s → (0 ≤ a11 ∧ a11 ≤ 20) → (y_D s a5) → (y_CB s a9 a10) → (a9 < s 316 0) → (y_TA s) → (y_K s) → (y_KM s) → (y_YM s) → (2147483647 - a11 < (F : Int)) → z_T (fX12_cut_L241 fu 309 a3 a4 a5 a6 a7 a8 a9 a10 F s a11 k) (P_X12_cut_309Y r0) := by
  intro F
  induction F with
  | zero =>
    intro s a11 c f b11 i0 i1 i2 i3 i4 i5 i6 hm
    have u39 := CI_b c (k := 309) (j := 20) bd_309_20
    have u40 := CI_b c (k := 309) (j := 36) bd_309_36
    have u41 := CI_b c (k := 309) (j := 43) bd_309_43
    have u42 := CI_b c (k := 309) (j := 44) bd_309_44
    have u43 := CI_b c (k := 309) (j := 58) bd_309_58
    have u44 := CI_b c (k := 316) (j := 0) bd_316_0
    have u45 := CI_b c (k := 329) (j := 0) bd_329_0
    have u46 := CI_b c (k := 329) (j := 1) bd_329_1
    exfalso; omega
  | succ F ih =>
    intro s a11 c f b11 i0 i1 i2 i3 i4 i5 i6 hm
    refine T_of (fX12_cut_L241.eq_2 ..) ?_
    have u1 := CI_b c (k := 309) (j := 20) bd_309_20
    have u2 := CI_b c (k := 309) (j := 36) bd_309_36
    have u3 := CI_b c (k := 309) (j := 43) bd_309_43
    have u4 := CI_b c (k := 309) (j := 44) bd_309_44
    have u5 := CI_b c (k := 309) (j := 58) bd_309_58
    have u6 := CI_b c (k := 316) (j := 0) bd_316_0
    have u7 := CI_b c (k := 329) (j := 0) bd_329_0
    have u8 := CI_b c (k := 329) (j := 1) bd_329_1
    have t9 : s 309 43 = r0 309 43 := f 309 43 (by decide)
    have t10 : s 309 44 = r0 309 44 := f 309 44 (by decide)
    have t11 : s 309 58 = r0 309 58 := f 309 58 (by decide)
    refine T_ite (fun h12 => ?_) (fun h12 => ?_)
    · exact hk s c f (by first | exact y_D.cg i0 (by omega) | exact y_D.z (by omega) | exact y_D.ex i0 (by omega) (by omega)) (by first | exact y_CB.cg i1 (by omega) (by omega) | exact y_CB.a (by omega) (by omega) | exact y_CB.b (by omega) (by assumption) (by omega)) (by omega) i3 (by first | exact i4 | exact y_K.b0 (by omega) | exact y_K.k0 (by omega) | exact y_K.bk (by omega)) (by first | exact i5 | exact y_KM.z (by omega)) (by first | exact i6 | exact y_YM.b0 (by omega) | exact y_YM.k0 (by omega) | exact y_YM.bk (by omega))
    · refine T_if1 (by decide +kernel) ?_
      refine T_let 405 (by decide +kernel) ?_
      refine T_if1 (z_ixl (n := 14) (by decide +kernel) (by omega) (by omega)) ?_
      refine T_let 3019 (by decide +kernel) ?_
      refine T_if1 (z_ixl (n := 200) (by decide +kernel) (by omega) (by omega)) ?_
      refine T_let (3020 + a6) (gr_3019 a6) ?_
      refine T_if1 (by decide +kernel) ?_
      refine T_let 405 (by decide +kernel) ?_
      refine T_if1 (z_ixl (n := 14) (by decide +kernel) (by omega) (by omega)) ?_
      refine T_let 406 (by decide +kernel) ?_
      refine T_if1 (z_ixl (n := 200) (by decide +kernel) (by omega) (by omega)) ?_
      refine T_let (407 + a10) (gr_406 a10) ?_
      refine T_if1 (z_ixs (sh_L0 (by omega)) (by omega) (by omega) (by omega)) ?_
      refine T_leq (fun x13 e14 => ?_)
      have u15 := CI_w c (k := (407 + a10)) (j := a11) (by rw [sh_L0 (by omega)]; decide)
      refine T_if1 (z_ixs (sh_L13 (by omega)) (by omega) (by omega) (by omega)) ?_
      refine T_upg c (z_bdLe (c2 := 407 + a10) (by omega) (by omega)) (by rw [← (by assumption : s (407 + a10) a11 = x13)]; exact c _ _) (fun s16 c17 g19 g20 e21 => ?_)
      have f18 := z_Fr.up (R := R_X12_cut_309) f g19 (fun b => by unfold R_X12_cut_309; omega)
      have t22 : s16 309 20 = s 309 20 := g19 309 20 (by omega)
      have t23 : s16 309 36 = s 309 36 := g19 309 36 (by omega)
      have t24 : s16 309 43 = s 309 43 := g19 309 43 (by omega)
      have t25 : s16 309 44 = s 309 44 := g19 309 44 (by omega)
      have t26 : s16 309 58 = s 309 58 := g19 309 58 (by omega)
      have t27 : s16 316 0 = s 316 0 := g19 316 0 (by omega)
      have t28 : s16 329 0 = s 329 0 := g19 329 0 (by omega)
      have t29 : s16 329 1 = s 329 1 := g19 329 1 (by omega)
      have r30 := y_D.fr i0 (fun b => g19 359 b (by omega)) (fun b => g19 374 b (by omega))
      have r31 := y_CB.fr i1 (fun b => g19 346 b (by omega)) (fun b => g19 7657 b (by omega))
      have r32 := y_TA.fr i3 (fun a b h => g19 a b (by omega)) (fun a b h => g19 a b (by omega)) (fun a b h => g19 a b (by omega))
      have r33 := y_K.fr i4 (by omega) (by omega) (g19 309 44 (by omega)) (g19 309 20 (by omega)) (g19 309 58 (by omega)) (fun b => g19 3438 b (by omega)) (fun b => g19 3220 b (by omega)) (fun a b h => g19 a b (by omega))
      have r34 := y_KM.fr i5 (g19 309 20 (by omega)) (g19 309 36 (by omega)) (g19 309 38 (by omega)) (g19 309 39 (by omega)) (fun b => g19 312 b (by omega)) (fun b => g19 331 b (by omega)) (fun b => g19 346 b (by omega)) (fun b => g19 361 b (by omega)) (fun b => g19 391 b (by omega)) (fun a b h => g19 a b (by omega)) (fun a b h => g19 a b (by omega)) (fun a b h => g19 a b (by omega))
      have r35 := y_YM.fr i6 (by omega) (g19 309 44 (by omega)) (g19 309 20 (by omega)) (g19 309 58 (by omega)) (fun b => g19 312 b (by omega)) (fun b => g19 331 b (by omega)) (fun b => g19 346 b (by omega)) (fun b => g19 361 b (by omega)) (fun b => g19 391 b (by omega)) (fun a b h => g19 a b (by omega)) (fun a b h => g19 a b (by omega)) (fun b => g19 3438 b (by omega)) (fun a b h => g19 a b (by omega)) (fun a b h => g19 a b (by omega))
      refine T_leq (fun x36 e37 => ?_)
      first | (have w38 := z_wx e37 (by omega)) | (have w38 := z_wr e37)
      exact ih s16 x36 c17 f18 (by omega) (by first | exact y_D.cg r30 (by omega) | exact y_D.z (by omega) | exact y_D.ex r30 (by omega) (by omega)) (by first | exact y_CB.cg r31 (by omega) (by omega) | exact y_CB.a (by omega) (by omega) | exact y_CB.b (by omega) (by assumption) (by omega)) (by omega) r32 (by first | exact r33 | exact y_K.b0 (by omega) | exact y_K.k0 (by omega) | exact y_K.bk (by omega)) (by first | exact r34 | exact y_KM.z (by omega)) (by first | exact r35 | exact y_YM.b0 (by omega) | exact y_YM.k0 (by omega) | exact y_YM.bk (by omega)) (by omega)
theorem sj_X12_cut_309Y_J212 {fu : Nat} (hfu : 8589934592 ≤ fu) (r0 s : z_M) (c : z_CI s) (f : z_Fr R_X12_cut_309 r0 s) (a3 : Int) (a4 : Int) (a5 : Int) (a6 : Int) (a9 : Int) (a10 : Int) (t0 : Int) (t1 : Int) (b3 : -2147483648 ≤ a3 ∧ a3 ≤ 2147483647) (b4 : -2147483648 ≤ a4 ∧ a4 ≤ 2147483647) (b5 : 0 ≤ a5 ∧ a5 ≤ 200) (b6 : 0 ≤ a6 ∧ a6 ≤ 199) (b9 : 0 ≤ a9 ∧ a9 ≤ 199) (b10 : 0 ≤ a10 ∧ a10 ≤ 199) (d0 : (-1) ≤ t0 ∧ t0 ≤ 199) (d1 : 0 ≤ t1 ∧ t1 ≤ 1) (p0 : a6 ≤ a5) (p1 : a5 ≤ a9) (p2 : y_D s a5) (p3 : a9 < s 316 0) (p4 : (a6 = 0 ∧ t0 = -1 ∧ t1 = 1) ∨ (0 ≤ t0 ∧ t0 ≤ a6 - 1)) (p5 : y_CB s a9 a10) (p6 : y_TA s) (p7 : y_K s) (p8 : y_YM s) (p9 : y_KM s) (M : Int) (pm : 2147483647 - a9 ≤ M) {r : z_M → Int → Int → Int → Int → Int → z_O} {k : z_M → Int → Int → z_O} (hr : ∀ (s' : z_M) (v5 : Int) (v6 : Int) (v7 : Int) (v8 : Int) (v9 : Int), z_CI s' → z_Fr R_X12_cut_309 r0 s' → (0 ≤ v5 ∧ v5 ≤ 200) → (0 ≤ v6 ∧ v6 ≤ 200) → ((-1) ≤ v7 ∧ v7 ≤ 199) → (-2147483648 ≤ v8 ∧ v8 ≤ 2147483647) → (0 ≤ v9 ∧ v9 ≤ 200) → (v6 ≤ v5) → (v5 ≤ v9) → ((v6 = 0 ∧ v7 = -1 ∧ v8 = -1) ∨ (0 ≤ v7 ∧ v7 ≤ v6 - 1)) → (y_D s' v5) → (y_TA s') → (y_K s') → (v9 ≤ s' 316 0) → (y_KM s') → (y_YM s') → (2147483647 - v9 < M) → z_T (r s' v5 v6 v7 v8 v9) (P_X12_cut_309Y r0)) (hk : ∀ (s' : z_M) (v5 : Int) (v6 : Int), z_CI s' → z_Fr R_X12_cut_309 r0 s' → (0 ≤ v5 ∧ v5 ≤ 200) → (0 ≤ v6 ∧ v6 ≤ 200) → (v6 ≤ v5) → (y_D s' v5) → (y_TA s') → (y_K s') → (y_KM s') → (y_YM s') → z_T (k s' v5 v6) (P_X12_cut_309Y r0)) : z_T (fX12_cut_J212 fu s 309 a3 a4 a5 a6 a9 a10 t0 t1 r k) (P_X12_cut_309Y r0) := by
  refine T_of (fX12_cut_J212.eq_1 ..) ?_
  have u1 := CI_b c (k := 309) (j := 20) bd_309_20
  have u2 := CI_b c (k := 309) (j := 36) bd_309_36
  have u3 := CI_b c (k := 309) (j := 43) bd_309_43
  have u4 := CI_b c (k := 309) (j := 44) bd_309_44
  have u5 := CI_b c (k := 309) (j := 58) bd_309_58
  have u6 := CI_b c (k := 316) (j := 0) bd_316_0
  have u7 := CI_b c (k := 329) (j := 0) bd_329_0
  have u8 := CI_b c (k := 329) (j := 1) bd_329_1
  have t9 : s 309 43 = r0 309 43 := f 309 43 (by decide)
  have t10 : s 309 44 = r0 309 44 := f 309 44 (by decide)
  have t11 : s 309 58 = r0 309 58 := f 309 58 (by decide)
  refine T_leq (fun x12 e13 => ?_)
  first | (have w14 := z_wx e13 (by omega)) | (have w14 := z_wr e13)
  refine T_if1 (by decide +kernel) ?_
  refine T_let 390 (by decide +kernel) ?_
  refine T_if1 (z_ixl (n := 14) (by decide +kernel) (by omega) (by omega)) ?_
  refine T_let 391 (by decide +kernel) ?_
  refine T_if1 (z_ixl (n := 200) (by decide +kernel) (by omega) (by omega)) ?_
  refine T_leq (fun x15 e16 => ?_)
  have u17 := CI_b c (k := 391) (j := a10) (bdg (c := 391) (by omega) (by omega))
  refine T_if1 (by decide +kernel) ?_
  refine T_let 390 (by decide +kernel) ?_
  refine T_if1 (z_ixl (n := 14) (by decide +kernel) (by omega) (by omega)) ?_
  refine T_let 404 (by decide +kernel) ?_
  refine T_if1 (z_ixl (n := 200) (by decide +kernel) (by omega) (by omega)) ?_
  refine T_upg c (bdg (c := 404) (by omega) (by omega)) (by omega) (fun s18 c19 g21 g22 e23 => ?_)
  have f20 := z_Fr.up (R := R_X12_cut_309) f g21 (fun _ => (Or.inr (Or.inl (⟨by decide, by decide⟩))))
  have t24 : s18 309 20 = s 309 20 := g21 309 20 (by decide)
  have t25 : s18 309 36 = s 309 36 := g21 309 36 (by decide)
  have t26 : s18 309 43 = s 309 43 := g21 309 43 (by decide)
  have t27 : s18 309 44 = s 309 44 := g21 309 44 (by decide)
  have t28 : s18 309 58 = s 309 58 := g21 309 58 (by decide)
  have t29 : s18 316 0 = s 316 0 := g21 316 0 (by decide)
  have t30 : s18 329 0 = s 329 0 := g21 329 0 (by decide)
  have t31 : s18 329 1 = s 329 1 := g21 329 1 (by decide)
  have r32 := y_D.fr p2 (fun b => g21 359 b (by decide)) (fun b => g21 374 b (by decide))
  have r33 := y_CB.fr p5 (fun b => g21 346 b (by decide)) (fun b => g21 7657 b (by decide))
  have r34 := y_TA.fr p6 (fun a b h => g21 a b (by omega)) (fun a b h => g21 a b (by omega)) (fun a b h => g21 a b (by omega))
  have r35 := y_K.fr p7 (by omega) (by omega) (g21 309 44 (by decide)) (g21 309 20 (by decide)) (g21 309 58 (by decide)) (fun b => g21 3438 b (by decide)) (fun b => g21 3220 b (by decide)) (fun a b h => g21 a b (by omega))
  have r36 := y_YM.fr p8 (by omega) (g21 309 44 (by decide)) (g21 309 20 (by decide)) (g21 309 58 (by decide)) (fun b => g21 312 b (by decide)) (fun b => g21 331 b (by decide)) (fun b => g21 346 b (by decide)) (fun b => g21 361 b (by decide)) (fun b => g21 391 b (by decide)) (fun a b h => g21 a b (by omega)) (fun a b h => g21 a b (by omega)) (fun b => g21 3438 b (by decide)) (fun a b h => g21 a b (by omega)) (fun a b h => g21 a b (by omega))
  have r37 := y_KM.fr p9 (g21 309 20 (by decide)) (g21 309 36 (by decide)) (g21 309 38 (by decide)) (g21 309 39 (by decide)) (fun b => g21 312 b (by decide)) (fun b => g21 331 b (by decide)) (fun b => g21 346 b (by decide)) (fun b => g21 361 b (by decide)) (fun b => g21 391 b (by decide)) (fun a b h => g21 a b (by omega)) (fun a b h => g21 a b (by omega)) (fun a b h => g21 a b (by omega))
  refine sl_X12_cut_309Y_L241 hfu r0 a3 a4 a5 a6 x12 x15 a9 a10 (by omega) (by omega) (by omega) (by omega) (by omega) (by omega) (by omega) (by omega) (fun s38 c39 f40 g41 g42 g43 g44 g45 g46 g47 => ?_) fu s18 0 c19 f20 (by omega) (by first | exact y_D.cg r32 (by omega) | exact y_D.z (by omega) | exact y_D.ex r32 (by omega) (by omega)) (by first | exact y_CB.cg r33 (by omega) (by omega) | exact y_CB.a (by omega) (by omega) | exact y_CB.b (by omega) (by assumption) (by omega)) (by omega) r34 (by first | exact r35 | exact y_K.b0 (by omega) | exact y_K.k0 (by omega) | exact y_K.bk (by omega)) (by first | exact r37 | exact y_KM.z (by omega)) (by first | exact r36 | exact y_YM.b0 (by omega) | exact y_YM.k0 (by omega) | exact y_YM.bk (by omega)) (by omega)
  have u48 := CI_b c39 (k := 309) (j := 20) bd_309_20
  have u49 := CI_b c39 (k := 309) (j := 36) bd_309_36
  have u50 := CI_b c39 (k := 309) (j := 43) bd_309_43
  have u51 := CI_b c39 (k := 309) (j := 44) bd_309_44
  have u52 := CI_b c39 (k := 309) (j := 58) bd_309_58
  have u53 := CI_b c39 (k := 316) (j := 0) bd_316_0
  have u54 := CI_b c39 (k := 329) (j := 0) bd_329_0
  have u55 := CI_b c39 (k := 329) (j := 1) bd_329_1
  have t56 : s38 309 43 = r0 309 43 := f40 309 43 (by decide)
  have t57 : s38 309 44 = r0 309 44 := f40 309 44 (by decide)
  have t58 : s38 309 58 = r0 309 58 := f40 309 58 (by decide)
  refine T_leq (fun x59 e60 => ?_)
  first | (have w61 := z_wx e60 (by omega)) | (have w61 := z_wr e60)
  exact sj_X12_cut_309Y_J282 hfu r0 s38 c39 f40 a3 a4 a5 x59 x12 x15 a9 a10 (by omega) (by omega) (by omega) (by omega) (by omega) (by omega) (by omega) (by omega) (by omega) (by omega) (by omega) (by first | exact y_D.cg g41 (by omega) | exact y_D.z (by omega) | exact y_D.ex g41 (by omega) (by omega)) g44 (by first | exact g45 | exact y_K.b0 (by omega) | exact y_K.k0 (by omega) | exact y_K.bk (by omega)) (by omega) (by first | exact y_CB.cg g42 (by omega) (by omega) | exact y_CB.a (by omega) (by omega) | exact y_CB.b (by omega) (by assumption) (by omega)) (by first | exact g47 | exact y_YM.b0 (by omega) | exact y_YM.k0 (by omega) | exact y_YM.bk (by omega)) (by first | exact g46 | exact y_KM.z (by omega)) M (by omega) (fun s' v5 v6 v7 v8 v9 c' f' w5 w6 w7 w8 w9 z0 z1 z2 z3 z4 z5 z6 z7 z8 pg => hr s' v5 v6 v7 v8 v9 c' f' w5 w6 w7 w8 w9 z0 z1 z2 z3 z4 z5 z6 z7 z8 (by omega)) hk
set_option maxHeartbeats 4000000 in
theorem sj_X12_cut_309Y_J154 {fu : Nat} (hfu : 8589934592 ≤ fu) (r0 s : z_M) (c : z_CI s) (f : z_Fr R_X12_cut_309 r0 s) (a3 : Int) (a4 : Int) (a5 : Int) (a6 : Int) (a7 : Int) (a8 : Int) (a9 : Int) (b3 : -2147483648 ≤ a3 ∧ a3 ≤ 2147483647) (b4 : -2147483648 ≤ a4 ∧ a4 ≤ 2147483647) (b5 : 0 ≤ a5 ∧ a5 ≤ 200) (b6 : 0 ≤ a6 ∧ a6 ≤ 200) (b7 : (-1) ≤ a7 ∧ a7 ≤ 199) (b8 : -2147483648 ≤ a8 ∧ a8 ≤ 2147483647) (b9 : 0 ≤ a9 ∧ a9 ≤ 199) (p0 : a6 ≤ a5) (p1 : a5 ≤ a9) (p2 : (a6 = 0 ∧ a7 = -1 ∧ a8 = -1) ∨ (0 ≤ a7 ∧ a7 ≤ a6 - 1)) (p3 : y_D s a5) (p4 : y_TA s) (p5 : y_K s) (p6 : a9 < s 316 0) (p7 : y_YM s) (p8 : y_KM s) (M : Int) (pm : 2147483647 - a9 ≤ M) {r : z_M → Int → Int → Int → Int → Int → z_O} {k : z_M → Int → Int → z_O} (hr : ∀ (s' : z_M) (v5 : Int) (v6 : Int) (v7 : Int) (v8 : Int) (v9 : Int), z_CI s' → z_Fr R_X12_cut_309 r0 s' → (0 ≤ v5 ∧ v5 ≤ 200) → (0 ≤ v6 ∧ v6 ≤ 200) → ((-1) ≤ v7 ∧ v7 ≤ 199) → (-2147483648 ≤ v8 ∧ v8 ≤ 2147483647) → (0 ≤ v9 ∧ v9 ≤ 200) → (v6 ≤ v5) → (v5 ≤ v9) → ((v6 = 0 ∧ v7 = -1 ∧ v8 = -1) ∨ (0 ≤ v7 ∧ v7 ≤ v6 - 1)) → (y_D s' v5) → (y_TA s') → (y_K s') → (v9 ≤ s' 316 0) → (y_KM s') → (y_YM s') → (2147483647 - v9 < M) → z_T (r s' v5 v6 v7 v8 v9) (P_X12_cut_309Y r0)) (hk : ∀ (s' : z_M) (v5 : Int) (v6 : Int), z_CI s' → z_Fr R_X12_cut_309 r0 s' → (0 ≤ v5 ∧ v5 ≤ 200) → (0 ≤ v6 ∧ v6 ≤ 200) → (v6 ≤ v5) → (y_D s' v5) → (y_TA s') → (y_K s') → (y_KM s') → (y_YM s') → z_T (k s' v5 v6) (P_X12_cut_309Y r0)) : z_T (fX12_cut_J154 fu s 309 a3 a4 a5 a6 a7 a8 a9 r k) (P_X12_cut_309Y r0) := by
  refine T_of (fX12_cut_J154.eq_1 ..) ?_
  have u1 := CI_b c (k := 309) (j := 20) bd_309_20
  have u2 := CI_b c (k := 309) (j := 36) bd_309_36
  have u3 := CI_b c (k := 309) (j := 43) bd_309_43
  have u4 := CI_b c (k := 309) (j := 44) bd_309_44
  have u5 := CI_b c (k := 309) (j := 58) bd_309_58
  have u6 := CI_b c (k := 316) (j := 0) bd_316_0
  have u7 := CI_b c (k := 329) (j := 0) bd_329_0
  have u8 := CI_b c (k := 329) (j := 1) bd_329_1
  have t9 : s 309 43 = r0 309 43 := f 309 43 (by decide)
  have t10 : s 309 44 = r0 309 44 := f 309 44 (by decide)
  have t11 : s 309 58 = r0 309 58 := f 309 58 (by decide)
  refine T_if1 (by decide +kernel) ?_
  refine T_let 360 (by decide +kernel) ?_
  refine T_if1 (z_ixl (n := 14) (by decide +kernel) (by omega) (by omega)) ?_
  refine T_let 361 (by decide +kernel) ?_
  refine T_if1 (z_ixl (n := 200) (by decide +kernel) (by omega) (by omega)) ?_
  refine T_leq (fun x12 e13 => ?_)
  have u14 := CI_b c (k := 361) (j := a9) (bdr_361 a9)
  have n15 := y_TA.at0 p4 (i := a9) (by omega) (by omega)
  refine T_ite (fun h16 => ?_) (fun h16 => ?_)
  · exact sj_X12_cut_309Y_J282 hfu r0 s c f a3 a4 a5 a6 a7 a8 a9 x12 (by omega) (by omega) (by omega) (by omega) (by omega) (by omega) (by omega) (by omega) (by omega) (by omega) (by omega) (by first | exact y_D.cg p3 (by omega) | exact y_D.z (by omega) | exact y_D.ex p3 (by omega) (by omega)) p4 (by first | exact p5 | exact y_K.b0 (by omega) | exact y_K.k0 (by omega) | exact y_K.bk (by omega)) (by omega) (by first | exact y_CB.a (by omega) (by omega) | exact y_CB.b (by omega) (by assumption) (by omega)) (by first | exact p7 | exact y_YM.b0 (by omega) | exact y_YM.k0 (by omega) | exact y_YM.bk (by omega)) (by first | exact p8 | exact y_KM.z (by omega)) M (by omega) (fun s' v5 v6 v7 v8 v9 c' f' w5 w6 w7 w8 w9 z0 z1 z2 z3 z4 z5 z6 z7 z8 pg => hr s' v5 v6 v7 v8 v9 c' f' w5 w6 w7 w8 w9 z0 z1 z2 z3 z4 z5 z6 z7 z8 (by omega)) hk
  · refine T_if1 (by decide +kernel) ?_
    refine T_let 7657 (by decide +kernel) ?_
    refine T_if1 (z_ixl (n := 200) (by decide +kernel) (by omega) (by omega)) ?_
    refine T_leq (fun x17 e18 => ?_)
    have u19 := CI_b c (k := 7657) (j := x12) (bdr_7657 x12)
    refine T_ite (fun h20 => ?_) (fun h20 => ?_)
    · exact sj_X12_cut_309Y_J282 hfu r0 s c f a3 a4 a5 a6 a7 a8 a9 x12 (by omega) (by omega) (by omega) (by omega) (by omega) (by omega) (by omega) (by omega) (by omega) (by omega) (by omega) (by first | exact y_D.cg p3 (by omega) | exact y_D.z (by omega) | exact y_D.ex p3 (by omega) (by omega)) p4 (by first | exact p5 | exact y_K.b0 (by omega) | exact y_K.k0 (by omega) | exact y_K.bk (by omega)) (by omega) (by first | exact y_CB.a (by omega) (by omega) | exact y_CB.b (by omega) (by assumption) (by omega)) (by first | exact p7 | exact y_YM.b0 (by omega) | exact y_YM.k0 (by omega) | exact y_YM.bk (by omega)) (by first | exact p8 | exact y_KM.z (by omega)) M (by omega) (fun s' v5 v6 v7 v8 v9 c' f' w5 w6 w7 w8 w9 z0 z1 z2 z3 z4 z5 z6 z7 z8 pg => hr s' v5 v6 v7 v8 v9 c' f' w5 w6 w7 w8 w9 z0 z1 z2 z3 z4 z5 z6 z7 z8 (by omega)) hk
    · refine T_if1 (by decide +kernel) ?_
      refine T_let 7657 (by decide +kernel) ?_
      refine T_if1 (z_ixl (n := 200) (by decide +kernel) (by omega) (by omega)) ?_
      refine T_upg c (bdr_7657 x12) (by omega) (fun s21 c22 g24 g25 e26 => ?_)
      have f23 := z_Fr.up (R := R_X12_cut_309) f g24 (fun _ => (Or.inr (Or.inr (Or.inr (Or.inl (⟨by decide, by decide⟩))))))
      have t27 : s21 309 20 = s 309 20 := g24 309 20 (by decide)
      have t28 : s21 309 36 = s 309 36 := g24 309 36 (by decide)
      have t29 : s21 309 43 = s 309 43 := g24 309 43 (by decide)
      have t30 : s21 309 44 = s 309 44 := g24 309 44 (by decide)
      have t31 : s21 309 58 = s 309 58 := g24 309 58 (by decide)
      have t32 : s21 316 0 = s 316 0 := g24 316 0 (by decide)
      have t33 : s21 329 0 = s 329 0 := g24 329 0 (by decide)
      have t34 : s21 329 1 = s 329 1 := g24 329 1 (by decide)
      have r35 := y_D.fr p3 (fun b => g24 359 b (by decide)) (fun b => g24 374 b (by decide))
      have r36 := y_TA.fr p4 (fun a b h => g24 a b (by omega)) (fun a b h => g24 a b (by omega)) (fun a b h => g24 a b (by omega))
      have r37 := y_K.fr p5 (by omega) (by omega) (g24 309 44 (by decide)) (g24 309 20 (by decide)) (g24 309 58 (by decide)) (fun b => g24 3438 b (by decide)) (fun b => g24 3220 b (by decide)) (fun a b h => g24 a b (by omega))
      have r38 := y_YM.fr p7 (by omega) (g24 309 44 (by decide)) (g24 309 20 (by decide)) (g24 309 58 (by decide)) (fun b => g24 312 b (by decide)) (fun b => g24 331 b (by decide)) (fun b => g24 346 b (by decide)) (fun b => g24 361 b (by decide)) (fun b => g24 391 b (by decide)) (fun a b h => g24 a b (by omega)) (fun a b h => g24 a b (by omega)) (fun b => g24 3438 b (by decide)) (fun a b h => g24 a b (by omega)) (fun a b h => g24 a b (by omega))
      have r39 := y_KM.fr p8 (g24 309 20 (by decide)) (g24 309 36 (by decide)) (g24 309 38 (by decide)) (g24 309 39 (by decide)) (fun b => g24 312 b (by decide)) (fun b => g24 331 b (by decide)) (fun b => g24 346 b (by decide)) (fun b => g24 361 b (by decide)) (fun b => g24 391 b (by decide)) (fun a b h => g24 a b (by omega)) (fun a b h => g24 a b (by omega)) (fun a b h => g24 a b (by omega))
      have r40 : y_CB s21 a9 x12 := Or.inr ⟨by omega, by omega⟩
      refine T_if1 (by decide +kernel) ?_
      refine T_let 390 (by decide +kernel) ?_
      refine T_if1 (z_ixl (n := 14) (by decide +kernel) (by omega) (by omega)) ?_
      refine T_let 391 (by decide +kernel) ?_
      refine T_if1 (z_ixl (n := 200) (by decide +kernel) (by omega) (by omega)) ?_
      refine T_leq (fun x41 e42 => ?_)
      have u43 := CI_b c22 (k := 391) (j := x12) (bdg (c := 391) (by omega) (by omega))
      refine T_ite (fun h44 => ?_) (fun h44 => ?_)
      · exact sj_X12_cut_309Y_J212 hfu r0 s21 c22 f23 a3 a4 a5 a6 a9 x12 a7 1 (by omega) (by omega) (by omega) (by omega) (by omega) (by omega) (by omega) (by omega) (by omega) (by omega) (by first | exact y_D.cg r35 (by omega) | exact y_D.z (by omega) | exact y_D.ex r35 (by omega) (by omega)) (by omega) (by omega) (by first | exact y_CB.cg r40 (by omega) (by omega) | exact y_CB.a (by omega) (by omega) | exact y_CB.b (by omega) (by assumption) (by omega)) r36 (by first | exact r37 | exact y_K.b0 (by omega) | exact y_K.k0 (by omega) | exact y_K.bk (by omega)) (by first | exact r38 | exact y_YM.b0 (by omega) | exact y_YM.k0 (by omega) | exact y_YM.bk (by omega)) (by first | exact r39 | exact y_KM.z (by omega)) M (by omega) (fun s' v5 v6 v7 v8 v9 c' f' w5 w6 w7 w8 w9 z0 z1 z2 z3 z4 z5 z6 z7 z8 pg => hr s' v5 v6 v7 v8 v9 c' f' w5 w6 w7 w8 w9 z0 z1 z2 z3 z4 z5 z6 z7 z8 (by omega)) hk
      · exact sj_X12_cut_309Y_J212 hfu r0 s21 c22 f23 a3 a4 a5 a6 a9 x12 a7 0 (by omega) (by omega) (by omega) (by omega) (by omega) (by omega) (by omega) (by omega) (by omega) (by omega) (by first | exact y_D.cg r35 (by omega) | exact y_D.z (by omega) | exact y_D.ex r35 (by omega) (by omega)) (by omega) (by omega) (by first | exact y_CB.cg r40 (by omega) (by omega) | exact y_CB.a (by omega) (by omega) | exact y_CB.b (by omega) (by assumption) (by omega)) r36 (by first | exact r37 | exact y_K.b0 (by omega) | exact y_K.k0 (by omega) | exact y_K.bk (by omega)) (by first | exact r38 | exact y_YM.b0 (by omega) | exact y_YM.k0 (by omega) | exact y_YM.bk (by omega)) (by first | exact r39 | exact y_KM.z (by omega)) M (by omega) (fun s' v5 v6 v7 v8 v9 c' f' w5 w6 w7 w8 w9 z0 z1 z2 z3 z4 z5 z6 z7 z8 pg => hr s' v5 v6 v7 v8 v9 c' f' w5 w6 w7 w8 w9 z0 z1 z2 z3 z4 z5 z6 z7 z8 (by omega)) hk
theorem sl_X12_cut_309Y_L125 {fu : Nat} (hfu : 8589934592 ≤ fu) (r0 : z_M) (a3 : Int) (a4 : Int) (b3 : -2147483648 ≤ a3 ∧ a3 ≤ 2147483647) (b4 : -2147483648 ≤ a4 ∧ a4 ≤ 2147483647) {k : z_M → Int → Int → z_O} (hk : ∀ (s' : z_M) (v5 : Int) (v6 : Int), z_CI s' → z_Fr R_X12_cut_309 r0 s' → (0 ≤ v5 ∧ v5 ≤ 200) → (0 ≤ v6 ∧ v6 ≤ 200) → (v6 ≤ v5) → (y_D s' v5) → (y_TA s') → (y_K s') → (y_KM s') → (y_YM s') → z_T (k s' v5 v6) (P_X12_cut_309Y r0)) : ∀ (F : Nat) (s : z_M) (a5 : Int) (a6 : Int) (a7 : Int) (a8 : Int) (a9 : Int), z_CI s → z_Fr R_X12_cut_309 r0 s → (0 ≤ a5 ∧ a5 ≤ 200) → (0 ≤ a6 ∧ a6 ≤ 200) → ((-1) ≤ a7 ∧ a7 ≤ 199) → (-2147483648 ≤ a8 ∧ a8 ≤ 2147483647) → (0 ≤ a9 ∧ a9 ≤ 200) → (a6 ≤ a5) → (a5 ≤ a9) → ((a6 = 0 ∧ a7 = -1 ∧ a8 = -1) ∨ (0 ≤ a7 ∧ a7 ≤ a6 - 1)) → (y_D s a5) → (y_TA s) → (y_K s) → (a9 ≤ s 316 0) → (y_KM s) → (y_YM s) → (2147483647 - a9 < (F : Int)) → z_T (fX12_cut_L125 fu 309 a3 a4 F s a5 a6 a7 a8 a9 k) (P_X12_cut_309Y r0) := by
  intro F
  induction F with
  | zero =>
    intro s a5 a6 a7 a8 a9 c f b5 b6 b7 b8 b9 i0 i1 i2 i3 i4 i5 i6 i7 i8 hm
    have u18 := CI_b c (k := 309) (j := 20) bd_309_20
    have u19 := CI_b c (k := 309) (j := 36) bd_309_36
    have u20 := CI_b c (k := 309) (j := 43) bd_309_43
    have u21 := CI_b c (k := 309) (j := 44) bd_309_44
    have u22 := CI_b c (k := 309) (j := 58) bd_309_58
    have u23 := CI_b c (k := 316) (j := 0) bd_316_0
    have u24 := CI_b c (k := 329) (j := 0) bd_329_0
    have u25 := CI_b c (k := 329) (j := 1) bd_329_1
    exfalso; omega
  | succ F ih =>
    intro s a5 a6 a7 a8 a9 c f b5 b6 b7 b8 b9 i0 i1 i2 i3 i4 i5 i6 i7 i8 hm
    refine T_of (fX12_cut_L125.eq_2 ..) ?_
    have u1 := CI_b c (k := 309) (j := 20) bd_309_20
    have u2 := CI_b c (k := 309) (j := 36) bd_309_36
    have u3 := CI_b c (k := 309) (j := 43) bd_309_43
    have u4 := CI_b c (k := 309) (j := 44) bd_309_44
    have u5 := CI_b c (k := 309) (j := 58) bd_309_58
    have u6 := CI_b c (k := 316) (j := 0) bd_316_0
    have u7 := CI_b c (k := 329) (j := 0) bd_329_0
    have u8 := CI_b c (k := 329) (j := 1) bd_329_1
    have t9 : s 309 43 = r0 309 43 := f 309 43 (by decide)
    have t10 : s 309 44 = r0 309 44 := f 309 44 (by decide)
    have t11 : s 309 58 = r0 309 58 := f 309 58 (by decide)
    refine T_if1 (by decide +kernel) ?_
    refine T_let 315 (by decide +kernel) ?_
    refine T_if1 (z_ixl (n := 14) (by decide +kernel) (by omega) (by omega)) ?_
    refine T_let 316 (by decide +kernel) ?_
    refine T_if1 (z_ixl (n := 3) (by decide +kernel) (by omega) (by omega)) ?_
    refine T_leq (fun x12 e13 => ?_)
    have u14 := CI_b c (k := 316) (j := 0) bd_316_0
    refine T_ite (fun h15 => ?_) (fun h15 => ?_)
    · exact hk s a5 a6 c f (by omega) (by omega) (by omega) (by first | exact y_D.cg i3 (by omega) | exact y_D.z (by omega) | exact y_D.ex i3 (by omega) (by omega)) i4 (by first | exact i5 | exact y_K.b0 (by omega) | exact y_K.k0 (by omega) | exact y_K.bk (by omega)) (by first | exact i7 | exact y_KM.z (by omega)) (by first | exact i8 | exact y_YM.b0 (by omega) | exact y_YM.k0 (by omega) | exact y_YM.bk (by omega))
    · refine T_ite (fun h16 => ?_) (fun h16 => ?_)
      · exact sj_X12_cut_309Y_J154 hfu r0 s c f a3 a4 a5 a6 a7 a8 a9 (by omega) (by omega) (by omega) (by omega) (by omega) (by omega) (by omega) (by omega) (by omega) (by omega) (by first | exact y_D.cg i3 (by omega) | exact y_D.z (by omega) | exact y_D.ex i3 (by omega) (by omega)) i4 (by first | exact i5 | exact y_K.b0 (by omega) | exact y_K.k0 (by omega) | exact y_K.bk (by omega)) (by omega) (by first | exact i8 | exact y_YM.b0 (by omega) | exact y_YM.k0 (by omega) | exact y_YM.bk (by omega)) (by first | exact i7 | exact y_KM.z (by omega)) (2147483647 - a9) (by omega) (fun s' v5 v6 v7 v8 v9 c' f' w5 w6 w7 w8 w9 z0 z1 z2 z3 z4 z5 z6 z7 z8 pg => ih s' v5 v6 v7 v8 v9 c' f' w5 w6 w7 w8 w9 z0 z1 z2 z3 z4 z5 z6 z7 z8 (by omega)) hk
      · refine T_ite (fun h17 => ?_) (fun h17 => ?_)
        · exact sj_X12_cut_309Y_J154 hfu r0 s c f a3 a4 a5 a6 a7 a8 a9 (by omega) (by omega) (by omega) (by omega) (by omega) (by omega) (by omega) (by omega) (by omega) (by omega) (by first | exact y_D.cg i3 (by omega) | exact y_D.z (by omega) | exact y_D.ex i3 (by omega) (by omega)) i4 (by first | exact i5 | exact y_K.b0 (by omega) | exact y_K.k0 (by omega) | exact y_K.bk (by omega)) (by omega) (by first | exact i8 | exact y_YM.b0 (by omega) | exact y_YM.k0 (by omega) | exact y_YM.bk (by omega)) (by first | exact i7 | exact y_KM.z (by omega)) (2147483647 - a9) (by omega) (fun s' v5 v6 v7 v8 v9 c' f' w5 w6 w7 w8 w9 z0 z1 z2 z3 z4 z5 z6 z7 z8 pg => ih s' v5 v6 v7 v8 v9 c' f' w5 w6 w7 w8 w9 z0 z1 z2 z3 z4 z5 z6 z7 z8 (by omega)) hk
        · exact sj_X12_cut_309Y_J369 hfu r0 s c f a3 a4 a5 a6 a7 a8 a9 (by omega) (by omega) (by omega) (by omega) (by omega) (by omega) (by omega) (by omega) (by omega) (by omega) (by first | exact y_D.cg i3 (by omega) | exact y_D.z (by omega) | exact y_D.ex i3 (by omega) (by omega)) i4 (by first | exact i5 | exact y_K.b0 (by omega) | exact y_K.k0 (by omega) | exact y_K.bk (by omega)) (by omega) (by first | exact i8 | exact y_YM.b0 (by omega) | exact y_YM.k0 (by omega) | exact y_YM.bk (by omega)) (by first | exact i7 | exact y_KM.z (by omega)) (2147483647 - a9) (by omega) (fun s' v5 v6 v7 v8 v9 c' f' w5 w6 w7 w8 w9 z0 z1 z2 z3 z4 z5 z6 z7 z8 pg => ih s' v5 v6 v7 v8 v9 c' f' w5 w6 w7 w8 w9 z0 z1 z2 z3 z4 z5 z6 z7 z8 (by omega)) hk
set_option maxHeartbeats 4000000 in
theorem sj_X12_cut_309Y_J46 {fu : Nat} (hfu : 8589934592 ≤ fu) (r0 s : z_M) (c : z_CI s) (f : z_Fr R_X12_cut_309 r0 s) (a1 : Int) (a2 : Int) (t1 : Int) (b1 : -2147483648 ≤ a1 ∧ a1 ≤ 2147483647) (b2 : -2147483648 ≤ a2 ∧ a2 ≤ 2147483647) (d1 : 0 ≤ t1 ∧ t1 ≤ 1) (p0 : y_TA s) (p1 : y_DD s) (p2 : y_B s) (p3 : y_K s) (p4 : 0 ≤ a1 ∧ a1 < s 309 20 ∧ 0 ≤ a2 ∧ a2 < s 309 20) (p5 : t1 = 1 ∨ a1 ≤ a2) (p6 : y_YM s) (p7 : y_KM s) : z_T (fX12_cut_J46 fu s 309 a1 a2 309 t1) (P_X12_cut_309Y r0) := by
  refine T_of (fX12_cut_J46.eq_1 ..) ?_
  have u1 := CI_b c (k := 309) (j := 20) bd_309_20
  have u2 := CI_b c (k := 309) (j := 36) bd_309_36
  have u3 := CI_b c (k := 309) (j := 43) bd_309_43
  have u4 := CI_b c (k := 309) (j := 44) bd_309_44
  have u5 := CI_b c (k := 309) (j := 58) bd_309_58
  have u6 := CI_b c (k := 316) (j := 0) bd_316_0
  have u7 := CI_b c (k := 329) (j := 0) bd_329_0
  have u8 := CI_b c (k := 329) (j := 1) bd_329_1
  have t9 : s 309 43 = r0 309 43 := f 309 43 (by decide)
  have t10 : s 309 44 = r0 309 44 := f 309 44 (by decide)
  have t11 : s 309 58 = r0 309 58 := f 309 58 (by decide)
  refine T_if1 (by decide +kernel) ?_
  refine T_useI (sf_X12_bad_309 hfu s c t1 2 1 (by omega) (by omega) (by omega) (by omega)) (fun v17 s12 hq => ?_)
  obtain ⟨c13, f14, o18, ⟨x16, rfl, b19, b20, o21, o22⟩⟩ := hq
  refine T_vI ?_
  have f15 := z_Fr.tr (R := R_X12_cut_309) f f14 rs_X12_bad_309__X12_cut_309
  have t23 : s12 309 20 = s 309 20 := f14 309 20 (by decide)
  have t24 : s12 309 36 = s 309 36 := f14 309 36 (by decide)
  have t25 : s12 309 43 = s 309 43 := f14 309 43 (by decide)
  have t26 : s12 309 44 = s 309 44 := f14 309 44 (by decide)
  have t27 : s12 309 58 = s 309 58 := f14 309 58 (by decide)
  have t28 : s12 316 0 = s 316 0 := f14 316 0 (by decide)
  have t29 : s12 329 0 = s 329 0 := f14 329 0 (by decide)
  have t30 : s12 329 1 = s 329 1 := f14 329 1 (by decide)
  have r31 := y_TA.fr p0 (fun a b h => f14 a b (nz_X12_bad_309__316_328 a b h)) (fun a b h => f14 a b (nz_X12_bad_309__346_358 a b h)) (fun a b h => f14 a b (nz_X12_bad_309__361_373 a b h))
  have r32 := y_DD.fr p1 (f14 329 0 (by decide)) (f14 329 1 (by decide)) (fun b => f14 359 b (nr_X12_bad_309__359 b)) (fun b => f14 374 b (nr_X12_bad_309__374 b))
  have r33 := y_B.fr p2 (f14 309 20 (by decide)) (f14 316 0 (by decide)) (fun b => f14 3220 b (nr_X12_bad_309__3220 b)) (fun b => f14 3221 b (nr_X12_bad_309__3221 b)) (fun b => f14 3222 b (nr_X12_bad_309__3222 b)) (fun b => f14 361 b (nr_X12_bad_309__361 b))
  have r34 := y_K.fr p3 (by omega) (by omega) (f14 309 44 (by decide)) (f14 309 20 (by decide)) (f14 309 58 (by decide)) (fun b => f14 3438 b (nr_X12_bad_309__3438 b)) (fun b => f14 3220 b (nr_X12_bad_309__3220 b)) (fun a b h => f14 a b (nz_X12_bad_309__3452_3651 a b h))
  have r35 := y_YM.fr p6 (by omega) (f14 309 44 (by decide)) (f14 309 20 (by decide)) (f14 309 58 (by decide)) (fun b => f14 312 b (nr_X12_bad_309__312 b)) (fun b => f14 331 b (nr_X12_bad_309__331 b)) (fun b => f14 346 b (nr_X12_bad_309__346 b)) (fun b => f14 361 b (nr_X12_bad_309__361 b)) (fun b => f14 391 b (nr_X12_bad_309__391 b)) (fun a b h => f14 a b (nz_X12_bad_309__407_606 a b h)) (fun a b h => f14 a b (nz_X12_bad_309__3220_3223 a b h)) (fun b => f14 3438 b (nr_X12_bad_309__3438 b)) (fun a b h => f14 a b (nz_X12_bad_309__3441_3450 a b h)) (fun a b h => f14 a b (nz_X12_bad_309__3452_3651 a b h))
  have r36 := y_KM.fr p7 (f14 309 20 (by decide)) (f14 309 36 (by decide)) (f14 309 38 (by decide)) (f14 309 39 (by decide)) (fun b => f14 312 b (nr_X12_bad_309__312 b)) (fun b => f14 331 b (nr_X12_bad_309__331 b)) (fun b => f14 346 b (nr_X12_bad_309__346 b)) (fun b => f14 361 b (nr_X12_bad_309__361 b)) (fun b => f14 391 b (nr_X12_bad_309__391 b)) (fun a b h => f14 a b (nz_X12_bad_309__407_606 a b h)) (fun a b h => f14 a b (nz_X12_bad_309__3220_3223 a b h)) (fun a b h => f14 a b (nz_X12_bad_309__3235_3437 a b h))
  refine T_ite (fun h37 => ?_) (fun h37 => ?_)
  · refine T_if1 (by decide +kernel) ?_
    refine T_useN (sf_X12_copies_309Y hfu s12 c13 0 13 (by omega) (by omega) (by omega) (by first | exact r36 | exact y_KM.z (by omega)) (by first | exact r35 | exact y_YM.b0 (by omega) | exact y_YM.k0 (by omega) | exact y_YM.bk (by omega))) (fun v43 s38 hq => ?_)
    obtain ⟨c39, f40, o44, o45, o46, rfl⟩ := hq
    refine T_vN ?_
    have f41 := z_Fr.tr (R := R_X12_cut_309) f15 f40 rs_X12_copies_309__X12_cut_309
    have t49 : s38 309 20 = s 309 20 := (f40 309 20 (by decide)).trans t23
    have t50 : s38 309 36 = s 309 36 := (f40 309 36 (by decide)).trans t24
    have t51 : s38 309 43 = s 309 43 := (f40 309 43 (by decide)).trans t25
    have t52 : s38 309 44 = s 309 44 := (f40 309 44 (by decide)).trans t26
    have t53 : s38 309 58 = s 309 58 := (f40 309 58 (by decide)).trans t27
    have u54 := CI_b c39 (k := 316) (j := 0) bd_316_0
    have u55 := CI_b c39 (k := 329) (j := 0) bd_329_0
    have u56 := CI_b c39 (k := 329) (j := 1) bd_329_1
    have r57 := y_K.fr r34 (by omega) (by omega) (f40 309 44 (by decide)) (f40 309 20 (by decide)) (f40 309 58 (by decide)) (fun b => f40 3438 b (nr_X12_copies_309__3438 b)) (fun b => f40 3220 b (nr_X12_copies_309__3220 b)) (fun a b h => f40 a b (nz_X12_copies_309__3452_3651 a b h))
    have r58 := y_CP.TA o44 c13 (by omega) r31
    clear t23
    clear t24
    clear t25
    clear t26
    clear t27
    refine T_if1 (by decide +kernel) ?_
    refine T_let 3221 (by decide +kernel) ?_
    refine T_if1 (z_ixl (n := 200) (by decide +kernel) (by omega) (by omega)) ?_
    refine T_leq (fun x59 e60 => ?_)
    have u61 := CI_b c39 (k := 3221) (j := a1) (bdr_3221 a1)
    refine T_if1 (by decide +kernel) ?_
    refine T_let 3221 (by decide +kernel) ?_
    refine T_if1 (z_ixl (n := 200) (by decide +kernel) (by omega) (by omega)) ?_
    refine T_leq (fun x62 e63 => ?_)
    have u64 := CI_b c39 (k := 3221) (j := a2) (bdr_3221 a2)
    refine T_if1 (by decide +kernel) ?_
    refine T_let 3222 (by decide +kernel) ?_
    refine T_if1 (z_ixl (n := 200) (by decide +kernel) (by omega) (by omega)) ?_
    refine T_leq (fun x65 e66 => ?_)
    have u67 := CI_b c39 (k := 3222) (j := a2) (bdr_3222 a2)
    refine T_leq (fun x68 e69 => ?_)
    first | (have w70 := z_wx e69 (by omega)) | (have w70 := z_wr e69)
    refine sl_X12_cut_309Y_L100 hfu r0 x59 x68 0 0 (-1) (-1) (by omega) (by omega) (by omega) (by omega) (by omega) (by omega) (fun s71 c72 f73 g74 g75 g76 g77 => ?_) fu s38 0 c39 f41 (by omega) r58 (by first | exact r57 | exact y_K.b0 (by omega) | exact y_K.k0 (by omega) | exact y_K.bk (by omega)) (by first | exact y_KM.z (by omega) | exact y_KQ.m o45 (by omega)) (by first | exact y_YM.b0 (by omega) | exact y_YM.k0 (by omega) | exact y_YM.bk (by omega) | exact y_YQ.m o46 (by omega)) (by omega)
    have u78 := CI_b c72 (k := 309) (j := 20) bd_309_20
    have u79 := CI_b c72 (k := 309) (j := 36) bd_309_36
    have u80 := CI_b c72 (k := 309) (j := 43) bd_309_43
    have u81 := CI_b c72 (k := 309) (j := 44) bd_309_44
    have u82 := CI_b c72 (k := 309) (j := 58) bd_309_58
    have u83 := CI_b c72 (k := 316) (j := 0) bd_316_0
    have u84 := CI_b c72 (k := 329) (j := 0) bd_329_0
    have u85 := CI_b c72 (k := 329) (j := 1) bd_329_1
    have t86 : s71 309 43 = r0 309 43 := f73 309 43 (by decide)
    have t87 : s71 309 44 = r0 309 44 := f73 309 44 (by decide)
    have t88 : s71 309 58 = r0 309 58 := f73 309 58 (by decide)
    refine sl_X12_cut_309Y_L125 hfu r0 x59 x68 (by omega) (by omega) (fun s89 y92 y93 c90 f91 b94 b95 g96 g97 g98 g99 g100 g101 => ?_) fu s71 0 0 (-1) (-1) 0 c72 f73 (by omega) (by omega) (by omega) (by omega) (by omega) (by omega) (by omega) (by omega) (by first | exact y_D.z (by omega)) g74 (by first | exact g75 | exact y_K.b0 (by omega) | exact y_K.k0 (by omega) | exact y_K.bk (by omega)) (by omega) (by first | exact g76 | exact y_KM.z (by omega)) (by first | exact g77 | exact y_YM.b0 (by omega) | exact y_YM.k0 (by omega) | exact y_YM.bk (by omega)) (by omega)
    have u102 := CI_b c90 (k := 309) (j := 20) bd_309_20
    have u103 := CI_b c90 (k := 309) (j := 36) bd_309_36
    have u104 := CI_b c90 (k := 309) (j := 43) bd_309_43
    have u105 := CI_b c90 (k := 309) (j := 44) bd_309_44
    have u106 := CI_b c90 (k := 309) (j := 58) bd_309_58
    have u107 := CI_b c90 (k := 316) (j := 0) bd_316_0
    have u108 := CI_b c90 (k := 329) (j := 0) bd_329_0
    have u109 := CI_b c90 (k := 329) (j := 1) bd_329_1
    have t110 : s89 309 43 = r0 309 43 := f91 309 43 (by decide)
    have t111 : s89 309 44 = r0 309 44 := f91 309 44 (by decide)
    have t112 : s89 309 58 = r0 309 58 := f91 309 58 (by decide)
    refine T_if1 (by decide +kernel) ?_
    refine T_let 315 (by decide +kernel) ?_
    refine T_if1 (z_ixl (n := 14) (by decide +kernel) (by omega) (by omega)) ?_
    refine T_let 329 (by decide +kernel) ?_
    refine T_if1 (z_ixl (n := 3) (by decide +kernel) (by omega) (by omega)) ?_
    refine T_upg c90 bd_329_0 (by omega) (fun s113 c114 g116 g117 e118 => ?_)
    have f115 := z_Fr.up (R := R_X12_cut_309) f91 g116 (fun _ => (Or.inr (Or.inl (⟨by decide, by decide⟩))))
    have t119 : s113 309 20 = s89 309 20 := g116 309 20 (by decide)
    have t120 : s113 309 36 = s89 309 36 := g116 309 36 (by decide)
    have t121 : s113 309 43 = s89 309 43 := g116 309 43 (by decide)
    have t122 : s113 309 44 = s89 309 44 := g116 309 44 (by decide)
    have t123 : s113 309 58 = s89 309 58 := g116 309 58 (by decide)
    have t124 : s113 316 0 = s89 316 0 := g116 316 0 (by decide)
    have t125 : s113 329 1 = s89 329 1 := g117 1 (by decide)
    have u126 := CI_b c114 (k := 329) (j := 0) bd_329_0
    have r127 := y_D.fr g97 (fun b => g116 359 b (by decide)) (fun b => g116 374 b (by decide))
    have r128 := y_TA.fr g98 (fun a b h => g116 a b (by omega)) (fun a b h => g116 a b (by omega)) (fun a b h => g116 a b (by omega))
    have r129 := y_K.fr g99 (by omega) (by omega) (g116 309 44 (by decide)) (g116 309 20 (by decide)) (g116 309 58 (by decide)) (fun b => g116 3438 b (by decide)) (fun b => g116 3220 b (by decide)) (fun a b h => g116 a b (by omega))
    have r130 := y_KM.fr g100 (g116 309 20 (by decide)) (g116 309 36 (by decide)) (g116 309 38 (by decide)) (g116 309 39 (by decide)) (fun b => g116 312 b (by decide)) (fun b => g116 331 b (by decide)) (fun b => g116 346 b (by decide)) (fun b => g116 361 b (by decide)) (fun b => g116 391 b (by decide)) (fun a b h => g116 a b (by omega)) (fun a b h => g116 a b (by omega)) (fun a b h => g116 a b (by omega))
    have r131 := y_YM.fr g101 (by omega) (g116 309 44 (by decide)) (g116 309 20 (by decide)) (g116 309 58 (by decide)) (fun b => g116 312 b (by decide)) (fun b => g116 331 b (by decide)) (fun b => g116 346 b (by decide)) (fun b => g116 361 b (by decide)) (fun b => g116 391 b (by decide)) (fun a b h => g116 a b (by omega)) (fun a b h => g116 a b (by omega)) (fun b => g116 3438 b (by decide)) (fun a b h => g116 a b (by omega)) (fun a b h => g116 a b (by omega))
    refine T_if1 (by decide +kernel) ?_
    refine T_let 315 (by decide +kernel) ?_
    refine T_if1 (z_ixl (n := 14) (by decide +kernel) (by omega) (by omega)) ?_
    refine T_let 329 (by decide +kernel) ?_
    refine T_if1 (z_ixl (n := 3) (by decide +kernel) (by omega) (by omega)) ?_
    refine T_upg c114 bd_329_1 (by omega) (fun s132 c133 g135 g136 e137 => ?_)
    have f134 := z_Fr.up (R := R_X12_cut_309) f115 g135 (fun _ => (Or.inr (Or.inl (⟨by decide, by decide⟩))))
    have t138 : s132 309 20 = s89 309 20 := (g135 309 20 (by decide)).trans t119
    have t139 : s132 309 36 = s89 309 36 := (g135 309 36 (by decide)).trans t120
    have t140 : s132 309 43 = s89 309 43 := (g135 309 43 (by decide)).trans t121
    have t141 : s132 309 44 = s89 309 44 := (g135 309 44 (by decide)).trans t122
    have t142 : s132 309 58 = s89 309 58 := (g135 309 58 (by decide)).trans t123
    have t143 : s132 316 0 = s89 316 0 := (g135 316 0 (by decide)).trans t124
    have t144 : s132 329 0 = s113 329 0 := g136 0 (by decide)
    have u145 := CI_b c133 (k := 329) (j := 1) bd_329_1
    have r146 := y_D.fr r127 (fun b => g135 359 b (by decide)) (fun b => g135 374 b (by decide))
    have r147 := y_TA.fr r128 (fun a b h => g135 a b (by omega)) (fun a b h => g135 a b (by omega)) (fun a b h => g135 a b (by omega))
    have r148 := y_K.fr r129 (by omega) (by omega) (g135 309 44 (by decide)) (g135 309 20 (by decide)) (g135 309 58 (by decide)) (fun b => g135 3438 b (by decide)) (fun b => g135 3220 b (by decide)) (fun a b h => g135 a b (by omega))
    have r149 := y_KM.fr r130 (g135 309 20 (by decide)) (g135 309 36 (by decide)) (g135 309 38 (by decide)) (g135 309 39 (by decide)) (fun b => g135 312 b (by decide)) (fun b => g135 331 b (by decide)) (fun b => g135 346 b (by decide)) (fun b => g135 361 b (by decide)) (fun b => g135 391 b (by decide)) (fun a b h => g135 a b (by omega)) (fun a b h => g135 a b (by omega)) (fun a b h => g135 a b (by omega))
    have r150 := y_YM.fr r131 (by omega) (g135 309 44 (by decide)) (g135 309 20 (by decide)) (g135 309 58 (by decide)) (fun b => g135 312 b (by decide)) (fun b => g135 331 b (by decide)) (fun b => g135 346 b (by decide)) (fun b => g135 361 b (by decide)) (fun b => g135 391 b (by decide)) (fun a b h => g135 a b (by omega)) (fun a b h => g135 a b (by omega)) (fun b => g135 3438 b (by decide)) (fun a b h => g135 a b (by omega)) (fun a b h => g135 a b (by omega))
    clear t119
    clear t120
    clear t121
    clear t122
    clear t123
    clear t124
    refine T_if1 (by decide +kernel) ?_
    refine T_useN (sf_X12_stands_309Y hfu s132 c133 r147 (by first | exact ⟨by omega, y_D.cg r146 (by omega)⟩ | exact y_DD.z (by omega) (by omega)) (by first | exact r149 | exact y_KM.z (by omega)) (by first | exact r150 | exact y_YM.b0 (by omega) | exact y_YM.k0 (by omega) | exact y_YM.bk (by omega))) (fun v156 s151 hq => ?_)
    obtain ⟨c152, f153, o157, o158, o159, o160, o161, o162, rfl⟩ := hq
    refine T_vN ?_
    have f154 := z_Fr.tr (R := R_X12_cut_309) f134 f153 rs_X12_stands_309__X12_cut_309
    have t165 : s151 309 43 = s89 309 43 := (f153 309 43 (by decide)).trans t140
    have t166 : s151 309 44 = s89 309 44 := (f153 309 44 (by decide)).trans t141
    have t167 : s151 309 58 = s89 309 58 := (f153 309 58 (by decide)).trans t142
    have u168 := CI_b c152 (k := 309) (j := 20) bd_309_20
    have u169 := CI_b c152 (k := 309) (j := 36) bd_309_36
    have u170 := CI_b c152 (k := 316) (j := 0) bd_316_0
    have u171 := CI_b c152 (k := 329) (j := 0) bd_329_0
    have u172 := CI_b c152 (k := 329) (j := 1) bd_329_1
    clear t140
    clear t141
    clear t142
    refine T_if1 (by decide +kernel) ?_
    refine T_leq (fun x173 e174 => ?_)
    have u175 := CI_b c152 (k := 309) (j := 20) bd_309_20
    exact T_ret ⟨c152, f154, o157, (by first | exact o158 | exact y_DD.z (by omega) (by omega)), o159, (by first | exact y_K.b0 (by omega) | exact y_K.k0 (by omega) | exact y_K.bk (by omega)), (by first | exact o161 | exact y_KM.z (by omega)), (by first | exact o162 | exact y_YM.b0 (by omega) | exact y_YM.k0 (by omega) | exact y_YM.bk (by omega)), ⟨x173, rfl, by omega, by omega⟩⟩
  · exact sj_X12_cut_309Y_J54 hfu r0 s12 c13 f15 r31 (by first | exact r32 | exact y_DD.z (by omega) (by omega)) r33 (by first | exact r34 | exact y_K.b0 (by omega) | exact y_K.k0 (by omega) | exact y_K.bk (by omega)) (by first | exact r35 | exact y_YM.b0 (by omega) | exact y_YM.k0 (by omega) | exact y_YM.bk (by omega)) (by first | exact r36 | exact y_KM.z (by omega))
theorem sj_X12_cut_309Y_J27 {fu : Nat} (hfu : 8589934592 ≤ fu) (r0 s : z_M) (c : z_CI s) (f : z_Fr R_X12_cut_309 r0 s) (a1 : Int) (a2 : Int) (t1 : Int) (b1 : -2147483648 ≤ a1 ∧ a1 ≤ 2147483647) (b2 : -2147483648 ≤ a2 ∧ a2 ≤ 2147483647) (d1 : 0 ≤ t1 ∧ t1 ≤ 1) (p0 : y_TA s) (p1 : y_DD s) (p2 : y_B s) (p3 : y_K s) (p4 : t1 = 1 ∨ (0 ≤ a1 ∧ a1 < s 309 20 ∧ 0 ≤ a2 ∧ a2 < s 309 20)) (p5 : y_YM s) (p6 : y_KM s) : z_T (fX12_cut_J27 fu s 309 a1 a2 309 t1) (P_X12_cut_309Y r0) := by
  refine T_of (fX12_cut_J27.eq_1 ..) ?_
  have u1 := CI_b c (k := 309) (j := 20) bd_309_20
  have u2 := CI_b c (k := 309) (j := 36) bd_309_36
  have u3 := CI_b c (k := 309) (j := 43) bd_309_43
  have u4 := CI_b c (k := 309) (j := 44) bd_309_44
  have u5 := CI_b c (k := 309) (j := 58) bd_309_58
  have u6 := CI_b c (k := 316) (j := 0) bd_316_0
  have u7 := CI_b c (k := 329) (j := 0) bd_329_0
  have u8 := CI_b c (k := 329) (j := 1) bd_329_1
  have t9 : s 309 43 = r0 309 43 := f 309 43 (by decide)
  have t10 : s 309 44 = r0 309 44 := f 309 44 (by decide)
  have t11 : s 309 58 = r0 309 58 := f 309 58 (by decide)
  refine T_if1 (by decide +kernel) ?_
  refine T_useI (sf_X12_bad_309 hfu s c t1 1 0 (by omega) (by omega) (by omega) (by omega)) (fun v17 s12 hq => ?_)
  obtain ⟨c13, f14, o18, ⟨x16, rfl, b19, b20, o21, o22⟩⟩ := hq
  refine T_vI ?_
  have f15 := z_Fr.tr (R := R_X12_cut_309) f f14 rs_X12_bad_309__X12_cut_309
  have t23 : s12 309 20 = s 309 20 := f14 309 20 (by decide)
  have t24 : s12 309 36 = s 309 36 := f14 309 36 (by decide)
  have t25 : s12 309 43 = s 309 43 := f14 309 43 (by decide)
  have t26 : s12 309 44 = s 309 44 := f14 309 44 (by decide)
  have t27 : s12 309 58 = s 309 58 := f14 309 58 (by decide)
  have t28 : s12 316 0 = s 316 0 := f14 316 0 (by decide)
  have t29 : s12 329 0 = s 329 0 := f14 329 0 (by decide)
  have t30 : s12 329 1 = s 329 1 := f14 329 1 (by decide)
  have r31 := y_TA.fr p0 (fun a b h => f14 a b (nz_X12_bad_309__316_328 a b h)) (fun a b h => f14 a b (nz_X12_bad_309__346_358 a b h)) (fun a b h => f14 a b (nz_X12_bad_309__361_373 a b h))
  have r32 := y_DD.fr p1 (f14 329 0 (by decide)) (f14 329 1 (by decide)) (fun b => f14 359 b (nr_X12_bad_309__359 b)) (fun b => f14 374 b (nr_X12_bad_309__374 b))
  have r33 := y_B.fr p2 (f14 309 20 (by decide)) (f14 316 0 (by decide)) (fun b => f14 3220 b (nr_X12_bad_309__3220 b)) (fun b => f14 3221 b (nr_X12_bad_309__3221 b)) (fun b => f14 3222 b (nr_X12_bad_309__3222 b)) (fun b => f14 361 b (nr_X12_bad_309__361 b))
  have r34 := y_K.fr p3 (by omega) (by omega) (f14 309 44 (by decide)) (f14 309 20 (by decide)) (f14 309 58 (by decide)) (fun b => f14 3438 b (nr_X12_bad_309__3438 b)) (fun b => f14 3220 b (nr_X12_bad_309__3220 b)) (fun a b h => f14 a b (nz_X12_bad_309__3452_3651 a b h))
  have r35 := y_YM.fr p5 (by omega) (f14 309 44 (by decide)) (f14 309 20 (by decide)) (f14 309 58 (by decide)) (fun b => f14 312 b (nr_X12_bad_309__312 b)) (fun b => f14 331 b (nr_X12_bad_309__331 b)) (fun b => f14 346 b (nr_X12_bad_309__346 b)) (fun b => f14 361 b (nr_X12_bad_309__361 b)) (fun b => f14 391 b (nr_X12_bad_309__391 b)) (fun a b h => f14 a b (nz_X12_bad_309__407_606 a b h)) (fun a b h => f14 a b (nz_X12_bad_309__3220_3223 a b h)) (fun b => f14 3438 b (nr_X12_bad_309__3438 b)) (fun a b h => f14 a b (nz_X12_bad_309__3441_3450 a b h)) (fun a b h => f14 a b (nz_X12_bad_309__3452_3651 a b h))
  have r36 := y_KM.fr p6 (f14 309 20 (by decide)) (f14 309 36 (by decide)) (f14 309 38 (by decide)) (f14 309 39 (by decide)) (fun b => f14 312 b (nr_X12_bad_309__312 b)) (fun b => f14 331 b (nr_X12_bad_309__331 b)) (fun b => f14 346 b (nr_X12_bad_309__346 b)) (fun b => f14 361 b (nr_X12_bad_309__361 b)) (fun b => f14 391 b (nr_X12_bad_309__391 b)) (fun a b h => f14 a b (nz_X12_bad_309__407_606 a b h)) (fun a b h => f14 a b (nz_X12_bad_309__3220_3223 a b h)) (fun a b h => f14 a b (nz_X12_bad_309__3235_3437 a b h))
  refine T_ite (fun h37 => ?_) (fun h37 => ?_)
  · exact sj_X12_cut_309Y_J54 hfu r0 s12 c13 f15 r31 (by first | exact r32 | exact y_DD.z (by omega) (by omega)) r33 (by first | exact r34 | exact y_K.b0 (by omega) | exact y_K.k0 (by omega) | exact y_K.bk (by omega)) (by first | exact r35 | exact y_YM.b0 (by omega) | exact y_YM.k0 (by omega) | exact y_YM.bk (by omega)) (by first | exact r36 | exact y_KM.z (by omega))
  · refine T_ite (fun h38 => ?_) (fun h38 => ?_)
    · exact sj_X12_cut_309Y_J46 hfu r0 s12 c13 f15 a1 a2 0 (by omega) (by omega) (by omega) r31 (by first | exact r32 | exact y_DD.z (by omega) (by omega)) r33 (by first | exact r34 | exact y_K.b0 (by omega) | exact y_K.k0 (by omega) | exact y_K.bk (by omega)) (by omega) (by omega) (by first | exact r35 | exact y_YM.b0 (by omega) | exact y_YM.k0 (by omega) | exact y_YM.bk (by omega)) (by first | exact r36 | exact y_KM.z (by omega))
    · exact sj_X12_cut_309Y_J46 hfu r0 s12 c13 f15 a1 a2 1 (by omega) (by omega) (by omega) r31 (by first | exact r32 | exact y_DD.z (by omega) (by omega)) r33 (by first | exact r34 | exact y_K.b0 (by omega) | exact y_K.k0 (by omega) | exact y_K.bk (by omega)) (by omega) (by omega) (by first | exact r35 | exact y_YM.b0 (by omega) | exact y_YM.k0 (by omega) | exact y_YM.bk (by omega)) (by first | exact r36 | exact y_KM.z (by omega))
theorem sj_X12_cut_309Y_J22 {fu : Nat} (hfu : 8589934592 ≤ fu) (r0 s : z_M) (c : z_CI s) (f : z_Fr R_X12_cut_309 r0 s) (a1 : Int) (a2 : Int) (b1 : -2147483648 ≤ a1 ∧ a1 ≤ 2147483647) (b2 : -2147483648 ≤ a2 ∧ a2 ≤ 2147483647) (p0 : y_TA s) (p1 : y_DD s) (p2 : y_B s) (p3 : y_K s) (p4 : y_YM s) (p5 : y_KM s) : z_T (fX12_cut_J22 fu s 309 a1 a2 309) (P_X12_cut_309Y r0) := by
  refine T_of (fX12_cut_J22.eq_1 ..) ?_
  have u1 := CI_b c (k := 309) (j := 20) bd_309_20
  have u2 := CI_b c (k := 309) (j := 36) bd_309_36
  have u3 := CI_b c (k := 309) (j := 43) bd_309_43
  have u4 := CI_b c (k := 309) (j := 44) bd_309_44
  have u5 := CI_b c (k := 309) (j := 58) bd_309_58
  have u6 := CI_b c (k := 316) (j := 0) bd_316_0
  have u7 := CI_b c (k := 329) (j := 0) bd_329_0
  have u8 := CI_b c (k := 329) (j := 1) bd_329_1
  have t9 : s 309 43 = r0 309 43 := f 309 43 (by decide)
  have t10 : s 309 44 = r0 309 44 := f 309 44 (by decide)
  have t11 : s 309 58 = r0 309 58 := f 309 58 (by decide)
  exact sj_X12_cut_309Y_J27 hfu r0 s c f a1 a2 1 (by omega) (by omega) (by omega) p0 (by first | exact p1 | exact y_DD.z (by omega) (by omega)) p2 (by first | exact p3 | exact y_K.b0 (by omega) | exact y_K.k0 (by omega) | exact y_K.bk (by omega)) (by omega) (by first | exact p4 | exact y_YM.b0 (by omega) | exact y_YM.k0 (by omega) | exact y_YM.bk (by omega)) (by first | exact p5 | exact y_KM.z (by omega))
theorem sf_X12_cut_309Y {fu : Nat} (hfu : 8589934592 ≤ fu) (r0 : z_M) (c0 : z_CI r0) (a1 : Int) (a2 : Int) (b1 : -2147483648 ≤ a1 ∧ a1 ≤ 2147483647) (b2 : -2147483648 ≤ a2 ∧ a2 ≤ 2147483647) (p0 : y_TA r0) (p1 : y_DD r0) (p2 : y_B r0) (p3 : y_K r0) (p4 : y_KM r0) (p5 : y_YM r0) : z_T (fX12_cut fu r0 309 a1 a2) (P_X12_cut_309Y r0) := by
  refine T_of (fX12_cut.eq_1 ..) ?_
  have u1 := CI_b c0 (k := 309) (j := 20) bd_309_20
  have u2 := CI_b c0 (k := 309) (j := 36) bd_309_36
  have u3 := CI_b c0 (k := 309) (j := 43) bd_309_43
  have u4 := CI_b c0 (k := 309) (j := 44) bd_309_44
  have u5 := CI_b c0 (k := 309) (j := 58) bd_309_58
  have u6 := CI_b c0 (k := 316) (j := 0) bd_316_0
  have u7 := CI_b c0 (k := 329) (j := 0) bd_329_0
  have u8 := CI_b c0 (k := 329) (j := 1) bd_329_1
  refine T_if1 (by decide +kernel) ?_
  refine T_upg c0 bd_309_0 (by omega) (fun s9 c10 g12 g13 e14 => ?_)
  have f11 := z_Fr.upf (R := R_X12_cut_309) z_Fr.rf g12 g13 (Or.inr (Or.inr (Or.inr (Or.inr (⟨rfl, by decide⟩)))))
  have t15 : s9 309 20 = r0 309 20 := g13 20 (by decide)
  have t16 : s9 309 36 = r0 309 36 := g13 36 (by decide)
  have t17 : s9 309 43 = r0 309 43 := g13 43 (by decide)
  have t18 : s9 309 44 = r0 309 44 := g13 44 (by decide)
  have t19 : s9 309 58 = r0 309 58 := g13 58 (by decide)
  have t20 : s9 316 0 = r0 316 0 := g12 316 0 (by decide)
  have t21 : s9 329 0 = r0 329 0 := g12 329 0 (by decide)
  have t22 : s9 329 1 = r0 329 1 := g12 329 1 (by decide)
  have r23 := y_TA.fr p0 (fun a b h => g12 a b (by omega)) (fun a b h => g12 a b (by omega)) (fun a b h => g12 a b (by omega))
  have r24 := y_DD.fr p1 (g12 329 0 (by decide)) (g12 329 1 (by decide)) (fun b => g12 359 b (by decide)) (fun b => g12 374 b (by decide))
  have r25 := y_B.fr p2 (g13 20 (by decide)) (g12 316 0 (by decide)) (fun b => g12 3220 b (by decide)) (fun b => g12 3221 b (by decide)) (fun b => g12 3222 b (by decide)) (fun b => g12 361 b (by decide))
  have r26 := y_K.fr p3 (by omega) (by omega) (g13 44 (by decide)) (g13 20 (by decide)) (g13 58 (by decide)) (fun b => g12 3438 b (by decide)) (fun b => g12 3220 b (by decide)) (fun a b h => g12 a b (by omega))
  have r27 := y_KM.fr p4 (g13 20 (by decide)) (g13 36 (by decide)) (g13 38 (by decide)) (g13 39 (by decide)) (fun b => g12 312 b (by decide)) (fun b => g12 331 b (by decide)) (fun b => g12 346 b (by decide)) (fun b => g12 361 b (by decide)) (fun b => g12 391 b (by decide)) (fun a b h => g12 a b (by omega)) (fun a b h => g12 a b (by omega)) (fun a b h => g12 a b (by omega))
  have r28 := y_YM.fr p5 (by omega) (g13 44 (by decide)) (g13 20 (by decide)) (g13 58 (by decide)) (fun b => g12 312 b (by decide)) (fun b => g12 331 b (by decide)) (fun b => g12 346 b (by decide)) (fun b => g12 361 b (by decide)) (fun b => g12 391 b (by decide)) (fun a b h => g12 a b (by omega)) (fun a b h => g12 a b (by omega)) (fun b => g12 3438 b (by decide)) (fun a b h => g12 a b (by omega)) (fun a b h => g12 a b (by omega))
  refine T_if1 (by decide +kernel) ?_
  refine T_useI (sf_X12_isUnit_309 hfu s9 c10 a1 (by omega)) (fun v34 s29 hq => ?_)
  obtain ⟨c30, f31, ⟨x33, rfl, b35, b36, o37⟩⟩ := hq
  refine T_vI ?_
  have q38 := z_Fr.eq (fun a b h => h) f31
  subst q38
  refine T_ite (fun h39 => ?_) (fun h39 => ?_)
  · exact sj_X12_cut_309Y_J22 hfu r0 s9 c10 f11 a1 a2 (by omega) (by omega) r23 (by first | exact r24 | exact y_DD.z (by omega) (by omega)) r25 (by first | exact r26 | exact y_K.b0 (by omega) | exact y_K.k0 (by omega) | exact y_K.bk (by omega)) (by first | exact r28 | exact y_YM.b0 (by omega) | exact y_YM.k0 (by omega) | exact y_YM.bk (by omega)) (by first | exact r27 | exact y_KM.z (by omega))
  · refine T_if1 (by decide +kernel) ?_
    refine T_useI (sf_X12_isUnit_309 hfu s9 c10 a2 (by omega)) (fun v45 s40 hq => ?_)
    obtain ⟨c41, f42, ⟨x44, rfl, b46, b47, o48⟩⟩ := hq
    refine T_vI ?_
    have q49 := z_Fr.eq (fun a b h => h) f42
    subst q49
    refine T_ite (fun h50 => ?_) (fun h50 => ?_)
    · exact sj_X12_cut_309Y_J27 hfu r0 s9 c10 f11 a1 a2 0 (by omega) (by omega) (by omega) r23 (by first | exact r24 | exact y_DD.z (by omega) (by omega)) r25 (by first | exact r26 | exact y_K.b0 (by omega) | exact y_K.k0 (by omega) | exact y_K.bk (by omega)) (by omega) (by first | exact r28 | exact y_YM.b0 (by omega) | exact y_YM.k0 (by omega) | exact y_YM.bk (by omega)) (by first | exact r27 | exact y_KM.z (by omega))
    · exact sj_X12_cut_309Y_J22 hfu r0 s9 c10 f11 a1 a2 (by omega) (by omega) r23 (by first | exact r24 | exact y_DD.z (by omega) (by omega)) r25 (by first | exact r26 | exact y_K.b0 (by omega) | exact y_K.k0 (by omega) | exact y_K.bk (by omega)) (by first | exact r28 | exact y_YM.b0 (by omega) | exact y_YM.k0 (by omega) | exact y_YM.bk (by omega)) (by first | exact r27 | exact y_KM.z (by omega))
abbrev P_X12_set_309Y (r0 : z_M) (a1 : Int) (a2 : Int) : z_V → z_M → Prop := fun v s' => z_CI s' ∧ z_Fr R_X12_set_309 r0 s' ∧ (y_TA s') ∧ (y_DD s') ∧ (y_B s') ∧ (y_K s') ∧ (y_KM s') ∧ (y_YM s') ∧ (∃ x, v = vI x ∧ -2147483648 ≤ x ∧ x ≤ 2147483647 ∧ (y_MS r0 s' a1 a2 x))
set_option maxHeartbeats 4000000 in
theorem sj_X12_set_309Y_J46 {fu : Nat} (hfu : 8589934592 ≤ fu) (r0 s : z_M) (c : z_CI s) (f : z_Fr R_X12_set_309 r0 s) (a1 : Int) (a2 : Int) (t1 : Int) (b1 : -2147483648 ≤ a1 ∧ a1 ≤ 2147483647) (b2 : -2147483648 ≤ a2 ∧ a2 ≤ 2147483647) (d1 : 0 ≤ t1 ∧ t1 ≤ 1) (p0 : t1 = 1 ∨ (0 ≤ a1 ∧ a1 ≤ 8)) (p1 : y_RT r0 a1 a2 t1) (p2 : y_SE r0 s) (p3 : s 309 0 = 0) (p4 : y_TA s) (p5 : y_DD s) (p6 : y_B s) (p7 : y_K s) (p8 : y_KM s) (p9 : y_YM s) : z_T (fX12_set_J46 fu s 309 a1 a2 309 t1) (P_X12_set_309Y r0 a1 a2) := by
  refine T_of (fX12_set_J46.eq_1 ..) ?_
  have u1 := CI_b c (k := 309) (j := 0) bd_309_0
  have u2 := CI_b c (k := 309) (j := 20) bd_309_20
  have u3 := CI_b c (k := 309) (j := 36) bd_309_36
  have u4 := CI_b c (k := 309) (j := 43) bd_309_43
  have u5 := CI_b c (k := 309) (j := 44) bd_309_44
  have u6 := CI_b c (k := 309) (j := 58) bd_309_58
  have u7 := CI_b c (k := 316) (j := 0) bd_316_0
  have u8 := CI_b c (k := 329) (j := 0) bd_329_0
  have u9 := CI_b c (k := 329) (j := 1) bd_329_1
  have t10 : s 309 20 = r0 309 20 := f 309 20 (by decide)
  have t11 : s 309 43 = r0 309 43 := f 309 43 (by decide)
  have t12 : s 309 44 = r0 309 44 := f 309 44 (by decide)
  have t13 : s 309 58 = r0 309 58 := f 309 58 (by decide)
  have t14 : s 316 0 = r0 316 0 := f 316 0 (by decide)
  have t15 : s 329 0 = r0 329 0 := f 329 0 (by decide)
  have t16 : s 329 1 = r0 329 1 := f 329 1 (by decide)
  refine T_if1 (by decide +kernel) ?_
  refine T_useI (sf_X12_bad_309 hfu s c t1 1 1 (by omega) (by omega) (by omega) (by omega)) (fun v22 s17 hq => ?_)
  obtain ⟨c18, f19, o23, ⟨x21, rfl, b24, b25, o26, o27⟩⟩ := hq
  refine T_vI ?_
  have f20 := z_Fr.tr (R := R_X12_set_309) f f19 rs_X12_bad_309__X12_set_309
  have t28 : s17 309 20 = s 309 20 := f19 309 20 (by decide)
  have t29 : s17 309 36 = s 309 36 := f19 309 36 (by decide)
  have t30 : s17 309 43 = s 309 43 := f19 309 43 (by decide)
  have t31 : s17 309 44 = s 309 44 := f19 309 44 (by decide)
  have t32 : s17 309 58 = s 309 58 := f19 309 58 (by decide)
  have t33 : s17 316 0 = s 316 0 := f19 316 0 (by decide)
  have t34 : s17 329 0 = s 329 0 := f19 329 0 (by decide)
  have t35 : s17 329 1 = s 329 1 := f19 329 1 (by decide)
  have u36 := CI_b c18 (k := 309) (j := 0) bd_309_0
  have r37 := id p1 
  have r38 := y_SE.fr p2 (fun b => f19 312 b (nr_X12_bad_309__312 b))
  have r39 := y_TA.fr p4 (fun a b h => f19 a b (nz_X12_bad_309__316_328 a b h)) (fun a b h => f19 a b (nz_X12_bad_309__346_358 a b h)) (fun a b h => f19 a b (nz_X12_bad_309__361_373 a b h))
  have r40 := y_DD.fr p5 (f19 329 0 (by decide)) (f19 329 1 (by decide)) (fun b => f19 359 b (nr_X12_bad_309__359 b)) (fun b => f19 374 b (nr_X12_bad_309__374 b))
  have r41 := y_B.fr p6 (f19 309 20 (by decide)) (f19 316 0 (by decide)) (fun b => f19 3220 b (nr_X12_bad_309__3220 b)) (fun b => f19 3221 b (nr_X12_bad_309__3221 b)) (fun b => f19 3222 b (nr_X12_bad_309__3222 b)) (fun b => f19 361 b (nr_X12_bad_309__361 b))
  have r42 := y_K.fr p7 (by omega) (by omega) (f19 309 44 (by decide)) (f19 309 20 (by decide)) (f19 309 58 (by decide)) (fun b => f19 3438 b (nr_X12_bad_309__3438 b)) (fun b => f19 3220 b (nr_X12_bad_309__3220 b)) (fun a b h => f19 a b (nz_X12_bad_309__3452_3651 a b h))
  have r43 := y_KM.fr p8 (f19 309 20 (by decide)) (f19 309 36 (by decide)) (f19 309 38 (by decide)) (f19 309 39 (by decide)) (fun b => f19 312 b (nr_X12_bad_309__312 b)) (fun b => f19 331 b (nr_X12_bad_309__331 b)) (fun b => f19 346 b (nr_X12_bad_309__346 b)) (fun b => f19 361 b (nr_X12_bad_309__361 b)) (fun b => f19 391 b (nr_X12_bad_309__391 b)) (fun a b h => f19 a b (nz_X12_bad_309__407_606 a b h)) (fun a b h => f19 a b (nz_X12_bad_309__3220_3223 a b h)) (fun a b h => f19 a b (nz_X12_bad_309__3235_3437 a b h))
  have r44 := y_YM.fr p9 (by omega) (f19 309 44 (by decide)) (f19 309 20 (by decide)) (f19 309 58 (by decide)) (fun b => f19 312 b (nr_X12_bad_309__312 b)) (fun b => f19 331 b (nr_X12_bad_309__331 b)) (fun b => f19 346 b (nr_X12_bad_309__346 b)) (fun b => f19 361 b (nr_X12_bad_309__361 b)) (fun b => f19 391 b (nr_X12_bad_309__391 b)) (fun a b h => f19 a b (nz_X12_bad_309__407_606 a b h)) (fun a b h => f19 a b (nz_X12_bad_309__3220_3223 a b h)) (fun b => f19 3438 b (nr_X12_bad_309__3438 b)) (fun a b h => f19 a b (nz_X12_bad_309__3441_3450 a b h)) (fun a b h => f19 a b (nz_X12_bad_309__3452_3651 a b h))
  refine T_ite (fun h45 => ?_) (fun h45 => ?_)
  · refine T_if1 (by decide +kernel) ?_
    refine T_let 312 (by decide +kernel) ?_
    refine T_if1 (z_ixl (n := 9) (by decide +kernel) (by omega) (by omega)) ?_
    refine T_leq (fun x46 e47 => ?_)
    have u48 := CI_b c18 (k := 312) (j := a1) (bdr_312 a1)
    refine T_if1 (by decide +kernel) ?_
    refine T_let 312 (by decide +kernel) ?_
    refine T_if1 (z_ixl (n := 9) (by decide +kernel) (by omega) (by omega)) ?_
    refine T_upg c18 (bdr_312 a1) (by omega) (fun s49 c50 g52 g53 e54 => ?_)
    have f51 := z_Fr.up (R := R_X12_set_309) f20 g52 (fun _ => (Or.inl (⟨by decide, by decide⟩)))
    have t55 : s49 309 0 = s17 309 0 := g52 309 0 (by decide)
    have t56 : s49 309 20 = s 309 20 := (g52 309 20 (by decide)).trans t28
    have t57 : s49 309 36 = s 309 36 := (g52 309 36 (by decide)).trans t29
    have t58 : s49 309 43 = s 309 43 := (g52 309 43 (by decide)).trans t30
    have t59 : s49 309 44 = s 309 44 := (g52 309 44 (by decide)).trans t31
    have t60 : s49 309 58 = s 309 58 := (g52 309 58 (by decide)).trans t32
    have t61 : s49 316 0 = s 316 0 := (g52 316 0 (by decide)).trans t33
    have t62 : s49 329 0 = s 329 0 := (g52 329 0 (by decide)).trans t34
    have t63 : s49 329 1 = s 329 1 := (g52 329 1 (by decide)).trans t35
    have r64 := id r37 
    have r65 := y_TA.fr r39 (fun a b h => g52 a b (by omega)) (fun a b h => g52 a b (by omega)) (fun a b h => g52 a b (by omega))
    have r66 := y_DD.fr r40 (g52 329 0 (by decide)) (g52 329 1 (by decide)) (fun b => g52 359 b (by decide)) (fun b => g52 374 b (by decide))
    have r67 := y_B.fr r41 (g52 309 20 (by decide)) (g52 316 0 (by decide)) (fun b => g52 3220 b (by decide)) (fun b => g52 3221 b (by decide)) (fun b => g52 3222 b (by decide)) (fun b => g52 361 b (by decide))
    have r68 := y_K.fr r42 (by omega) (by omega) (g52 309 44 (by decide)) (g52 309 20 (by decide)) (g52 309 58 (by decide)) (fun b => g52 3438 b (by decide)) (fun b => g52 3220 b (by decide)) (fun a b h => g52 a b (by omega))
    have r69 : y_S1 r0 s49 a1 a2 x46 := y_S1.mk r38 g53 e54 e47
    clear t28
    clear t29
    clear t30
    clear t31
    clear t32
    clear t33
    clear t34
    clear t35
    refine T_if1 ⟨(by decide +kernel), by unfold z_bl; omega⟩ ?_
    refine T_upg c50 bd_309_36 (by omega) (fun s70 c71 g73 g74 e75 => ?_)
    have f72 := z_Fr.upf (R := R_X12_set_309) f51 g73 g74 (Or.inr (⟨rfl, by decide⟩))
    have t76 : s70 309 0 = s17 309 0 := (g74 0 (by decide)).trans t55
    have t77 : s70 309 20 = s 309 20 := (g74 20 (by decide)).trans t56
    have t78 : s70 309 43 = s 309 43 := (g74 43 (by decide)).trans t58
    have t79 : s70 309 44 = s 309 44 := (g74 44 (by decide)).trans t59
    have t80 : s70 309 58 = s 309 58 := (g74 58 (by decide)).trans t60
    have t81 : s70 316 0 = s 316 0 := (g73 316 0 (by decide)).trans t61
    have t82 : s70 329 0 = s 329 0 := (g73 329 0 (by decide)).trans t62
    have t83 : s70 329 1 = s 329 1 := (g73 329 1 (by decide)).trans t63
    have u84 := CI_b c71 (k := 309) (j := 36) bd_309_36
    have r85 := id r64 
    have r86 := y_TA.fr r65 (fun a b h => g73 a b (by omega)) (fun a b h => g73 a b (by omega)) (fun a b h => g73 a b (by omega))
    have r87 := y_DD.fr r66 (g73 329 0 (by decide)) (g73 329 1 (by decide)) (fun b => g73 359 b (by decide)) (fun b => g73 374 b (by decide))
    have r88 := y_B.fr r67 (g74 20 (by decide)) (g73 316 0 (by decide)) (fun b => g73 3220 b (by decide)) (fun b => g73 3221 b (by decide)) (fun b => g73 3222 b (by decide)) (fun b => g73 361 b (by decide))
    have r89 := y_K.fr r68 (by omega) (by omega) (g74 44 (by decide)) (g74 20 (by decide)) (g74 58 (by decide)) (fun b => g73 3438 b (by decide)) (fun b => g73 3220 b (by decide)) (fun a b h => g73 a b (by omega))
    have r90 := y_S1.fr r69 (fun b => g73 312 b (by decide))
    clear t55
    clear t56
    clear t58
    clear t59
    clear t60
    clear t61
    clear t62
    clear t63
    exact T_ret ⟨c71, f72, r86, (by first | exact r87 | exact y_DD.z (by omega) (by omega)), r88, (by first | exact r89 | exact y_K.b0 (by omega) | exact y_K.k0 (by omega) | exact y_K.bk (by omega)), (by first | exact y_KM.z (by omega)), (by first | exact y_YM.b0 (by omega) | exact y_YM.k0 (by omega) | exact y_YM.bk (by omega)), ⟨x46, rfl, by omega, by omega, (by first | exact y_MS.y r85 r90 (by omega) (by omega))⟩⟩
  · exact T_ret ⟨c18, f20, r39, (by first | exact r40 | exact y_DD.z (by omega) (by omega)), r41, (by first | exact r42 | exact y_K.b0 (by omega) | exact y_K.k0 (by omega) | exact y_K.bk (by omega)), (by first | exact r43 | exact y_KM.z (by omega)), (by first | exact r44 | exact y_YM.b0 (by omega) | exact y_YM.k0 (by omega) | exact y_YM.bk (by omega)), ⟨0, rfl, by omega, by omega, (by first | exact y_MS.n r37 r38 (by omega) (by omega))⟩⟩
theorem sj_X12_set_309Y_J41 {fu : Nat} (hfu : 8589934592 ≤ fu) (r0 s : z_M) (c : z_CI s) (f : z_Fr R_X12_set_309 r0 s) (a1 : Int) (a2 : Int) (b1 : -2147483648 ≤ a1 ∧ a1 ≤ 2147483647) (b2 : -2147483648 ≤ a2 ∧ a2 ≤ 2147483647) (p0 : ¬ y_RG r0 a1 a2) (p1 : y_SE r0 s) (p2 : s 309 0 = 0) (p3 : y_TA s) (p4 : y_DD s) (p5 : y_B s) (p6 : y_K s) (p7 : y_KM s) (p8 : y_YM s) : z_T (fX12_set_J41 fu s 309 a1 a2 309) (P_X12_set_309Y r0 a1 a2) := by
  refine T_of (fX12_set_J41.eq_1 ..) ?_
  have u1 := CI_b c (k := 309) (j := 0) bd_309_0
  have u2 := CI_b c (k := 309) (j := 20) bd_309_20
  have u3 := CI_b c (k := 309) (j := 36) bd_309_36
  have u4 := CI_b c (k := 309) (j := 43) bd_309_43
  have u5 := CI_b c (k := 309) (j := 44) bd_309_44
  have u6 := CI_b c (k := 309) (j := 58) bd_309_58
  have u7 := CI_b c (k := 316) (j := 0) bd_316_0
  have u8 := CI_b c (k := 329) (j := 0) bd_329_0
  have u9 := CI_b c (k := 329) (j := 1) bd_329_1
  have t10 : s 309 20 = r0 309 20 := f 309 20 (by decide)
  have t11 : s 309 43 = r0 309 43 := f 309 43 (by decide)
  have t12 : s 309 44 = r0 309 44 := f 309 44 (by decide)
  have t13 : s 309 58 = r0 309 58 := f 309 58 (by decide)
  have t14 : s 316 0 = r0 316 0 := f 316 0 (by decide)
  have t15 : s 329 0 = r0 329 0 := f 329 0 (by decide)
  have t16 : s 329 1 = r0 329 1 := f 329 1 (by decide)
  exact sj_X12_set_309Y_J46 hfu r0 s c f a1 a2 1 (by omega) (by omega) (by omega) (by omega) (by first | exact y_RT.n p0 (by omega)) p1 (by omega) p3 (by first | exact p4 | exact y_DD.z (by omega) (by omega)) p5 (by first | exact p6 | exact y_K.b0 (by omega) | exact y_K.k0 (by omega) | exact y_K.bk (by omega)) (by first | exact p7 | exact y_KM.z (by omega)) (by first | exact p8 | exact y_YM.b0 (by omega) | exact y_YM.k0 (by omega) | exact y_YM.bk (by omega))
theorem sf_X12_set_309Y {fu : Nat} (hfu : 8589934592 ≤ fu) (r0 : z_M) (c0 : z_CI r0) (a1 : Int) (a2 : Int) (b1 : -2147483648 ≤ a1 ∧ a1 ≤ 2147483647) (b2 : -2147483648 ≤ a2 ∧ a2 ≤ 2147483647) (p0 : y_TA r0) (p1 : y_DD r0) (p2 : y_B r0) (p3 : y_K r0) (p4 : y_KM r0) (p5 : y_YM r0) : z_T (fX12_set fu r0 309 a1 a2) (P_X12_set_309Y r0 a1 a2) := by
  refine T_of (fX12_set.eq_1 ..) ?_
  have u1 := CI_b c0 (k := 309) (j := 0) bd_309_0
  have u2 := CI_b c0 (k := 309) (j := 20) bd_309_20
  have u3 := CI_b c0 (k := 309) (j := 36) bd_309_36
  have u4 := CI_b c0 (k := 309) (j := 43) bd_309_43
  have u5 := CI_b c0 (k := 309) (j := 44) bd_309_44
  have u6 := CI_b c0 (k := 309) (j := 58) bd_309_58
  have u7 := CI_b c0 (k := 316) (j := 0) bd_316_0
  have u8 := CI_b c0 (k := 329) (j := 0) bd_329_0
  have u9 := CI_b c0 (k := 329) (j := 1) bd_329_1
  have r10 : y_SE r0 r0 := y_SE.z
  refine T_if1 (by decide +kernel) ?_
  refine T_upg c0 bd_309_0 (by omega) (fun s11 c12 g14 g15 e16 => ?_)
  have f13 := z_Fr.upf (R := R_X12_set_309) z_Fr.rf g14 g15 (Or.inr (⟨rfl, by decide⟩))
  have t17 : s11 309 20 = r0 309 20 := g15 20 (by decide)
  have t18 : s11 309 36 = r0 309 36 := g15 36 (by decide)
  have t19 : s11 309 43 = r0 309 43 := g15 43 (by decide)
  have t20 : s11 309 44 = r0 309 44 := g15 44 (by decide)
  have t21 : s11 309 58 = r0 309 58 := g15 58 (by decide)
  have t22 : s11 316 0 = r0 316 0 := g14 316 0 (by decide)
  have t23 : s11 329 0 = r0 329 0 := g14 329 0 (by decide)
  have t24 : s11 329 1 = r0 329 1 := g14 329 1 (by decide)
  have u25 := CI_b c12 (k := 309) (j := 0) bd_309_0
  have r26 := y_TA.fr p0 (fun a b h => g14 a b (by omega)) (fun a b h => g14 a b (by omega)) (fun a b h => g14 a b (by omega))
  have r27 := y_DD.fr p1 (g14 329 0 (by decide)) (g14 329 1 (by decide)) (fun b => g14 359 b (by decide)) (fun b => g14 374 b (by decide))
  have r28 := y_B.fr p2 (g15 20 (by decide)) (g14 316 0 (by decide)) (fun b => g14 3220 b (by decide)) (fun b => g14 3221 b (by decide)) (fun b => g14 3222 b (by decide)) (fun b => g14 361 b (by decide))
  have r29 := y_K.fr p3 (by omega) (by omega) (g15 44 (by decide)) (g15 20 (by decide)) (g15 58 (by decide)) (fun b => g14 3438 b (by decide)) (fun b => g14 3220 b (by decide)) (fun a b h => g14 a b (by omega))
  have r30 := y_KM.fr p4 (g15 20 (by decide)) (g15 36 (by decide)) (g15 38 (by decide)) (g15 39 (by decide)) (fun b => g14 312 b (by decide)) (fun b => g14 331 b (by decide)) (fun b => g14 346 b (by decide)) (fun b => g14 361 b (by decide)) (fun b => g14 391 b (by decide)) (fun a b h => g14 a b (by omega)) (fun a b h => g14 a b (by omega)) (fun a b h => g14 a b (by omega))
  have r31 := y_YM.fr p5 (by omega) (g15 44 (by decide)) (g15 20 (by decide)) (g15 58 (by decide)) (fun b => g14 312 b (by decide)) (fun b => g14 331 b (by decide)) (fun b => g14 346 b (by decide)) (fun b => g14 361 b (by decide)) (fun b => g14 391 b (by decide)) (fun a b h => g14 a b (by omega)) (fun a b h => g14 a b (by omega)) (fun b => g14 3438 b (by decide)) (fun a b h => g14 a b (by omega)) (fun a b h => g14 a b (by omega))
  have r32 := y_SE.fr r10 (fun b => g14 312 b (by decide))
  refine T_useI (sf_X12_more hfu s11 c12 a1 0 (by omega) (by omega)) (fun v38 s33 hq => ?_)
  obtain ⟨c34, f35, ⟨x37, rfl, b39, b40, o41⟩⟩ := hq
  refine T_vI ?_
  have q42 := z_Fr.eq (fun a b h => h) f35
  subst q42
  refine T_useI (sf_X12_less hfu s11 c12 x37 8 (by omega) (by omega)) (fun v48 s43 hq => ?_)
  obtain ⟨c44, f45, ⟨x47, rfl, b49, b50, o51⟩⟩ := hq
  refine T_vI ?_
  have q52 := z_Fr.eq (fun a b h => h) f45
  subst q52
  refine T_ite (fun h53 => ?_) (fun h53 => ?_)
  · exact sj_X12_set_309Y_J41 hfu r0 s11 c12 f13 a1 a2 (by omega) (by omega) (by first | exact y_NG.i (by omega)) r32 (by omega) r26 (by first | exact r27 | exact y_DD.z (by omega) (by omega)) r28 (by first | exact r29 | exact y_K.b0 (by omega) | exact y_K.k0 (by omega) | exact y_K.bk (by omega)) (by first | exact r30 | exact y_KM.z (by omega)) (by first | exact r31 | exact y_YM.b0 (by omega) | exact y_YM.k0 (by omega) | exact y_YM.bk (by omega))
  · refine T_if1 (by decide +kernel) ?_
    refine T_let 313 (by decide +kernel) ?_
    refine T_if1 (z_ixl (n := 9) (by decide +kernel) (by omega) (by omega)) ?_
    refine T_leq (fun x54 e55 => ?_)
    have u56 := CI_b c12 (k := 313) (j := x47) (bdr_313 x47)
    refine T_if1 (by decide +kernel) ?_
    refine T_let 314 (by decide +kernel) ?_
    refine T_if1 (z_ixl (n := 9) (by decide +kernel) (by omega) (by omega)) ?_
    refine T_leq (fun x57 e58 => ?_)
    have u59 := CI_b c12 (k := 314) (j := x47) (bdr_314 x47)
    refine T_useI (sf_X12_in hfu s11 c12 a2 x54 x57 (by omega) (by omega) (by omega)) (fun v65 s60 hq => ?_)
    obtain ⟨c61, f62, ⟨x64, rfl, b66, b67, o68⟩⟩ := hq
    refine T_vI ?_
    have q69 := z_Fr.eq (fun a b h => h) f62
    subst q69
    have r70 : y_HO r0 a1 a2 x54 x57 := y_HO.mk (fun b => f13 313 b (by unfold R_X12_set_309; omega)) (fun b => f13 314 b (by unfold R_X12_set_309; omega)) (by assumption) (by assumption) (by omega) (by omega)
    refine T_ite (fun h71 => ?_) (fun h71 => ?_)
    · exact sj_X12_set_309Y_J46 hfu r0 s11 c12 f13 a1 a2 0 (by omega) (by omega) (by omega) (by omega) (by first | exact y_RT.y r70 (by omega) (by omega)) r32 (by omega) r26 (by first | exact r27 | exact y_DD.z (by omega) (by omega)) r28 (by first | exact r29 | exact y_K.b0 (by omega) | exact y_K.k0 (by omega) | exact y_K.bk (by omega)) (by first | exact r30 | exact y_KM.z (by omega)) (by first | exact r31 | exact y_YM.b0 (by omega) | exact y_YM.k0 (by omega) | exact y_YM.bk (by omega))
    · exact sj_X12_set_309Y_J41 hfu r0 s11 c12 f13 a1 a2 (by omega) (by omega) (by first | exact y_NG.i (by omega) | exact y_NG.h r70 (by omega)) r32 (by omega) r26 (by first | exact r27 | exact y_DD.z (by omega) (by omega)) r28 (by first | exact r29 | exact y_K.b0 (by omega) | exact y_K.k0 (by omega) | exact y_K.bk (by omega)) (by first | exact r30 | exact y_KM.z (by omega)) (by first | exact r31 | exact y_YM.b0 (by omega) | exact y_YM.k0 (by omega) | exact y_YM.bk (by omega))
abbrev P_X12_laysAll_309Y (r0 : z_M) : z_V → z_M → Prop := fun v s' => z_CI s' ∧ z_Fr R_X12_laysAll_309 r0 s' ∧ (y_K s') ∧ (y_L s' (s' 309 44)) ∧ (y_BK s') ∧ (s' 309 36 ≠ 0) ∧ (s' 309 43 ≠ 0) ∧ (r0 309 36 = 0 ∨ r0 309 43 = 0 ∨ s' 309 44 = r0 309 44) ∧ (y_KM s') ∧ (y_YM s') ∧ (v = vN)
theorem sf_X12_laysAll_309Y {fu : Nat} (hfu : 8589934592 ≤ fu) (r0 : z_M) (c0 : z_CI r0) (p0 : y_B r0) (p1 : y_K r0) (p2 : y_KM r0) (p3 : y_YM r0) : z_T (fX12_laysAll fu r0 309) (P_X12_laysAll_309Y r0) := by
  have o := sf_X12_laysAll_309K hfu r0 c0 p0 p1 p2
  refine T_mono (T_and o (ym_laysAll hfu c0 p0 p2 p3 (T_mono o (fun v s h => fun x y q => h.2.1 x y (by unfold R_X12_laysAll_309; omega))))) (fun v s h => ?_)
  obtain ⟨⟨c, fr, q1, q2, q3, q4, q5, q6, q7, e⟩, k⟩ := h
  exact ⟨c, fr, q1, q2, q3, q4, q5, q6, q7, k, e⟩
abbrev P_X12_told_309Y (r0 : z_M) : z_V → z_M → Prop := fun v s' => z_CI s' ∧ z_Fr R_X12_told_309 r0 s' ∧ (y_TA s') ∧ (y_DD s') ∧ (y_B s') ∧ (y_K s') ∧ (y_KM s') ∧ (y_YM s') ∧ (∃ x, v = vL x ∧ -9223372036854775808 ≤ x ∧ x ≤ 9223372036854775807)
theorem nz_X12_costs_309__3441_3450 (a b : Int) (h : 3441 ≤ a ∧ a ≤ 3450) : ¬ R_X12_costs_309 a b := by
  unfold R_X12_costs_309; omega
set_option maxHeartbeats 4000000 in
theorem sj_X12_told_309Y_J21 {fu : Nat} (hfu : 8589934592 ≤ fu) (r0 s : z_M) (c : z_CI s) (f : z_Fr R_X12_told_309 r0 s) (a1 : Int) (t1 : Int) (b1 : -2147483648 ≤ a1 ∧ a1 ≤ 2147483647) (d1 : 0 ≤ t1 ∧ t1 ≤ 1) (p0 : t1 = 1 ∨ (0 ≤ a1 ∧ a1 ≤ 19)) (p1 : y_TA s) (p2 : y_DD s) (p3 : y_B s) (p4 : y_K s) (p5 : y_KM s) (p6 : y_YM s) : z_T (fX12_told_J21 fu s 309 a1 309 t1) (P_X12_told_309Y r0) := by
  refine T_of (fX12_told_J21.eq_1 ..) ?_
  have u1 := CI_b c (k := 309) (j := 20) bd_309_20
  have u2 := CI_b c (k := 309) (j := 36) bd_309_36
  have u3 := CI_b c (k := 309) (j := 43) bd_309_43
  have u4 := CI_b c (k := 309) (j := 44) bd_309_44
  have u5 := CI_b c (k := 309) (j := 58) bd_309_58
  have u6 := CI_b c (k := 316) (j := 0) bd_316_0
  have u7 := CI_b c (k := 329) (j := 0) bd_329_0
  have u8 := CI_b c (k := 329) (j := 1) bd_329_1
  have t9 : s 309 20 = r0 309 20 := f 309 20 (by decide)
  have t10 : s 316 0 = r0 316 0 := f 316 0 (by decide)
  have t11 : s 329 0 = r0 329 0 := f 329 0 (by decide)
  have t12 : s 329 1 = r0 329 1 := f 329 1 (by decide)
  refine T_if1 (by decide +kernel) ?_
  refine T_useI (sf_X12_bad_309 hfu s c t1 1 1 (by omega) (by omega) (by omega) (by omega)) (fun v18 s13 hq => ?_)
  obtain ⟨c14, f15, o19, ⟨x17, rfl, b20, b21, o22, o23⟩⟩ := hq
  refine T_vI ?_
  have f16 := z_Fr.tr (R := R_X12_told_309) f f15 rs_X12_bad_309__X12_told_309
  have t24 : s13 309 20 = s 309 20 := f15 309 20 (by decide)
  have t25 : s13 309 36 = s 309 36 := f15 309 36 (by decide)
  have t26 : s13 309 43 = s 309 43 := f15 309 43 (by decide)
  have t27 : s13 309 44 = s 309 44 := f15 309 44 (by decide)
  have t28 : s13 309 58 = s 309 58 := f15 309 58 (by decide)
  have t29 : s13 316 0 = s 316 0 := f15 316 0 (by decide)
  have t30 : s13 329 0 = s 329 0 := f15 329 0 (by decide)
  have t31 : s13 329 1 = s 329 1 := f15 329 1 (by decide)
  have r32 := y_TA.fr p1 (fun a b h => f15 a b (nz_X12_bad_309__316_328 a b h)) (fun a b h => f15 a b (nz_X12_bad_309__346_358 a b h)) (fun a b h => f15 a b (nz_X12_bad_309__361_373 a b h))
  have r33 := y_DD.fr p2 (f15 329 0 (by decide)) (f15 329 1 (by decide)) (fun b => f15 359 b (nr_X12_bad_309__359 b)) (fun b => f15 374 b (nr_X12_bad_309__374 b))
  have r34 := y_B.fr p3 (f15 309 20 (by decide)) (f15 316 0 (by decide)) (fun b => f15 3220 b (nr_X12_bad_309__3220 b)) (fun b => f15 3221 b (nr_X12_bad_309__3221 b)) (fun b => f15 3222 b (nr_X12_bad_309__3222 b)) (fun b => f15 361 b (nr_X12_bad_309__361 b))
  have r35 := y_K.fr p4 (by omega) (by omega) (f15 309 44 (by decide)) (f15 309 20 (by decide)) (f15 309 58 (by decide)) (fun b => f15 3438 b (nr_X12_bad_309__3438 b)) (fun b => f15 3220 b (nr_X12_bad_309__3220 b)) (fun a b h => f15 a b (nz_X12_bad_309__3452_3651 a b h))
  have r36 := y_KM.fr p5 (f15 309 20 (by decide)) (f15 309 36 (by decide)) (f15 309 38 (by decide)) (f15 309 39 (by decide)) (fun b => f15 312 b (nr_X12_bad_309__312 b)) (fun b => f15 331 b (nr_X12_bad_309__331 b)) (fun b => f15 346 b (nr_X12_bad_309__346 b)) (fun b => f15 361 b (nr_X12_bad_309__361 b)) (fun b => f15 391 b (nr_X12_bad_309__391 b)) (fun a b h => f15 a b (nz_X12_bad_309__407_606 a b h)) (fun a b h => f15 a b (nz_X12_bad_309__3220_3223 a b h)) (fun a b h => f15 a b (nz_X12_bad_309__3235_3437 a b h))
  have r37 := y_YM.fr p6 (by omega) (f15 309 44 (by decide)) (f15 309 20 (by decide)) (f15 309 58 (by decide)) (fun b => f15 312 b (nr_X12_bad_309__312 b)) (fun b => f15 331 b (nr_X12_bad_309__331 b)) (fun b => f15 346 b (nr_X12_bad_309__346 b)) (fun b => f15 361 b (nr_X12_bad_309__361 b)) (fun b => f15 391 b (nr_X12_bad_309__391 b)) (fun a b h => f15 a b (nz_X12_bad_309__407_606 a b h)) (fun a b h => f15 a b (nz_X12_bad_309__3220_3223 a b h)) (fun b => f15 3438 b (nr_X12_bad_309__3438 b)) (fun a b h => f15 a b (nz_X12_bad_309__3441_3450 a b h)) (fun a b h => f15 a b (nz_X12_bad_309__3452_3651 a b h))
  refine T_ite (fun h38 => ?_) (fun h38 => ?_)
  · refine T_if1 (by decide +kernel) ?_
    refine T_useN (sf_X12_laysAll_309Y hfu s13 c14 r34 (by first | exact r35 | exact y_K.b0 (by omega) | exact y_K.k0 (by omega) | exact y_K.bk (by omega)) (by first | exact r36 | exact y_KM.z (by omega)) (by first | exact r37 | exact y_YM.b0 (by omega) | exact y_YM.k0 (by omega) | exact y_YM.bk (by omega))) (fun v44 s39 hq => ?_)
    obtain ⟨c40, f41, o45, o46, o47, o48, o49, o50, o51, o52, rfl⟩ := hq
    refine T_vN ?_
    have f42 := z_Fr.tr (R := R_X12_told_309) f16 f41 rs_X12_laysAll_309__X12_told_309
    have t55 : s39 309 20 = s 309 20 := (f41 309 20 (by decide)).trans t24
    have t56 : s39 316 0 = s 316 0 := (f41 316 0 (by decide)).trans t29
    have t57 : s39 329 0 = s 329 0 := (f41 329 0 (by decide)).trans t30
    have t58 : s39 329 1 = s 329 1 := (f41 329 1 (by decide)).trans t31
    have u59 := CI_b c40 (k := 309) (j := 36) bd_309_36
    have u60 := CI_b c40 (k := 309) (j := 43) bd_309_43
    have u61 := CI_b c40 (k := 309) (j := 44) bd_309_44
    have u62 := CI_b c40 (k := 309) (j := 58) bd_309_58
    have r63 := y_TA.fr r32 (fun a b h => f41 a b (nz_X12_laysAll_309__316_328 a b h)) (fun a b h => f41 a b (nz_X12_laysAll_309__346_358 a b h)) (fun a b h => f41 a b (nz_X12_laysAll_309__361_373 a b h))
    have r64 := y_DD.fr r33 (f41 329 0 (by decide)) (f41 329 1 (by decide)) (fun b => f41 359 b (nr_X12_laysAll_309__359 b)) (fun b => f41 374 b (nr_X12_laysAll_309__374 b))
    have r65 := y_B.fr r34 (f41 309 20 (by decide)) (f41 316 0 (by decide)) (fun b => f41 3220 b (nr_X12_laysAll_309__3220 b)) (fun b => f41 3221 b (nr_X12_laysAll_309__3221 b)) (fun b => f41 3222 b (nr_X12_laysAll_309__3222 b)) (fun b => f41 361 b (nr_X12_laysAll_309__361 b))
    clear t24
    clear t29
    clear t30
    clear t31
    refine T_ite (fun h66 => ?_) (fun h66 => ?_)
    · refine T_if1 (by decide +kernel) ?_
      refine T_leq (fun x67 e68 => ?_)
      have u69 := CI_b c40 (k := 309) (j := 20) bd_309_20
      exact T_ret ⟨c40, f42, r63, (by first | exact r64 | exact y_DD.z (by omega) (by omega)), r65, (by first | exact o45 | exact y_K.b0 (by omega) | exact y_K.k0 (by omega) | exact y_K.bk (by omega) | exact y_K.mk o46 (by omega) o47), (by first | exact o51 | exact y_KM.z (by omega)), (by first | exact o52 | exact y_YM.b0 (by omega) | exact y_YM.k0 (by omega) | exact y_YM.bk (by omega)), ⟨x67, rfl, by omega, by omega⟩⟩
    · refine T_ite (fun h70 => ?_) (fun h70 => ?_)
      · refine T_if1 (by decide +kernel) ?_
        refine T_let 315 (by decide +kernel) ?_
        refine T_if1 (z_ixl (n := 14) (by decide +kernel) (by omega) (by omega)) ?_
        refine T_let 316 (by decide +kernel) ?_
        refine T_if1 (z_ixl (n := 3) (by decide +kernel) (by omega) (by omega)) ?_
        refine T_leq (fun x71 e72 => ?_)
        have u73 := CI_b c40 (k := 316) (j := 0) bd_316_0
        exact T_ret ⟨c40, f42, r63, (by first | exact r64 | exact y_DD.z (by omega) (by omega)), r65, (by first | exact o45 | exact y_K.b0 (by omega) | exact y_K.k0 (by omega) | exact y_K.bk (by omega) | exact y_K.mk o46 (by omega) o47), (by first | exact o51 | exact y_KM.z (by omega)), (by first | exact o52 | exact y_YM.b0 (by omega) | exact y_YM.k0 (by omega) | exact y_YM.bk (by omega)), ⟨x71, rfl, by omega, by omega⟩⟩
      · refine T_ite (fun h74 => ?_) (fun h74 => ?_)
        · refine T_if1 (by decide +kernel) ?_
          refine T_bI ?_
          refine T_of (fX12_groupsOf.eq_1 ..) ?_
          refine T_if1 (by decide +kernel) ?_
          refine T_let 315 (by decide +kernel) ?_
          refine T_if1 (z_ixl (n := 14) (by decide +kernel) (by omega) (by omega)) ?_
          refine T_let 316 (by decide +kernel) ?_
          refine T_if1 (z_ixl (n := 3) (by decide +kernel) (by omega) (by omega)) ?_
          refine T_leq (fun x75 e76 => ?_)
          have u77 := CI_b c40 (k := 316) (j := 1) bd_316_1
          refine T_ite (fun h78 => ?_) (fun h78 => ?_)
          · refine T_if1 (by decide +kernel) ?_
            refine T_let 390 (by decide +kernel) ?_
            refine T_if1 (z_ixl (n := 14) (by decide +kernel) (by omega) (by omega)) ?_
            refine T_let 391 (by decide +kernel) ?_
            refine T_if1 (by decide +kernel) ?_
            refine T_let 315 (by decide +kernel) ?_
            refine T_if1 (z_ixl (n := 14) (by decide +kernel) (by omega) (by omega)) ?_
            refine T_let 316 (by decide +kernel) ?_
            refine T_if1 (z_ixl (n := 3) (by decide +kernel) (by omega) (by omega)) ?_
            refine T_leq (fun x79 e80 => ?_)
            have q81 : x75 = x79 := e76.symm.trans e80
            subst q81
            refine T_leq (fun x82 e83 => ?_)
            first | (have w84 := z_wx e83 (by omega)) | (have w84 := z_wr e83)
            refine T_if1 (z_ixl (n := 200) (by decide +kernel) (by omega) (by omega)) ?_
            refine T_leq (fun x85 e86 => ?_)
            have u87 := CI_b c40 (k := 391) (j := x82) (bdg (c := 391) (by omega) (by omega))
            refine T_leq (fun x88 e89 => ?_)
            first | (have w90 := z_wx e89 (by omega)) | (have w90 := z_wr e89)
            refine T_of (fX12_groupsOf_J34.eq_1 ..) ?_
            refine T_rI ?_
            exact T_ret ⟨c40, f42, r63, (by first | exact r64 | exact y_DD.z (by omega) (by omega)), r65, (by first | exact o45 | exact y_K.b0 (by omega) | exact y_K.k0 (by omega) | exact y_K.bk (by omega) | exact y_K.mk o46 (by omega) o47), (by first | exact o51 | exact y_KM.z (by omega)), (by first | exact o52 | exact y_YM.b0 (by omega) | exact y_YM.k0 (by omega) | exact y_YM.bk (by omega)), ⟨x88, rfl, by omega, by omega⟩⟩
          · refine T_of (fX12_groupsOf_J34.eq_1 ..) ?_
            refine T_rI ?_
            exact T_ret ⟨c40, f42, r63, (by first | exact r64 | exact y_DD.z (by omega) (by omega)), r65, (by first | exact o45 | exact y_K.b0 (by omega) | exact y_K.k0 (by omega) | exact y_K.bk (by omega) | exact y_K.mk o46 (by omega) o47), (by first | exact o51 | exact y_KM.z (by omega)), (by first | exact o52 | exact y_YM.b0 (by omega) | exact y_YM.k0 (by omega) | exact y_YM.bk (by omega)), ⟨0, rfl, by omega, by omega⟩⟩
        · refine T_ite (fun h91 => ?_) (fun h91 => ?_)
          · refine T_if1 (by decide +kernel) ?_
            refine T_leq (fun x92 e93 => ?_)
            have u94 := CI_b c40 (k := 309) (j := 44) bd_309_44
            exact T_ret ⟨c40, f42, r63, (by first | exact r64 | exact y_DD.z (by omega) (by omega)), r65, (by first | exact o45 | exact y_K.b0 (by omega) | exact y_K.k0 (by omega) | exact y_K.bk (by omega) | exact y_K.mk o46 (by omega) o47), (by first | exact o51 | exact y_KM.z (by omega)), (by first | exact o52 | exact y_YM.b0 (by omega) | exact y_YM.k0 (by omega) | exact y_YM.bk (by omega)), ⟨x92, rfl, by omega, by omega⟩⟩
          · refine T_ite (fun h95 => ?_) (fun h95 => ?_)
            · refine T_if1 (by decide +kernel) ?_
              refine T_useI (sf_X12_longest_309 hfu s39 c40) (fun v101 s96 hq => ?_)
              obtain ⟨c97, f98, ⟨x100, rfl, b102, b103⟩⟩ := hq
              refine T_vI ?_
              have q104 := z_Fr.eq (fun a b h => h) f98
              subst q104
              exact T_ret ⟨c40, f42, r63, (by first | exact r64 | exact y_DD.z (by omega) (by omega)), r65, (by first | exact o45 | exact y_K.b0 (by omega) | exact y_K.k0 (by omega) | exact y_K.bk (by omega) | exact y_K.mk o46 (by omega) o47), (by first | exact o51 | exact y_KM.z (by omega)), (by first | exact o52 | exact y_YM.b0 (by omega) | exact y_YM.k0 (by omega) | exact y_YM.bk (by omega)), ⟨x100, rfl, by omega, by omega⟩⟩
            · refine T_ite (fun h105 => ?_) (fun h105 => ?_)
              · refine T_if1 (by decide +kernel) ?_
                refine T_useL (sf_X12_costs_309K hfu s39 c40 r65 (by first | exact y_L.cg o46 (by omega) | exact y_K.L o45 (by omega) (by omega)) (by first | exact o51 | exact y_KM.z (by omega))) (fun v111 s106 hq => ?_)
                obtain ⟨c107, f108, o112, o113, o114, ⟨x110, rfl, b115, b116⟩⟩ := hq
                refine T_vL ?_
                have f109 := z_Fr.tr (R := R_X12_told_309) f42 f108 rs_X12_costs_309__X12_told_309
                have t117 : s106 309 20 = s 309 20 := (f108 309 20 (by decide)).trans t55
                have t118 : s106 309 44 = s39 309 44 := f108 309 44 (by decide)
                have t119 : s106 309 58 = s39 309 58 := f108 309 58 (by decide)
                have t120 : s106 316 0 = s 316 0 := (f108 316 0 (by decide)).trans t56
                have t121 : s106 329 0 = s 329 0 := (f108 329 0 (by decide)).trans t57
                have t122 : s106 329 1 = s 329 1 := (f108 329 1 (by decide)).trans t58
                have u123 := CI_b c107 (k := 309) (j := 36) bd_309_36
                have u124 := CI_b c107 (k := 309) (j := 43) bd_309_43
                have r125 := y_TA.fr r63 (fun a b h => f108 a b (nz_X12_costs_309__316_328 a b h)) (fun a b h => f108 a b (nz_X12_costs_309__346_358 a b h)) (fun a b h => f108 a b (nz_X12_costs_309__361_373 a b h))
                have r126 := y_DD.fr r64 (f108 329 0 (by decide)) (f108 329 1 (by decide)) (fun b => f108 359 b (nr_X12_costs_309__359 b)) (fun b => f108 374 b (nr_X12_costs_309__374 b))
                have r127 := y_B.fr r65 (f108 309 20 (by decide)) (f108 316 0 (by decide)) (fun b => f108 3220 b (nr_X12_costs_309__3220 b)) (fun b => f108 3221 b (nr_X12_costs_309__3221 b)) (fun b => f108 3222 b (nr_X12_costs_309__3222 b)) (fun b => f108 361 b (nr_X12_costs_309__361 b))
                have r128 := y_K.fr o45 (by omega) (by omega) (f108 309 44 (by decide)) (f108 309 20 (by decide)) (f108 309 58 (by decide)) (fun b => f108 3438 b (nr_X12_costs_309__3438 b)) (fun b => f108 3220 b (nr_X12_costs_309__3220 b)) (fun a b h => f108 a b (nz_X12_costs_309__3452_3651 a b h))
                have r129 := y_L.fr o46 (f108 309 20 (by decide)) (fun b => f108 3438 b (nr_X12_costs_309__3438 b))
                have r130 := y_BK.fr o47 (by omega) (f108 309 20 (by decide)) (f108 309 58 (by decide)) (fun b => f108 3220 b (nr_X12_costs_309__3220 b)) (fun a b h => f108 a b (nz_X12_costs_309__3452_3651 a b h))
                have r131 := y_YM.fr o52 (by omega) (f108 309 44 (by decide)) (f108 309 20 (by decide)) (f108 309 58 (by decide)) (fun b => f108 312 b (nr_X12_costs_309__312 b)) (fun b => f108 331 b (nr_X12_costs_309__331 b)) (fun b => f108 346 b (nr_X12_costs_309__346 b)) (fun b => f108 361 b (nr_X12_costs_309__361 b)) (fun b => f108 391 b (nr_X12_costs_309__391 b)) (fun a b h => f108 a b (nz_X12_costs_309__407_606 a b h)) (fun a b h => f108 a b (nz_X12_costs_309__3220_3223 a b h)) (fun b => f108 3438 b (nr_X12_costs_309__3438 b)) (fun a b h => f108 a b (nz_X12_costs_309__3441_3450 a b h)) (fun a b h => f108 a b (nz_X12_costs_309__3452_3651 a b h))
                clear t55
                clear t56
                clear t57
                clear t58
                exact T_ret ⟨c107, f109, r125, (by first | exact r126 | exact y_DD.z (by omega) (by omega)), r127, (by first | exact r128 | exact y_K.b0 (by omega) | exact y_K.k0 (by omega) | exact y_K.bk (by omega) | exact y_K.mk r129 (by omega) r130), (by first | exact o114 | exact y_KM.z (by omega)), (by first | exact r131 | exact y_YM.b0 (by omega) | exact y_YM.k0 (by omega) | exact y_YM.bk (by omega)), ⟨x110, rfl, by omega, by omega⟩⟩
              · refine T_ite (fun h132 => ?_) (fun h132 => ?_)
                · refine T_if1 (by decide +kernel) ?_
                  refine T_let 312 (by decide +kernel) ?_
                  refine T_leq (fun x133 e134 => ?_)
                  first | (have w135 := z_wx e134 (by omega)) | (have w135 := z_wr e134)
                  refine T_if1 (z_ixl (n := 9) (by decide +kernel) (by omega) (by omega)) ?_
                  refine T_leq (fun x136 e137 => ?_)
                  have u138 := CI_b c40 (k := 312) (j := x133) (bdr_312 x133)
                  exact T_ret ⟨c40, f42, r63, (by first | exact r64 | exact y_DD.z (by omega) (by omega)), r65, (by first | exact o45 | exact y_K.b0 (by omega) | exact y_K.k0 (by omega) | exact y_K.bk (by omega) | exact y_K.mk o46 (by omega) o47), (by first | exact o51 | exact y_KM.z (by omega)), (by first | exact o52 | exact y_YM.b0 (by omega) | exact y_YM.k0 (by omega) | exact y_YM.bk (by omega)), ⟨x136, rfl, by omega, by omega⟩⟩
                · refine T_ite (fun h139 => ?_) (fun h139 => ?_)
                  · refine T_if1 (by decide +kernel) ?_
                    refine T_let 312 (by decide +kernel) ?_
                    refine T_leq (fun x140 e141 => ?_)
                    first | (have w142 := z_wx e141 (by omega)) | (have w142 := z_wr e141)
                    refine T_if1 (z_ixl (n := 9) (by decide +kernel) (by omega) (by omega)) ?_
                    refine T_leq (fun x143 e144 => ?_)
                    have u145 := CI_b c40 (k := 312) (j := x140) (bdr_312 x140)
                    exact T_ret ⟨c40, f42, r63, (by first | exact r64 | exact y_DD.z (by omega) (by omega)), r65, (by first | exact o45 | exact y_K.b0 (by omega) | exact y_K.k0 (by omega) | exact y_K.bk (by omega) | exact y_K.mk o46 (by omega) o47), (by first | exact o51 | exact y_KM.z (by omega)), (by first | exact o52 | exact y_YM.b0 (by omega) | exact y_YM.k0 (by omega) | exact y_YM.bk (by omega)), ⟨x143, rfl, by omega, by omega⟩⟩
                  · refine T_ite (fun h146 => ?_) (fun h146 => ?_)
                    · refine T_if1 (by decide +kernel) ?_
                      refine T_let 312 (by decide +kernel) ?_
                      refine T_leq (fun x147 e148 => ?_)
                      first | (have w149 := z_wx e148 (by omega)) | (have w149 := z_wr e148)
                      refine T_if1 (z_ixl (n := 9) (by decide +kernel) (by omega) (by omega)) ?_
                      refine T_leq (fun x150 e151 => ?_)
                      have u152 := CI_b c40 (k := 312) (j := x147) (bdr_312 x147)
                      exact T_ret ⟨c40, f42, r63, (by first | exact r64 | exact y_DD.z (by omega) (by omega)), r65, (by first | exact o45 | exact y_K.b0 (by omega) | exact y_K.k0 (by omega) | exact y_K.bk (by omega) | exact y_K.mk o46 (by omega) o47), (by first | exact o51 | exact y_KM.z (by omega)), (by first | exact o52 | exact y_YM.b0 (by omega) | exact y_YM.k0 (by omega) | exact y_YM.bk (by omega)), ⟨x150, rfl, by omega, by omega⟩⟩
                    · refine T_ite (fun h153 => ?_) (fun h153 => ?_)
                      · refine T_if1 (by decide +kernel) ?_
                        refine T_let 312 (by decide +kernel) ?_
                        refine T_leq (fun x154 e155 => ?_)
                        first | (have w156 := z_wx e155 (by omega)) | (have w156 := z_wr e155)
                        refine T_if1 (z_ixl (n := 9) (by decide +kernel) (by omega) (by omega)) ?_
                        refine T_leq (fun x157 e158 => ?_)
                        have u159 := CI_b c40 (k := 312) (j := x154) (bdr_312 x154)
                        exact T_ret ⟨c40, f42, r63, (by first | exact r64 | exact y_DD.z (by omega) (by omega)), r65, (by first | exact o45 | exact y_K.b0 (by omega) | exact y_K.k0 (by omega) | exact y_K.bk (by omega) | exact y_K.mk o46 (by omega) o47), (by first | exact o51 | exact y_KM.z (by omega)), (by first | exact o52 | exact y_YM.b0 (by omega) | exact y_YM.k0 (by omega) | exact y_YM.bk (by omega)), ⟨x157, rfl, by omega, by omega⟩⟩
                      · refine T_ite (fun h160 => ?_) (fun h160 => ?_)
                        · refine T_if1 (by decide +kernel) ?_
                          refine T_let 312 (by decide +kernel) ?_
                          refine T_leq (fun x161 e162 => ?_)
                          first | (have w163 := z_wx e162 (by omega)) | (have w163 := z_wr e162)
                          refine T_if1 (z_ixl (n := 9) (by decide +kernel) (by omega) (by omega)) ?_
                          refine T_leq (fun x164 e165 => ?_)
                          have u166 := CI_b c40 (k := 312) (j := x161) (bdr_312 x161)
                          exact T_ret ⟨c40, f42, r63, (by first | exact r64 | exact y_DD.z (by omega) (by omega)), r65, (by first | exact o45 | exact y_K.b0 (by omega) | exact y_K.k0 (by omega) | exact y_K.bk (by omega) | exact y_K.mk o46 (by omega) o47), (by first | exact o51 | exact y_KM.z (by omega)), (by first | exact o52 | exact y_YM.b0 (by omega) | exact y_YM.k0 (by omega) | exact y_YM.bk (by omega)), ⟨x164, rfl, by omega, by omega⟩⟩
                        · refine T_ite (fun h167 => ?_) (fun h167 => ?_)
                          · refine T_if1 (by decide +kernel) ?_
                            refine T_let 312 (by decide +kernel) ?_
                            refine T_leq (fun x168 e169 => ?_)
                            first | (have w170 := z_wx e169 (by omega)) | (have w170 := z_wr e169)
                            refine T_if1 (z_ixl (n := 9) (by decide +kernel) (by omega) (by omega)) ?_
                            refine T_leq (fun x171 e172 => ?_)
                            have u173 := CI_b c40 (k := 312) (j := x168) (bdr_312 x168)
                            exact T_ret ⟨c40, f42, r63, (by first | exact r64 | exact y_DD.z (by omega) (by omega)), r65, (by first | exact o45 | exact y_K.b0 (by omega) | exact y_K.k0 (by omega) | exact y_K.bk (by omega) | exact y_K.mk o46 (by omega) o47), (by first | exact o51 | exact y_KM.z (by omega)), (by first | exact o52 | exact y_YM.b0 (by omega) | exact y_YM.k0 (by omega) | exact y_YM.bk (by omega)), ⟨x171, rfl, by omega, by omega⟩⟩
                          · refine T_ite (fun h174 => ?_) (fun h174 => ?_)
                            · refine T_if1 (by decide +kernel) ?_
                              refine T_let 312 (by decide +kernel) ?_
                              refine T_leq (fun x175 e176 => ?_)
                              first | (have w177 := z_wx e176 (by omega)) | (have w177 := z_wr e176)
                              refine T_if1 (z_ixl (n := 9) (by decide +kernel) (by omega) (by omega)) ?_
                              refine T_leq (fun x178 e179 => ?_)
                              have u180 := CI_b c40 (k := 312) (j := x175) (bdr_312 x175)
                              exact T_ret ⟨c40, f42, r63, (by first | exact r64 | exact y_DD.z (by omega) (by omega)), r65, (by first | exact o45 | exact y_K.b0 (by omega) | exact y_K.k0 (by omega) | exact y_K.bk (by omega) | exact y_K.mk o46 (by omega) o47), (by first | exact o51 | exact y_KM.z (by omega)), (by first | exact o52 | exact y_YM.b0 (by omega) | exact y_YM.k0 (by omega) | exact y_YM.bk (by omega)), ⟨x178, rfl, by omega, by omega⟩⟩
                            · refine T_ite (fun h181 => ?_) (fun h181 => ?_)
                              · refine T_if1 (by decide +kernel) ?_
                                refine T_leq (fun x182 e183 => ?_)
                                have u184 := CI_b c40 (k := 309) (j := 19) bd_309_19
                                exact T_ret ⟨c40, f42, r63, (by first | exact r64 | exact y_DD.z (by omega) (by omega)), r65, (by first | exact o45 | exact y_K.b0 (by omega) | exact y_K.k0 (by omega) | exact y_K.bk (by omega) | exact y_K.mk o46 (by omega) o47), (by first | exact o51 | exact y_KM.z (by omega)), (by first | exact o52 | exact y_YM.b0 (by omega) | exact y_YM.k0 (by omega) | exact y_YM.bk (by omega)), ⟨x182, rfl, by omega, by omega⟩⟩
                              · refine T_ite (fun h185 => ?_) (fun h185 => ?_)
                                · refine T_if1 (by decide +kernel) ?_
                                  refine T_leq (fun x186 e187 => ?_)
                                  have u188 := CI_b c40 (k := 309) (j := 2) bd_309_2
                                  exact T_ret ⟨c40, f42, r63, (by first | exact r64 | exact y_DD.z (by omega) (by omega)), r65, (by first | exact o45 | exact y_K.b0 (by omega) | exact y_K.k0 (by omega) | exact y_K.bk (by omega) | exact y_K.mk o46 (by omega) o47), (by first | exact o51 | exact y_KM.z (by omega)), (by first | exact o52 | exact y_YM.b0 (by omega) | exact y_YM.k0 (by omega) | exact y_YM.bk (by omega)), ⟨x186, rfl, by omega, by omega⟩⟩
                                · refine T_ite (fun h189 => ?_) (fun h189 => ?_)
                                  · refine T_if1 (by decide +kernel) ?_
                                    refine T_useI (sf_X12_unfit_309 hfu s39 c40) (fun v195 s190 hq => ?_)
                                    obtain ⟨c191, f192, ⟨x194, rfl, b196, b197⟩⟩ := hq
                                    refine T_vI ?_
                                    have q198 := z_Fr.eq (fun a b h => h) f192
                                    subst q198
                                    exact T_ret ⟨c40, f42, r63, (by first | exact r64 | exact y_DD.z (by omega) (by omega)), r65, (by first | exact o45 | exact y_K.b0 (by omega) | exact y_K.k0 (by omega) | exact y_K.bk (by omega) | exact y_K.mk o46 (by omega) o47), (by first | exact o51 | exact y_KM.z (by omega)), (by first | exact o52 | exact y_YM.b0 (by omega) | exact y_YM.k0 (by omega) | exact y_YM.bk (by omega)), ⟨x194, rfl, by omega, by omega⟩⟩
                                  · refine T_ite (fun h199 => ?_) (fun h199 => ?_)
                                    · refine T_if1 (by decide +kernel) ?_
                                      refine T_let 312 (by decide +kernel) ?_
                                      refine T_leq (fun x200 e201 => ?_)
                                      first | (have w202 := z_wx e201 (by omega)) | (have w202 := z_wr e201)
                                      refine T_if1 (z_ixl (n := 9) (by decide +kernel) (by omega) (by omega)) ?_
                                      refine T_leq (fun x203 e204 => ?_)
                                      have u205 := CI_b c40 (k := 312) (j := x200) (bdr_312 x200)
                                      exact T_ret ⟨c40, f42, r63, (by first | exact r64 | exact y_DD.z (by omega) (by omega)), r65, (by first | exact o45 | exact y_K.b0 (by omega) | exact y_K.k0 (by omega) | exact y_K.bk (by omega) | exact y_K.mk o46 (by omega) o47), (by first | exact o51 | exact y_KM.z (by omega)), (by first | exact o52 | exact y_YM.b0 (by omega) | exact y_YM.k0 (by omega) | exact y_YM.bk (by omega)), ⟨x203, rfl, by omega, by omega⟩⟩
                                    · refine T_ite (fun h206 => ?_) (fun h206 => ?_)
                                      · refine T_if1 (by decide +kernel) ?_
                                        refine T_let 312 (by decide +kernel) ?_
                                        refine T_leq (fun x207 e208 => ?_)
                                        first | (have w209 := z_wx e208 (by omega)) | (have w209 := z_wr e208)
                                        refine T_if1 (z_ixl (n := 9) (by decide +kernel) (by omega) (by omega)) ?_
                                        refine T_leq (fun x210 e211 => ?_)
                                        have u212 := CI_b c40 (k := 312) (j := x207) (bdr_312 x207)
                                        exact T_ret ⟨c40, f42, r63, (by first | exact r64 | exact y_DD.z (by omega) (by omega)), r65, (by first | exact o45 | exact y_K.b0 (by omega) | exact y_K.k0 (by omega) | exact y_K.bk (by omega) | exact y_K.mk o46 (by omega) o47), (by first | exact o51 | exact y_KM.z (by omega)), (by first | exact o52 | exact y_YM.b0 (by omega) | exact y_YM.k0 (by omega) | exact y_YM.bk (by omega)), ⟨x210, rfl, by omega, by omega⟩⟩
                                      · refine T_ite (fun h213 => ?_) (fun h213 => ?_)
                                        · refine T_if1 (by decide +kernel) ?_
                                          refine T_leq (fun x214 e215 => ?_)
                                          have u216 := CI_b c40 (k := 309) (j := 38) bd_309_38
                                          exact T_ret ⟨c40, f42, r63, (by first | exact r64 | exact y_DD.z (by omega) (by omega)), r65, (by first | exact o45 | exact y_K.b0 (by omega) | exact y_K.k0 (by omega) | exact y_K.bk (by omega) | exact y_K.mk o46 (by omega) o47), (by first | exact o51 | exact y_KM.z (by omega)), (by first | exact o52 | exact y_YM.b0 (by omega) | exact y_YM.k0 (by omega) | exact y_YM.bk (by omega)), ⟨x214, rfl, by omega, by omega⟩⟩
                                        · refine T_ite (fun h217 => ?_) (fun h217 => ?_)
                                          · refine T_if1 (by decide +kernel) ?_
                                            refine T_leq (fun x218 e219 => ?_)
                                            have u220 := CI_b c40 (k := 309) (j := 39) bd_309_39
                                            exact T_ret ⟨c40, f42, r63, (by first | exact r64 | exact y_DD.z (by omega) (by omega)), r65, (by first | exact o45 | exact y_K.b0 (by omega) | exact y_K.k0 (by omega) | exact y_K.bk (by omega) | exact y_K.mk o46 (by omega) o47), (by first | exact o51 | exact y_KM.z (by omega)), (by first | exact o52 | exact y_YM.b0 (by omega) | exact y_YM.k0 (by omega) | exact y_YM.bk (by omega)), ⟨x218, rfl, by omega, by omega⟩⟩
                                          · refine T_if1 (by decide +kernel) ?_
                                            refine T_let 312 (by decide +kernel) ?_
                                            refine T_leq (fun x221 e222 => ?_)
                                            first | (have w223 := z_wx e222 (by omega)) | (have w223 := z_wr e222)
                                            refine T_if1 (z_ixl (n := 9) (by decide +kernel) (by omega) (by omega)) ?_
                                            refine T_leq (fun x224 e225 => ?_)
                                            have u226 := CI_b c40 (k := 312) (j := x221) (bdr_312 x221)
                                            exact T_ret ⟨c40, f42, r63, (by first | exact r64 | exact y_DD.z (by omega) (by omega)), r65, (by first | exact o45 | exact y_K.b0 (by omega) | exact y_K.k0 (by omega) | exact y_K.bk (by omega) | exact y_K.mk o46 (by omega) o47), (by first | exact o51 | exact y_KM.z (by omega)), (by first | exact o52 | exact y_YM.b0 (by omega) | exact y_YM.k0 (by omega) | exact y_YM.bk (by omega)), ⟨x224, rfl, by omega, by omega⟩⟩
  · exact T_ret ⟨c14, f16, r32, (by first | exact r33 | exact y_DD.z (by omega) (by omega)), r34, (by first | exact r35 | exact y_K.b0 (by omega) | exact y_K.k0 (by omega) | exact y_K.bk (by omega)), (by first | exact r36 | exact y_KM.z (by omega)), (by first | exact r37 | exact y_YM.b0 (by omega) | exact y_YM.k0 (by omega) | exact y_YM.bk (by omega)), ⟨0, rfl, by omega, by omega⟩⟩
theorem sf_X12_told_309Y {fu : Nat} (hfu : 8589934592 ≤ fu) (r0 : z_M) (c0 : z_CI r0) (a1 : Int) (b1 : -2147483648 ≤ a1 ∧ a1 ≤ 2147483647) (p0 : y_TA r0) (p1 : y_DD r0) (p2 : y_B r0) (p3 : y_K r0) (p4 : y_KM r0) (p5 : y_YM r0) : z_T (fX12_told fu r0 309 a1) (P_X12_told_309Y r0) := by
  refine T_of (fX12_told.eq_1 ..) ?_
  have u1 := CI_b c0 (k := 309) (j := 20) bd_309_20
  have u2 := CI_b c0 (k := 309) (j := 36) bd_309_36
  have u3 := CI_b c0 (k := 309) (j := 43) bd_309_43
  have u4 := CI_b c0 (k := 309) (j := 44) bd_309_44
  have u5 := CI_b c0 (k := 309) (j := 58) bd_309_58
  have u6 := CI_b c0 (k := 316) (j := 0) bd_316_0
  have u7 := CI_b c0 (k := 329) (j := 0) bd_329_0
  have u8 := CI_b c0 (k := 329) (j := 1) bd_329_1
  refine T_if1 (by decide +kernel) ?_
  refine T_upg c0 bd_309_0 (by omega) (fun s9 c10 g12 g13 e14 => ?_)
  have f11 := z_Fr.upf (R := R_X12_told_309) z_Fr.rf g12 g13 (Or.inr (Or.inr (⟨rfl, by decide⟩)))
  have t15 : s9 309 20 = r0 309 20 := g13 20 (by decide)
  have t16 : s9 309 36 = r0 309 36 := g13 36 (by decide)
  have t17 : s9 309 43 = r0 309 43 := g13 43 (by decide)
  have t18 : s9 309 44 = r0 309 44 := g13 44 (by decide)
  have t19 : s9 309 58 = r0 309 58 := g13 58 (by decide)
  have t20 : s9 316 0 = r0 316 0 := g12 316 0 (by decide)
  have t21 : s9 329 0 = r0 329 0 := g12 329 0 (by decide)
  have t22 : s9 329 1 = r0 329 1 := g12 329 1 (by decide)
  have r23 := y_TA.fr p0 (fun a b h => g12 a b (by omega)) (fun a b h => g12 a b (by omega)) (fun a b h => g12 a b (by omega))
  have r24 := y_DD.fr p1 (g12 329 0 (by decide)) (g12 329 1 (by decide)) (fun b => g12 359 b (by decide)) (fun b => g12 374 b (by decide))
  have r25 := y_B.fr p2 (g13 20 (by decide)) (g12 316 0 (by decide)) (fun b => g12 3220 b (by decide)) (fun b => g12 3221 b (by decide)) (fun b => g12 3222 b (by decide)) (fun b => g12 361 b (by decide))
  have r26 := y_K.fr p3 (by omega) (by omega) (g13 44 (by decide)) (g13 20 (by decide)) (g13 58 (by decide)) (fun b => g12 3438 b (by decide)) (fun b => g12 3220 b (by decide)) (fun a b h => g12 a b (by omega))
  have r27 := y_KM.fr p4 (g13 20 (by decide)) (g13 36 (by decide)) (g13 38 (by decide)) (g13 39 (by decide)) (fun b => g12 312 b (by decide)) (fun b => g12 331 b (by decide)) (fun b => g12 346 b (by decide)) (fun b => g12 361 b (by decide)) (fun b => g12 391 b (by decide)) (fun a b h => g12 a b (by omega)) (fun a b h => g12 a b (by omega)) (fun a b h => g12 a b (by omega))
  have r28 := y_YM.fr p5 (by omega) (g13 44 (by decide)) (g13 20 (by decide)) (g13 58 (by decide)) (fun b => g12 312 b (by decide)) (fun b => g12 331 b (by decide)) (fun b => g12 346 b (by decide)) (fun b => g12 361 b (by decide)) (fun b => g12 391 b (by decide)) (fun a b h => g12 a b (by omega)) (fun a b h => g12 a b (by omega)) (fun b => g12 3438 b (by decide)) (fun a b h => g12 a b (by omega)) (fun a b h => g12 a b (by omega))
  refine T_useI (sf_X12_in hfu s9 c10 a1 0 19 (by omega) (by omega) (by omega)) (fun v34 s29 hq => ?_)
  obtain ⟨c30, f31, ⟨x33, rfl, b35, b36, o37⟩⟩ := hq
  refine T_vI ?_
  have q38 := z_Fr.eq (fun a b h => h) f31
  subst q38
  refine T_ite (fun h39 => ?_) (fun h39 => ?_)
  · exact sj_X12_told_309Y_J21 hfu r0 s9 c10 f11 a1 0 (by omega) (by omega) (by omega) r23 (by first | exact r24 | exact y_DD.z (by omega) (by omega)) r25 (by first | exact r26 | exact y_K.b0 (by omega) | exact y_K.k0 (by omega) | exact y_K.bk (by omega)) (by first | exact r27 | exact y_KM.z (by omega)) (by first | exact r28 | exact y_YM.b0 (by omega) | exact y_YM.k0 (by omega) | exact y_YM.bk (by omega))
  · exact sj_X12_told_309Y_J21 hfu r0 s9 c10 f11 a1 1 (by omega) (by omega) (by omega) r23 (by first | exact r24 | exact y_DD.z (by omega) (by omega)) r25 (by first | exact r26 | exact y_K.b0 (by omega) | exact y_K.k0 (by omega) | exact y_K.bk (by omega)) (by first | exact r27 | exact y_KM.z (by omega)) (by first | exact r28 | exact y_YM.b0 (by omega) | exact y_YM.k0 (by omega) | exact y_YM.bk (by omega))
abbrev P_X12_unit_309Y (r0 : z_M) : z_V → z_M → Prop := fun v s' => z_CI s' ∧ z_Fr R_X12_unit_309 r0 s' ∧ (y_TA s') ∧ (y_DD s') ∧ (y_B s') ∧ (y_K s') ∧ (y_KM s') ∧ (y_YM s') ∧ (∃ x, v = vI x ∧ -2147483648 ≤ x ∧ x ≤ 2147483647)
theorem sj_X12_unit_309Y_J51 {fu : Nat} (hfu : 8589934592 ≤ fu) (r0 s : z_M) (c : z_CI s) (f : z_Fr R_X12_unit_309 r0 s) (p0 : y_TA s) (p1 : y_DD s) (p2 : y_B s) (p3 : y_K s) (p4 : y_KM s) (p5 : y_YM s) : z_T (fX12_unit_J51 fu s) (P_X12_unit_309Y r0) := by
  refine T_of (fX12_unit_J51.eq_1 ..) ?_
  have u1 := CI_b c (k := 309) (j := 20) bd_309_20
  have u2 := CI_b c (k := 309) (j := 36) bd_309_36
  have u3 := CI_b c (k := 309) (j := 43) bd_309_43
  have u4 := CI_b c (k := 309) (j := 44) bd_309_44
  have u5 := CI_b c (k := 309) (j := 58) bd_309_58
  have u6 := CI_b c (k := 316) (j := 0) bd_316_0
  have u7 := CI_b c (k := 329) (j := 0) bd_329_0
  have u8 := CI_b c (k := 329) (j := 1) bd_329_1
  have t9 : s 309 20 = r0 309 20 := f 309 20 (by decide)
  have t10 : s 316 0 = r0 316 0 := f 316 0 (by decide)
  have t11 : s 329 0 = r0 329 0 := f 329 0 (by decide)
  have t12 : s 329 1 = r0 329 1 := f 329 1 (by decide)
  exact T_ret ⟨c, f, p0, (by first | exact p1 | exact y_DD.z (by omega) (by omega)), p2, (by first | exact p3 | exact y_K.b0 (by omega) | exact y_K.k0 (by omega) | exact y_K.bk (by omega)), (by first | exact p4 | exact y_KM.z (by omega)), (by first | exact p5 | exact y_YM.b0 (by omega) | exact y_YM.k0 (by omega) | exact y_YM.bk (by omega)), ⟨0, rfl, by omega, by omega⟩⟩
set_option maxHeartbeats 4000000 in
theorem sj_X12_unit_309Y_J43 {fu : Nat} (hfu : 8589934592 ≤ fu) (r0 s : z_M) (c : z_CI s) (f : z_Fr R_X12_unit_309 r0 s) (a1 : Int) (a2 : Int) (t1 : Int) (b1 : -2147483648 ≤ a1 ∧ a1 ≤ 2147483647) (b2 : -2147483648 ≤ a2 ∧ a2 ≤ 2147483647) (d1 : 0 ≤ t1 ∧ t1 ≤ 1) (p0 : 0 ≤ a1 ∧ a1 < s 309 20) (p1 : t1 = 1 ∨ (0 ≤ a2 ∧ a2 ≤ 7)) (p2 : y_TA s) (p3 : y_DD s) (p4 : y_B s) (p5 : y_K s) (p6 : y_KM s) (p7 : y_YM s) : z_T (fX12_unit_J43 fu s 309 a1 a2 309 t1) (P_X12_unit_309Y r0) := by
  refine T_of (fX12_unit_J43.eq_1 ..) ?_
  have u1 := CI_b c (k := 309) (j := 20) bd_309_20
  have u2 := CI_b c (k := 309) (j := 36) bd_309_36
  have u3 := CI_b c (k := 309) (j := 43) bd_309_43
  have u4 := CI_b c (k := 309) (j := 44) bd_309_44
  have u5 := CI_b c (k := 309) (j := 58) bd_309_58
  have u6 := CI_b c (k := 316) (j := 0) bd_316_0
  have u7 := CI_b c (k := 329) (j := 0) bd_329_0
  have u8 := CI_b c (k := 329) (j := 1) bd_329_1
  have t9 : s 309 20 = r0 309 20 := f 309 20 (by decide)
  have t10 : s 316 0 = r0 316 0 := f 316 0 (by decide)
  have t11 : s 329 0 = r0 329 0 := f 329 0 (by decide)
  have t12 : s 329 1 = r0 329 1 := f 329 1 (by decide)
  refine T_if1 (by decide +kernel) ?_
  refine T_useI (sf_X12_bad_309 hfu s c t1 2 1 (by omega) (by omega) (by omega) (by omega)) (fun v18 s13 hq => ?_)
  obtain ⟨c14, f15, o19, ⟨x17, rfl, b20, b21, o22, o23⟩⟩ := hq
  refine T_vI ?_
  have f16 := z_Fr.tr (R := R_X12_unit_309) f f15 rs_X12_bad_309__X12_unit_309
  have t24 : s13 309 20 = s 309 20 := f15 309 20 (by decide)
  have t25 : s13 309 36 = s 309 36 := f15 309 36 (by decide)
  have t26 : s13 309 43 = s 309 43 := f15 309 43 (by decide)
  have t27 : s13 309 44 = s 309 44 := f15 309 44 (by decide)
  have t28 : s13 309 58 = s 309 58 := f15 309 58 (by decide)
  have t29 : s13 316 0 = s 316 0 := f15 316 0 (by decide)
  have t30 : s13 329 0 = s 329 0 := f15 329 0 (by decide)
  have t31 : s13 329 1 = s 329 1 := f15 329 1 (by decide)
  have r32 := y_TA.fr p2 (fun a b h => f15 a b (nz_X12_bad_309__316_328 a b h)) (fun a b h => f15 a b (nz_X12_bad_309__346_358 a b h)) (fun a b h => f15 a b (nz_X12_bad_309__361_373 a b h))
  have r33 := y_DD.fr p3 (f15 329 0 (by decide)) (f15 329 1 (by decide)) (fun b => f15 359 b (nr_X12_bad_309__359 b)) (fun b => f15 374 b (nr_X12_bad_309__374 b))
  have r34 := y_B.fr p4 (f15 309 20 (by decide)) (f15 316 0 (by decide)) (fun b => f15 3220 b (nr_X12_bad_309__3220 b)) (fun b => f15 3221 b (nr_X12_bad_309__3221 b)) (fun b => f15 3222 b (nr_X12_bad_309__3222 b)) (fun b => f15 361 b (nr_X12_bad_309__361 b))
  have r35 := y_K.fr p5 (by omega) (by omega) (f15 309 44 (by decide)) (f15 309 20 (by decide)) (f15 309 58 (by decide)) (fun b => f15 3438 b (nr_X12_bad_309__3438 b)) (fun b => f15 3220 b (nr_X12_bad_309__3220 b)) (fun a b h => f15 a b (nz_X12_bad_309__3452_3651 a b h))
  have r36 := y_KM.fr p6 (f15 309 20 (by decide)) (f15 309 36 (by decide)) (f15 309 38 (by decide)) (f15 309 39 (by decide)) (fun b => f15 312 b (nr_X12_bad_309__312 b)) (fun b => f15 331 b (nr_X12_bad_309__331 b)) (fun b => f15 346 b (nr_X12_bad_309__346 b)) (fun b => f15 361 b (nr_X12_bad_309__361 b)) (fun b => f15 391 b (nr_X12_bad_309__391 b)) (fun a b h => f15 a b (nz_X12_bad_309__407_606 a b h)) (fun a b h => f15 a b (nz_X12_bad_309__3220_3223 a b h)) (fun a b h => f15 a b (nz_X12_bad_309__3235_3437 a b h))
  have r37 := y_YM.fr p7 (by omega) (f15 309 44 (by decide)) (f15 309 20 (by decide)) (f15 309 58 (by decide)) (fun b => f15 312 b (nr_X12_bad_309__312 b)) (fun b => f15 331 b (nr_X12_bad_309__331 b)) (fun b => f15 346 b (nr_X12_bad_309__346 b)) (fun b => f15 361 b (nr_X12_bad_309__361 b)) (fun b => f15 391 b (nr_X12_bad_309__391 b)) (fun a b h => f15 a b (nz_X12_bad_309__407_606 a b h)) (fun a b h => f15 a b (nz_X12_bad_309__3220_3223 a b h)) (fun b => f15 3438 b (nr_X12_bad_309__3438 b)) (fun a b h => f15 a b (nz_X12_bad_309__3441_3450 a b h)) (fun a b h => f15 a b (nz_X12_bad_309__3452_3651 a b h))
  refine T_ite (fun h38 => ?_) (fun h38 => ?_)
  · refine T_if1 (by decide +kernel) ?_
    refine T_useN (sf_X12_laysAll_309Y hfu s13 c14 r34 (by first | exact r35 | exact y_K.b0 (by omega) | exact y_K.k0 (by omega) | exact y_K.bk (by omega)) (by first | exact r36 | exact y_KM.z (by omega)) (by first | exact r37 | exact y_YM.b0 (by omega) | exact y_YM.k0 (by omega) | exact y_YM.bk (by omega))) (fun v44 s39 hq => ?_)
    obtain ⟨c40, f41, o45, o46, o47, o48, o49, o50, o51, o52, rfl⟩ := hq
    refine T_vN ?_
    have f42 := z_Fr.tr (R := R_X12_unit_309) f16 f41 rs_X12_laysAll_309__X12_unit_309
    have t55 : s39 309 20 = s 309 20 := (f41 309 20 (by decide)).trans t24
    have t56 : s39 316 0 = s 316 0 := (f41 316 0 (by decide)).trans t29
    have t57 : s39 329 0 = s 329 0 := (f41 329 0 (by decide)).trans t30
    have t58 : s39 329 1 = s 329 1 := (f41 329 1 (by decide)).trans t31
    have u59 := CI_b c40 (k := 309) (j := 36) bd_309_36
    have u60 := CI_b c40 (k := 309) (j := 43) bd_309_43
    have u61 := CI_b c40 (k := 309) (j := 44) bd_309_44
    have u62 := CI_b c40 (k := 309) (j := 58) bd_309_58
    have r63 := y_TA.fr r32 (fun a b h => f41 a b (nz_X12_laysAll_309__316_328 a b h)) (fun a b h => f41 a b (nz_X12_laysAll_309__346_358 a b h)) (fun a b h => f41 a b (nz_X12_laysAll_309__361_373 a b h))
    have r64 := y_DD.fr r33 (f41 329 0 (by decide)) (f41 329 1 (by decide)) (fun b => f41 359 b (nr_X12_laysAll_309__359 b)) (fun b => f41 374 b (nr_X12_laysAll_309__374 b))
    have r65 := y_B.fr r34 (f41 309 20 (by decide)) (f41 316 0 (by decide)) (fun b => f41 3220 b (nr_X12_laysAll_309__3220 b)) (fun b => f41 3221 b (nr_X12_laysAll_309__3221 b)) (fun b => f41 3222 b (nr_X12_laysAll_309__3222 b)) (fun b => f41 361 b (nr_X12_laysAll_309__361 b))
    clear t24
    clear t29
    clear t30
    clear t31
    refine T_ite (fun h66 => ?_) (fun h66 => ?_)
    · refine T_if1 (by decide +kernel) ?_
      refine T_let 3220 (by decide +kernel) ?_
      refine T_if1 (z_ixl (n := 200) (by decide +kernel) (by omega) (by omega)) ?_
      refine T_leq (fun x67 e68 => ?_)
      have u69 := CI_b c40 (k := 3220) (j := a1) (bdr_3220 a1)
      exact T_ret ⟨c40, f42, r63, (by first | exact r64 | exact y_DD.z (by omega) (by omega)), r65, (by first | exact o45 | exact y_K.b0 (by omega) | exact y_K.k0 (by omega) | exact y_K.bk (by omega) | exact y_K.mk o46 (by omega) o47), (by first | exact o51 | exact y_KM.z (by omega)), (by first | exact o52 | exact y_YM.b0 (by omega) | exact y_YM.k0 (by omega) | exact y_YM.bk (by omega)), ⟨x67, rfl, by omega, by omega⟩⟩
    · refine T_ite (fun h70 => ?_) (fun h70 => ?_)
      · refine T_if1 (by decide +kernel) ?_
        refine T_let 3221 (by decide +kernel) ?_
        refine T_if1 (z_ixl (n := 200) (by decide +kernel) (by omega) (by omega)) ?_
        refine T_leq (fun x71 e72 => ?_)
        have u73 := CI_b c40 (k := 3221) (j := a1) (bdr_3221 a1)
        exact T_ret ⟨c40, f42, r63, (by first | exact r64 | exact y_DD.z (by omega) (by omega)), r65, (by first | exact o45 | exact y_K.b0 (by omega) | exact y_K.k0 (by omega) | exact y_K.bk (by omega) | exact y_K.mk o46 (by omega) o47), (by first | exact o51 | exact y_KM.z (by omega)), (by first | exact o52 | exact y_YM.b0 (by omega) | exact y_YM.k0 (by omega) | exact y_YM.bk (by omega)), ⟨x71, rfl, by omega, by omega⟩⟩
      · refine T_ite (fun h74 => ?_) (fun h74 => ?_)
        · refine T_if1 (by decide +kernel) ?_
          refine T_let 3222 (by decide +kernel) ?_
          refine T_if1 (z_ixl (n := 200) (by decide +kernel) (by omega) (by omega)) ?_
          refine T_leq (fun x75 e76 => ?_)
          have u77 := CI_b c40 (k := 3222) (j := a1) (bdr_3222 a1)
          exact T_ret ⟨c40, f42, r63, (by first | exact r64 | exact y_DD.z (by omega) (by omega)), r65, (by first | exact o45 | exact y_K.b0 (by omega) | exact y_K.k0 (by omega) | exact y_K.bk (by omega) | exact y_K.mk o46 (by omega) o47), (by first | exact o51 | exact y_KM.z (by omega)), (by first | exact o52 | exact y_YM.b0 (by omega) | exact y_YM.k0 (by omega) | exact y_YM.bk (by omega)), ⟨x75, rfl, by omega, by omega⟩⟩
        · refine T_ite (fun h78 => ?_) (fun h78 => ?_)
          · refine T_if1 (by decide +kernel) ?_
            refine T_let 3445 (by decide +kernel) ?_
            refine T_if1 (z_ixl (n := 200) (by decide +kernel) (by omega) (by omega)) ?_
            refine T_leq (fun x79 e80 => ?_)
            have u81 := CI_b c40 (k := 3445) (j := a1) (bdr_3445 a1)
            exact T_ret ⟨c40, f42, r63, (by first | exact r64 | exact y_DD.z (by omega) (by omega)), r65, (by first | exact o45 | exact y_K.b0 (by omega) | exact y_K.k0 (by omega) | exact y_K.bk (by omega) | exact y_K.mk o46 (by omega) o47), (by first | exact o51 | exact y_KM.z (by omega)), (by first | exact o52 | exact y_YM.b0 (by omega) | exact y_YM.k0 (by omega) | exact y_YM.bk (by omega)), ⟨x79, rfl, by omega, by omega⟩⟩
          · refine T_ite (fun h82 => ?_) (fun h82 => ?_)
            · refine T_if1 (by decide +kernel) ?_
              refine T_let 3441 (by decide +kernel) ?_
              refine T_if1 (z_ixl (n := 200) (by decide +kernel) (by omega) (by omega)) ?_
              refine T_leq (fun x83 e84 => ?_)
              have u85 := CI_b c40 (k := 3441) (j := a1) (bdr_3441 a1)
              exact T_ret ⟨c40, f42, r63, (by first | exact r64 | exact y_DD.z (by omega) (by omega)), r65, (by first | exact o45 | exact y_K.b0 (by omega) | exact y_K.k0 (by omega) | exact y_K.bk (by omega) | exact y_K.mk o46 (by omega) o47), (by first | exact o51 | exact y_KM.z (by omega)), (by first | exact o52 | exact y_YM.b0 (by omega) | exact y_YM.k0 (by omega) | exact y_YM.bk (by omega)), ⟨x83, rfl, by omega, by omega⟩⟩
            · refine T_ite (fun h86 => ?_) (fun h86 => ?_)
              · refine T_if1 (by decide +kernel) ?_
                refine T_let 3442 (by decide +kernel) ?_
                refine T_if1 (z_ixl (n := 200) (by decide +kernel) (by omega) (by omega)) ?_
                refine T_leq (fun x87 e88 => ?_)
                have u89 := CI_b c40 (k := 3442) (j := a1) (bdr_3442 a1)
                exact T_ret ⟨c40, f42, r63, (by first | exact r64 | exact y_DD.z (by omega) (by omega)), r65, (by first | exact o45 | exact y_K.b0 (by omega) | exact y_K.k0 (by omega) | exact y_K.bk (by omega) | exact y_K.mk o46 (by omega) o47), (by first | exact o51 | exact y_KM.z (by omega)), (by first | exact o52 | exact y_YM.b0 (by omega) | exact y_YM.k0 (by omega) | exact y_YM.bk (by omega)), ⟨x87, rfl, by omega, by omega⟩⟩
              · refine T_ite (fun h90 => ?_) (fun h90 => ?_)
                · refine T_if1 (by decide +kernel) ?_
                  refine T_useI (sf_X12_group_309 hfu s39 c40 a1 (by omega) r65 (by omega)) (fun v96 s91 hq => ?_)
                  obtain ⟨c92, f93, ⟨x95, rfl, b97, b98, o99, o100, o101⟩⟩ := hq
                  refine T_vI ?_
                  have q102 := z_Fr.eq (fun a b h => h) f93
                  subst q102
                  exact T_ret ⟨c40, f42, r63, (by first | exact r64 | exact y_DD.z (by omega) (by omega)), r65, (by first | exact o45 | exact y_K.b0 (by omega) | exact y_K.k0 (by omega) | exact y_K.bk (by omega) | exact y_K.mk o46 (by omega) o47), (by first | exact o51 | exact y_KM.z (by omega)), (by first | exact o52 | exact y_YM.b0 (by omega) | exact y_YM.k0 (by omega) | exact y_YM.bk (by omega)), ⟨x95, rfl, by omega, by omega⟩⟩
                · refine T_if1 (by decide +kernel) ?_
                  refine T_let 3444 (by decide +kernel) ?_
                  refine T_if1 (z_ixl (n := 200) (by decide +kernel) (by omega) (by omega)) ?_
                  refine T_leq (fun x103 e104 => ?_)
                  have u105 := CI_b c40 (k := 3444) (j := a1) (bdr_3444 a1)
                  exact T_ret ⟨c40, f42, r63, (by first | exact r64 | exact y_DD.z (by omega) (by omega)), r65, (by first | exact o45 | exact y_K.b0 (by omega) | exact y_K.k0 (by omega) | exact y_K.bk (by omega) | exact y_K.mk o46 (by omega) o47), (by first | exact o51 | exact y_KM.z (by omega)), (by first | exact o52 | exact y_YM.b0 (by omega) | exact y_YM.k0 (by omega) | exact y_YM.bk (by omega)), ⟨x103, rfl, by omega, by omega⟩⟩
  · exact sj_X12_unit_309Y_J51 hfu r0 s13 c14 f16 r32 (by first | exact r33 | exact y_DD.z (by omega) (by omega)) r34 (by first | exact r35 | exact y_K.b0 (by omega) | exact y_K.k0 (by omega) | exact y_K.bk (by omega)) (by first | exact r36 | exact y_KM.z (by omega)) (by first | exact r37 | exact y_YM.b0 (by omega) | exact y_YM.k0 (by omega) | exact y_YM.bk (by omega))
theorem sj_X12_unit_309Y_J19 {fu : Nat} (hfu : 8589934592 ≤ fu) (r0 s : z_M) (c : z_CI s) (f : z_Fr R_X12_unit_309 r0 s) (a1 : Int) (a2 : Int) (t1 : Int) (b1 : -2147483648 ≤ a1 ∧ a1 ≤ 2147483647) (b2 : -2147483648 ≤ a2 ∧ a2 ≤ 2147483647) (d1 : 0 ≤ t1 ∧ t1 ≤ 1) (p0 : t1 = 1 ∨ (0 ≤ a1 ∧ a1 < s 309 20)) (p1 : y_TA s) (p2 : y_DD s) (p3 : y_B s) (p4 : y_K s) (p5 : y_KM s) (p6 : y_YM s) : z_T (fX12_unit_J19 fu s 309 a1 a2 309 t1) (P_X12_unit_309Y r0) := by
  refine T_of (fX12_unit_J19.eq_1 ..) ?_
  have u1 := CI_b c (k := 309) (j := 20) bd_309_20
  have u2 := CI_b c (k := 309) (j := 36) bd_309_36
  have u3 := CI_b c (k := 309) (j := 43) bd_309_43
  have u4 := CI_b c (k := 309) (j := 44) bd_309_44
  have u5 := CI_b c (k := 309) (j := 58) bd_309_58
  have u6 := CI_b c (k := 316) (j := 0) bd_316_0
  have u7 := CI_b c (k := 329) (j := 0) bd_329_0
  have u8 := CI_b c (k := 329) (j := 1) bd_329_1
  have t9 : s 309 20 = r0 309 20 := f 309 20 (by decide)
  have t10 : s 316 0 = r0 316 0 := f 316 0 (by decide)
  have t11 : s 329 0 = r0 329 0 := f 329 0 (by decide)
  have t12 : s 329 1 = r0 329 1 := f 329 1 (by decide)
  refine T_if1 (by decide +kernel) ?_
  refine T_useI (sf_X12_bad_309 hfu s c t1 1 0 (by omega) (by omega) (by omega) (by omega)) (fun v18 s13 hq => ?_)
  obtain ⟨c14, f15, o19, ⟨x17, rfl, b20, b21, o22, o23⟩⟩ := hq
  refine T_vI ?_
  have f16 := z_Fr.tr (R := R_X12_unit_309) f f15 rs_X12_bad_309__X12_unit_309
  have t24 : s13 309 20 = s 309 20 := f15 309 20 (by decide)
  have t25 : s13 309 36 = s 309 36 := f15 309 36 (by decide)
  have t26 : s13 309 43 = s 309 43 := f15 309 43 (by decide)
  have t27 : s13 309 44 = s 309 44 := f15 309 44 (by decide)
  have t28 : s13 309 58 = s 309 58 := f15 309 58 (by decide)
  have t29 : s13 316 0 = s 316 0 := f15 316 0 (by decide)
  have t30 : s13 329 0 = s 329 0 := f15 329 0 (by decide)
  have t31 : s13 329 1 = s 329 1 := f15 329 1 (by decide)
  have r32 := y_TA.fr p1 (fun a b h => f15 a b (nz_X12_bad_309__316_328 a b h)) (fun a b h => f15 a b (nz_X12_bad_309__346_358 a b h)) (fun a b h => f15 a b (nz_X12_bad_309__361_373 a b h))
  have r33 := y_DD.fr p2 (f15 329 0 (by decide)) (f15 329 1 (by decide)) (fun b => f15 359 b (nr_X12_bad_309__359 b)) (fun b => f15 374 b (nr_X12_bad_309__374 b))
  have r34 := y_B.fr p3 (f15 309 20 (by decide)) (f15 316 0 (by decide)) (fun b => f15 3220 b (nr_X12_bad_309__3220 b)) (fun b => f15 3221 b (nr_X12_bad_309__3221 b)) (fun b => f15 3222 b (nr_X12_bad_309__3222 b)) (fun b => f15 361 b (nr_X12_bad_309__361 b))
  have r35 := y_K.fr p4 (by omega) (by omega) (f15 309 44 (by decide)) (f15 309 20 (by decide)) (f15 309 58 (by decide)) (fun b => f15 3438 b (nr_X12_bad_309__3438 b)) (fun b => f15 3220 b (nr_X12_bad_309__3220 b)) (fun a b h => f15 a b (nz_X12_bad_309__3452_3651 a b h))
  have r36 := y_KM.fr p5 (f15 309 20 (by decide)) (f15 309 36 (by decide)) (f15 309 38 (by decide)) (f15 309 39 (by decide)) (fun b => f15 312 b (nr_X12_bad_309__312 b)) (fun b => f15 331 b (nr_X12_bad_309__331 b)) (fun b => f15 346 b (nr_X12_bad_309__346 b)) (fun b => f15 361 b (nr_X12_bad_309__361 b)) (fun b => f15 391 b (nr_X12_bad_309__391 b)) (fun a b h => f15 a b (nz_X12_bad_309__407_606 a b h)) (fun a b h => f15 a b (nz_X12_bad_309__3220_3223 a b h)) (fun a b h => f15 a b (nz_X12_bad_309__3235_3437 a b h))
  have r37 := y_YM.fr p6 (by omega) (f15 309 44 (by decide)) (f15 309 20 (by decide)) (f15 309 58 (by decide)) (fun b => f15 312 b (nr_X12_bad_309__312 b)) (fun b => f15 331 b (nr_X12_bad_309__331 b)) (fun b => f15 346 b (nr_X12_bad_309__346 b)) (fun b => f15 361 b (nr_X12_bad_309__361 b)) (fun b => f15 391 b (nr_X12_bad_309__391 b)) (fun a b h => f15 a b (nz_X12_bad_309__407_606 a b h)) (fun a b h => f15 a b (nz_X12_bad_309__3220_3223 a b h)) (fun b => f15 3438 b (nr_X12_bad_309__3438 b)) (fun a b h => f15 a b (nz_X12_bad_309__3441_3450 a b h)) (fun a b h => f15 a b (nz_X12_bad_309__3452_3651 a b h))
  refine T_ite (fun h38 => ?_) (fun h38 => ?_)
  · exact sj_X12_unit_309Y_J51 hfu r0 s13 c14 f16 r32 (by first | exact r33 | exact y_DD.z (by omega) (by omega)) r34 (by first | exact r35 | exact y_K.b0 (by omega) | exact y_K.k0 (by omega) | exact y_K.bk (by omega)) (by first | exact r36 | exact y_KM.z (by omega)) (by first | exact r37 | exact y_YM.b0 (by omega) | exact y_YM.k0 (by omega) | exact y_YM.bk (by omega))
  · refine T_useI (sf_X12_in hfu s13 c14 a2 0 7 (by omega) (by omega) (by omega)) (fun v44 s39 hq => ?_)
    obtain ⟨c40, f41, ⟨x43, rfl, b45, b46, o47⟩⟩ := hq
    refine T_vI ?_
    have q48 := z_Fr.eq (fun a b h => h) f41
    subst q48
    refine T_ite (fun h49 => ?_) (fun h49 => ?_)
    · exact sj_X12_unit_309Y_J43 hfu r0 s13 c14 f16 a1 a2 0 (by omega) (by omega) (by omega) (by omega) (by omega) r32 (by first | exact r33 | exact y_DD.z (by omega) (by omega)) r34 (by first | exact r35 | exact y_K.b0 (by omega) | exact y_K.k0 (by omega) | exact y_K.bk (by omega)) (by first | exact r36 | exact y_KM.z (by omega)) (by first | exact r37 | exact y_YM.b0 (by omega) | exact y_YM.k0 (by omega) | exact y_YM.bk (by omega))
    · exact sj_X12_unit_309Y_J43 hfu r0 s13 c14 f16 a1 a2 1 (by omega) (by omega) (by omega) (by omega) (by omega) r32 (by first | exact r33 | exact y_DD.z (by omega) (by omega)) r34 (by first | exact r35 | exact y_K.b0 (by omega) | exact y_K.k0 (by omega) | exact y_K.bk (by omega)) (by first | exact r36 | exact y_KM.z (by omega)) (by first | exact r37 | exact y_YM.b0 (by omega) | exact y_YM.k0 (by omega) | exact y_YM.bk (by omega))
theorem sf_X12_unit_309Y {fu : Nat} (hfu : 8589934592 ≤ fu) (r0 : z_M) (c0 : z_CI r0) (a1 : Int) (a2 : Int) (b1 : -2147483648 ≤ a1 ∧ a1 ≤ 2147483647) (b2 : -2147483648 ≤ a2 ∧ a2 ≤ 2147483647) (p0 : y_TA r0) (p1 : y_DD r0) (p2 : y_B r0) (p3 : y_K r0) (p4 : y_KM r0) (p5 : y_YM r0) : z_T (fX12_unit fu r0 309 a1 a2) (P_X12_unit_309Y r0) := by
  refine T_of (fX12_unit.eq_1 ..) ?_
  have u1 := CI_b c0 (k := 309) (j := 20) bd_309_20
  have u2 := CI_b c0 (k := 309) (j := 36) bd_309_36
  have u3 := CI_b c0 (k := 309) (j := 43) bd_309_43
  have u4 := CI_b c0 (k := 309) (j := 44) bd_309_44
  have u5 := CI_b c0 (k := 309) (j := 58) bd_309_58
  have u6 := CI_b c0 (k := 316) (j := 0) bd_316_0
  have u7 := CI_b c0 (k := 329) (j := 0) bd_329_0
  have u8 := CI_b c0 (k := 329) (j := 1) bd_329_1
  refine T_if1 (by decide +kernel) ?_
  refine T_upg c0 bd_309_0 (by omega) (fun s9 c10 g12 g13 e14 => ?_)
  have f11 := z_Fr.upf (R := R_X12_unit_309) z_Fr.rf g12 g13 (Or.inr (Or.inr (⟨rfl, by decide⟩)))
  have t15 : s9 309 20 = r0 309 20 := g13 20 (by decide)
  have t16 : s9 309 36 = r0 309 36 := g13 36 (by decide)
  have t17 : s9 309 43 = r0 309 43 := g13 43 (by decide)
  have t18 : s9 309 44 = r0 309 44 := g13 44 (by decide)
  have t19 : s9 309 58 = r0 309 58 := g13 58 (by decide)
  have t20 : s9 316 0 = r0 316 0 := g12 316 0 (by decide)
  have t21 : s9 329 0 = r0 329 0 := g12 329 0 (by decide)
  have t22 : s9 329 1 = r0 329 1 := g12 329 1 (by decide)
  have r23 := y_TA.fr p0 (fun a b h => g12 a b (by omega)) (fun a b h => g12 a b (by omega)) (fun a b h => g12 a b (by omega))
  have r24 := y_DD.fr p1 (g12 329 0 (by decide)) (g12 329 1 (by decide)) (fun b => g12 359 b (by decide)) (fun b => g12 374 b (by decide))
  have r25 := y_B.fr p2 (g13 20 (by decide)) (g12 316 0 (by decide)) (fun b => g12 3220 b (by decide)) (fun b => g12 3221 b (by decide)) (fun b => g12 3222 b (by decide)) (fun b => g12 361 b (by decide))
  have r26 := y_K.fr p3 (by omega) (by omega) (g13 44 (by decide)) (g13 20 (by decide)) (g13 58 (by decide)) (fun b => g12 3438 b (by decide)) (fun b => g12 3220 b (by decide)) (fun a b h => g12 a b (by omega))
  have r27 := y_KM.fr p4 (g13 20 (by decide)) (g13 36 (by decide)) (g13 38 (by decide)) (g13 39 (by decide)) (fun b => g12 312 b (by decide)) (fun b => g12 331 b (by decide)) (fun b => g12 346 b (by decide)) (fun b => g12 361 b (by decide)) (fun b => g12 391 b (by decide)) (fun a b h => g12 a b (by omega)) (fun a b h => g12 a b (by omega)) (fun a b h => g12 a b (by omega))
  have r28 := y_YM.fr p5 (by omega) (g13 44 (by decide)) (g13 20 (by decide)) (g13 58 (by decide)) (fun b => g12 312 b (by decide)) (fun b => g12 331 b (by decide)) (fun b => g12 346 b (by decide)) (fun b => g12 361 b (by decide)) (fun b => g12 391 b (by decide)) (fun a b h => g12 a b (by omega)) (fun a b h => g12 a b (by omega)) (fun b => g12 3438 b (by decide)) (fun a b h => g12 a b (by omega)) (fun a b h => g12 a b (by omega))
  refine T_if1 (by decide +kernel) ?_
  refine T_useI (sf_X12_isUnit_309 hfu s9 c10 a1 (by omega)) (fun v34 s29 hq => ?_)
  obtain ⟨c30, f31, ⟨x33, rfl, b35, b36, o37⟩⟩ := hq
  refine T_vI ?_
  have q38 := z_Fr.eq (fun a b h => h) f31
  subst q38
  refine T_ite (fun h39 => ?_) (fun h39 => ?_)
  · exact sj_X12_unit_309Y_J19 hfu r0 s9 c10 f11 a1 a2 0 (by omega) (by omega) (by omega) (by omega) r23 (by first | exact r24 | exact y_DD.z (by omega) (by omega)) r25 (by first | exact r26 | exact y_K.b0 (by omega) | exact y_K.k0 (by omega) | exact y_K.bk (by omega)) (by first | exact r27 | exact y_KM.z (by omega)) (by first | exact r28 | exact y_YM.b0 (by omega) | exact y_YM.k0 (by omega) | exact y_YM.bk (by omega))
  · exact sj_X12_unit_309Y_J19 hfu r0 s9 c10 f11 a1 a2 1 (by omega) (by omega) (by omega) (by omega) r23 (by first | exact r24 | exact y_DD.z (by omega) (by omega)) r25 (by first | exact r26 | exact y_K.b0 (by omega) | exact y_K.k0 (by omega) | exact y_K.bk (by omega)) (by first | exact r27 | exact y_KM.z (by omega)) (by first | exact r28 | exact y_YM.b0 (by omega) | exact y_YM.k0 (by omega) | exact y_YM.bk (by omega))
abbrev P_X12_sign_309Y (r0 : z_M) : z_V → z_M → Prop := fun v s' => z_CI s' ∧ z_Fr R_X12_sign_309 r0 s' ∧ (y_TA s') ∧ (y_DD s') ∧ (y_B s') ∧ (y_K s') ∧ (y_KM s') ∧ (y_YM s') ∧ (∃ x, v = vI x ∧ -2147483648 ≤ x ∧ x ≤ 2147483647)
theorem sj_X12_sign_309Y_J61 {fu : Nat} (hfu : 8589934592 ≤ fu) (r0 s : z_M) (c : z_CI s) (f : z_Fr R_X12_sign_309 r0 s) (p0 : y_TA s) (p1 : y_DD s) (p2 : y_B s) (p3 : y_K s) (p4 : y_KM s) (p5 : y_YM s) : z_T (fX12_sign_J61 fu s) (P_X12_sign_309Y r0) := by
  refine T_of (fX12_sign_J61.eq_1 ..) ?_
  have u1 := CI_b c (k := 309) (j := 20) bd_309_20
  have u2 := CI_b c (k := 309) (j := 36) bd_309_36
  have u3 := CI_b c (k := 309) (j := 43) bd_309_43
  have u4 := CI_b c (k := 309) (j := 44) bd_309_44
  have u5 := CI_b c (k := 309) (j := 58) bd_309_58
  have u6 := CI_b c (k := 316) (j := 0) bd_316_0
  have u7 := CI_b c (k := 329) (j := 0) bd_329_0
  have u8 := CI_b c (k := 329) (j := 1) bd_329_1
  have t9 : s 309 20 = r0 309 20 := f 309 20 (by decide)
  have t10 : s 316 0 = r0 316 0 := f 316 0 (by decide)
  have t11 : s 329 0 = r0 329 0 := f 329 0 (by decide)
  have t12 : s 329 1 = r0 329 1 := f 329 1 (by decide)
  exact T_ret ⟨c, f, p0, (by first | exact p1 | exact y_DD.z (by omega) (by omega)), p2, (by first | exact p3 | exact y_K.b0 (by omega) | exact y_K.k0 (by omega) | exact y_K.bk (by omega)), (by first | exact p4 | exact y_KM.z (by omega)), (by first | exact p5 | exact y_YM.b0 (by omega) | exact y_YM.k0 (by omega) | exact y_YM.bk (by omega)), ⟨0, rfl, by omega, by omega⟩⟩
theorem sj_X12_sign_309Y_J152 {fu : Nat} (hfu : 8589934592 ≤ fu) (r0 s : z_M) (c : z_CI s) (f : z_Fr R_X12_sign_309 r0 s) (t0 : Int) (d0 : 0 ≤ t0 ∧ t0 ≤ 1) (p0 : y_TA s) (p1 : y_DD s) (p2 : y_B s) (p3 : y_K s) (p4 : y_KM s) (p5 : y_YM s) : z_T (fX12_sign_J152 fu s t0) (P_X12_sign_309Y r0) := by
  refine T_of (fX12_sign_J152.eq_1 ..) ?_
  have u1 := CI_b c (k := 309) (j := 20) bd_309_20
  have u2 := CI_b c (k := 309) (j := 36) bd_309_36
  have u3 := CI_b c (k := 309) (j := 43) bd_309_43
  have u4 := CI_b c (k := 309) (j := 44) bd_309_44
  have u5 := CI_b c (k := 309) (j := 58) bd_309_58
  have u6 := CI_b c (k := 316) (j := 0) bd_316_0
  have u7 := CI_b c (k := 329) (j := 0) bd_329_0
  have u8 := CI_b c (k := 329) (j := 1) bd_329_1
  have t9 : s 309 20 = r0 309 20 := f 309 20 (by decide)
  have t10 : s 316 0 = r0 316 0 := f 316 0 (by decide)
  have t11 : s 329 0 = r0 329 0 := f 329 0 (by decide)
  have t12 : s 329 1 = r0 329 1 := f 329 1 (by decide)
  exact T_ret ⟨c, f, p0, (by first | exact p1 | exact y_DD.z (by omega) (by omega)), p2, (by first | exact p3 | exact y_K.b0 (by omega) | exact y_K.k0 (by omega) | exact y_K.bk (by omega)), (by first | exact p4 | exact y_KM.z (by omega)), (by first | exact p5 | exact y_YM.b0 (by omega) | exact y_YM.k0 (by omega) | exact y_YM.bk (by omega)), ⟨t0, rfl, by omega, by omega⟩⟩
set_option maxHeartbeats 4000000 in
theorem sj_X12_sign_309Y_J53 {fu : Nat} (hfu : 8589934592 ≤ fu) (r0 s : z_M) (c : z_CI s) (f : z_Fr R_X12_sign_309 r0 s) (a1 : Int) (a2 : Int) (t1 : Int) (b1 : -2147483648 ≤ a1 ∧ a1 ≤ 2147483647) (b2 : -2147483648 ≤ a2 ∧ a2 ≤ 2147483647) (d1 : 0 ≤ t1 ∧ t1 ≤ 1) (p0 : 0 ≤ a1 ∧ a1 < s 316 0) (p1 : t1 = 1 ∨ (0 ≤ a2 ∧ a2 ≤ 6)) (p2 : y_TA s) (p3 : y_DD s) (p4 : y_B s) (p5 : y_K s) (p6 : y_KM s) (p7 : y_YM s) : z_T (fX12_sign_J53 fu s 309 a1 a2 309 t1) (P_X12_sign_309Y r0) := by
  refine T_of (fX12_sign_J53.eq_1 ..) ?_
  have u1 := CI_b c (k := 309) (j := 20) bd_309_20
  have u2 := CI_b c (k := 309) (j := 36) bd_309_36
  have u3 := CI_b c (k := 309) (j := 43) bd_309_43
  have u4 := CI_b c (k := 309) (j := 44) bd_309_44
  have u5 := CI_b c (k := 309) (j := 58) bd_309_58
  have u6 := CI_b c (k := 316) (j := 0) bd_316_0
  have u7 := CI_b c (k := 329) (j := 0) bd_329_0
  have u8 := CI_b c (k := 329) (j := 1) bd_329_1
  have t9 : s 309 20 = r0 309 20 := f 309 20 (by decide)
  have t10 : s 316 0 = r0 316 0 := f 316 0 (by decide)
  have t11 : s 329 0 = r0 329 0 := f 329 0 (by decide)
  have t12 : s 329 1 = r0 329 1 := f 329 1 (by decide)
  refine T_if1 (by decide +kernel) ?_
  refine T_useI (sf_X12_bad_309 hfu s c t1 2 1 (by omega) (by omega) (by omega) (by omega)) (fun v18 s13 hq => ?_)
  obtain ⟨c14, f15, o19, ⟨x17, rfl, b20, b21, o22, o23⟩⟩ := hq
  refine T_vI ?_
  have f16 := z_Fr.tr (R := R_X12_sign_309) f f15 rs_X12_bad_309__X12_sign_309
  have t24 : s13 309 20 = s 309 20 := f15 309 20 (by decide)
  have t25 : s13 309 36 = s 309 36 := f15 309 36 (by decide)
  have t26 : s13 309 43 = s 309 43 := f15 309 43 (by decide)
  have t27 : s13 309 44 = s 309 44 := f15 309 44 (by decide)
  have t28 : s13 309 58 = s 309 58 := f15 309 58 (by decide)
  have t29 : s13 316 0 = s 316 0 := f15 316 0 (by decide)
  have t30 : s13 329 0 = s 329 0 := f15 329 0 (by decide)
  have t31 : s13 329 1 = s 329 1 := f15 329 1 (by decide)
  have r32 := y_TA.fr p2 (fun a b h => f15 a b (nz_X12_bad_309__316_328 a b h)) (fun a b h => f15 a b (nz_X12_bad_309__346_358 a b h)) (fun a b h => f15 a b (nz_X12_bad_309__361_373 a b h))
  have r33 := y_DD.fr p3 (f15 329 0 (by decide)) (f15 329 1 (by decide)) (fun b => f15 359 b (nr_X12_bad_309__359 b)) (fun b => f15 374 b (nr_X12_bad_309__374 b))
  have r34 := y_B.fr p4 (f15 309 20 (by decide)) (f15 316 0 (by decide)) (fun b => f15 3220 b (nr_X12_bad_309__3220 b)) (fun b => f15 3221 b (nr_X12_bad_309__3221 b)) (fun b => f15 3222 b (nr_X12_bad_309__3222 b)) (fun b => f15 361 b (nr_X12_bad_309__361 b))
  have r35 := y_K.fr p5 (by omega) (by omega) (f15 309 44 (by decide)) (f15 309 20 (by decide)) (f15 309 58 (by decide)) (fun b => f15 3438 b (nr_X12_bad_309__3438 b)) (fun b => f15 3220 b (nr_X12_bad_309__3220 b)) (fun a b h => f15 a b (nz_X12_bad_309__3452_3651 a b h))
  have r36 := y_KM.fr p6 (f15 309 20 (by decide)) (f15 309 36 (by decide)) (f15 309 38 (by decide)) (f15 309 39 (by decide)) (fun b => f15 312 b (nr_X12_bad_309__312 b)) (fun b => f15 331 b (nr_X12_bad_309__331 b)) (fun b => f15 346 b (nr_X12_bad_309__346 b)) (fun b => f15 361 b (nr_X12_bad_309__361 b)) (fun b => f15 391 b (nr_X12_bad_309__391 b)) (fun a b h => f15 a b (nz_X12_bad_309__407_606 a b h)) (fun a b h => f15 a b (nz_X12_bad_309__3220_3223 a b h)) (fun a b h => f15 a b (nz_X12_bad_309__3235_3437 a b h))
  have r37 := y_YM.fr p7 (by omega) (f15 309 44 (by decide)) (f15 309 20 (by decide)) (f15 309 58 (by decide)) (fun b => f15 312 b (nr_X12_bad_309__312 b)) (fun b => f15 331 b (nr_X12_bad_309__331 b)) (fun b => f15 346 b (nr_X12_bad_309__346 b)) (fun b => f15 361 b (nr_X12_bad_309__361 b)) (fun b => f15 391 b (nr_X12_bad_309__391 b)) (fun a b h => f15 a b (nz_X12_bad_309__407_606 a b h)) (fun a b h => f15 a b (nz_X12_bad_309__3220_3223 a b h)) (fun b => f15 3438 b (nr_X12_bad_309__3438 b)) (fun a b h => f15 a b (nz_X12_bad_309__3441_3450 a b h)) (fun a b h => f15 a b (nz_X12_bad_309__3452_3651 a b h))
  refine T_ite (fun h38 => ?_) (fun h38 => ?_)
  · refine T_if1 (by decide +kernel) ?_
    refine T_useN (sf_X12_laysAll_309Y hfu s13 c14 r34 (by first | exact r35 | exact y_K.b0 (by omega) | exact y_K.k0 (by omega) | exact y_K.bk (by omega)) (by first | exact r36 | exact y_KM.z (by omega)) (by first | exact r37 | exact y_YM.b0 (by omega) | exact y_YM.k0 (by omega) | exact y_YM.bk (by omega))) (fun v44 s39 hq => ?_)
    obtain ⟨c40, f41, o45, o46, o47, o48, o49, o50, o51, o52, rfl⟩ := hq
    refine T_vN ?_
    have f42 := z_Fr.tr (R := R_X12_sign_309) f16 f41 rs_X12_laysAll_309__X12_sign_309
    have t55 : s39 309 20 = s 309 20 := (f41 309 20 (by decide)).trans t24
    have t56 : s39 316 0 = s 316 0 := (f41 316 0 (by decide)).trans t29
    have t57 : s39 329 0 = s 329 0 := (f41 329 0 (by decide)).trans t30
    have t58 : s39 329 1 = s 329 1 := (f41 329 1 (by decide)).trans t31
    have u59 := CI_b c40 (k := 309) (j := 36) bd_309_36
    have u60 := CI_b c40 (k := 309) (j := 43) bd_309_43
    have u61 := CI_b c40 (k := 309) (j := 44) bd_309_44
    have u62 := CI_b c40 (k := 309) (j := 58) bd_309_58
    have r63 := y_TA.fr r32 (fun a b h => f41 a b (nz_X12_laysAll_309__316_328 a b h)) (fun a b h => f41 a b (nz_X12_laysAll_309__346_358 a b h)) (fun a b h => f41 a b (nz_X12_laysAll_309__361_373 a b h))
    have r64 := y_DD.fr r33 (f41 329 0 (by decide)) (f41 329 1 (by decide)) (fun b => f41 359 b (nr_X12_laysAll_309__359 b)) (fun b => f41 374 b (nr_X12_laysAll_309__374 b))
    have r65 := y_B.fr r34 (f41 309 20 (by decide)) (f41 316 0 (by decide)) (fun b => f41 3220 b (nr_X12_laysAll_309__3220 b)) (fun b => f41 3221 b (nr_X12_laysAll_309__3221 b)) (fun b => f41 3222 b (nr_X12_laysAll_309__3222 b)) (fun b => f41 361 b (nr_X12_laysAll_309__361 b))
    clear t24
    clear t29
    clear t30
    clear t31
    refine T_ite (fun h66 => ?_) (fun h66 => ?_)
    · refine T_if1 (by decide +kernel) ?_
      refine T_let 330 (by decide +kernel) ?_
      refine T_if1 (z_ixl (n := 14) (by decide +kernel) (by omega) (by omega)) ?_
      refine T_let 331 (by decide +kernel) ?_
      refine T_if1 (z_ixl (n := 200) (by decide +kernel) (by omega) (by omega)) ?_
      refine T_leq (fun x67 e68 => ?_)
      have u69 := CI_b c40 (k := 331) (j := a1) (bdr_331 a1)
      exact T_ret ⟨c40, f42, r63, (by first | exact r64 | exact y_DD.z (by omega) (by omega)), r65, (by first | exact o45 | exact y_K.b0 (by omega) | exact y_K.k0 (by omega) | exact y_K.bk (by omega) | exact y_K.mk o46 (by omega) o47), (by first | exact o51 | exact y_KM.z (by omega)), (by first | exact o52 | exact y_YM.b0 (by omega) | exact y_YM.k0 (by omega) | exact y_YM.bk (by omega)), ⟨x67, rfl, by omega, by omega⟩⟩
    · refine T_ite (fun h70 => ?_) (fun h70 => ?_)
      · refine T_if1 (by decide +kernel) ?_
        refine T_let 3223 (by decide +kernel) ?_
        refine T_if1 (z_ixl (n := 200) (by decide +kernel) (by omega) (by omega)) ?_
        refine T_leq (fun x71 e72 => ?_)
        have u73 := CI_b c40 (k := 3223) (j := a1) (bdr_3223 a1)
        exact T_ret ⟨c40, f42, r63, (by first | exact r64 | exact y_DD.z (by omega) (by omega)), r65, (by first | exact o45 | exact y_K.b0 (by omega) | exact y_K.k0 (by omega) | exact y_K.bk (by omega) | exact y_K.mk o46 (by omega) o47), (by first | exact o51 | exact y_KM.z (by omega)), (by first | exact o52 | exact y_YM.b0 (by omega) | exact y_YM.k0 (by omega) | exact y_YM.bk (by omega)), ⟨x71, rfl, by omega, by omega⟩⟩
      · refine T_ite (fun h74 => ?_) (fun h74 => ?_)
        · refine T_if1 (by decide +kernel) ?_
          refine T_let 3441 (by decide +kernel) ?_
          refine T_if1 (by decide +kernel) ?_
          refine T_let 3223 (by decide +kernel) ?_
          refine T_if1 (z_ixl (n := 200) (by decide +kernel) (by omega) (by omega)) ?_
          refine T_leq (fun x75 e76 => ?_)
          have u77 := CI_b c40 (k := 3223) (j := a1) (bdr_3223 a1)
          refine T_if1 (z_ixl (n := 200) (by decide +kernel) (by omega) (by omega)) ?_
          refine T_leq (fun x78 e79 => ?_)
          have u80 := CI_b c40 (k := 3441) (j := x75) (bdr_3441 x75)
          exact T_ret ⟨c40, f42, r63, (by first | exact r64 | exact y_DD.z (by omega) (by omega)), r65, (by first | exact o45 | exact y_K.b0 (by omega) | exact y_K.k0 (by omega) | exact y_K.bk (by omega) | exact y_K.mk o46 (by omega) o47), (by first | exact o51 | exact y_KM.z (by omega)), (by first | exact o52 | exact y_YM.b0 (by omega) | exact y_YM.k0 (by omega) | exact y_YM.bk (by omega)), ⟨x78, rfl, by omega, by omega⟩⟩
        · refine T_ite (fun h81 => ?_) (fun h81 => ?_)
          · refine T_if1 (by decide +kernel) ?_
            refine T_let 3443 (by decide +kernel) ?_
            refine T_if1 (z_ixl (n := 200) (by decide +kernel) (by omega) (by omega)) ?_
            refine T_leq (fun x82 e83 => ?_)
            have u84 := CI_b c40 (k := 3443) (j := a1) (bdr_3443 a1)
            exact T_ret ⟨c40, f42, r63, (by first | exact r64 | exact y_DD.z (by omega) (by omega)), r65, (by first | exact o45 | exact y_K.b0 (by omega) | exact y_K.k0 (by omega) | exact y_K.bk (by omega) | exact y_K.mk o46 (by omega) o47), (by first | exact o51 | exact y_KM.z (by omega)), (by first | exact o52 | exact y_YM.b0 (by omega) | exact y_YM.k0 (by omega) | exact y_YM.bk (by omega)), ⟨x82, rfl, by omega, by omega⟩⟩
          · refine T_ite (fun h85 => ?_) (fun h85 => ?_)
            · refine T_if1 (by decide +kernel) ?_
              refine T_useI (sf_X12_isTurned_309 hfu s39 c40 a1 (by omega)) (fun v91 s86 hq => ?_)
              obtain ⟨c87, f88, ⟨x90, rfl, b92, b93⟩⟩ := hq
              refine T_vI ?_
              have q94 := z_Fr.eq (fun a b h => h) f88
              subst q94
              refine T_ite (fun h95 => ?_) (fun h95 => ?_)
              · exact sj_X12_sign_309Y_J152 hfu r0 s39 c40 f42 0 (by omega) r63 (by first | exact r64 | exact y_DD.z (by omega) (by omega)) r65 (by first | exact o45 | exact y_K.b0 (by omega) | exact y_K.k0 (by omega) | exact y_K.bk (by omega) | exact y_K.mk o46 (by omega) o47) (by first | exact o51 | exact y_KM.z (by omega)) (by first | exact o52 | exact y_YM.b0 (by omega) | exact y_YM.k0 (by omega) | exact y_YM.bk (by omega))
              · exact sj_X12_sign_309Y_J152 hfu r0 s39 c40 f42 1 (by omega) r63 (by first | exact r64 | exact y_DD.z (by omega) (by omega)) r65 (by first | exact o45 | exact y_K.b0 (by omega) | exact y_K.k0 (by omega) | exact y_K.bk (by omega) | exact y_K.mk o46 (by omega) o47) (by first | exact o51 | exact y_KM.z (by omega)) (by first | exact o52 | exact y_YM.b0 (by omega) | exact y_YM.k0 (by omega) | exact y_YM.bk (by omega))
            · refine T_if1 (by decide +kernel) ?_
              refine T_useI (sf_X12_marksOf_309 hfu s39 c40 a1 (by omega) r63 (by omega)) (fun v101 s96 hq => ?_)
              obtain ⟨c97, f98, ⟨x100, rfl, b102, b103⟩⟩ := hq
              refine T_vI ?_
              have q104 := z_Fr.eq (fun a b h => h) f98
              subst q104
              refine T_leq (fun x105 e106 => ?_)
              first | (have w107 := z_wx e106 (by omega)) | (have w107 := z_wr e106)
              refine T_leq (fun x108 e109 => ?_)
              have w110 : -2147483648 ≤ x108 ∧ x108 ≤ 2147483647 := by rw [← e109]; exact z_i32b _
              refine T_leq (fun x111 e112 => ?_)
              have w113 : -2147483648 ≤ x111 ∧ x111 ≤ 2147483647 := by rw [← e112]; exact z_i32b _
              exact T_ret ⟨c40, f42, r63, (by first | exact r64 | exact y_DD.z (by omega) (by omega)), r65, (by first | exact o45 | exact y_K.b0 (by omega) | exact y_K.k0 (by omega) | exact y_K.bk (by omega) | exact y_K.mk o46 (by omega) o47), (by first | exact o51 | exact y_KM.z (by omega)), (by first | exact o52 | exact y_YM.b0 (by omega) | exact y_YM.k0 (by omega) | exact y_YM.bk (by omega)), ⟨x111, rfl, by omega, by omega⟩⟩
  · exact sj_X12_sign_309Y_J61 hfu r0 s13 c14 f16 r32 (by first | exact r33 | exact y_DD.z (by omega) (by omega)) r34 (by first | exact r35 | exact y_K.b0 (by omega) | exact y_K.k0 (by omega) | exact y_K.bk (by omega)) (by first | exact r36 | exact y_KM.z (by omega)) (by first | exact r37 | exact y_YM.b0 (by omega) | exact y_YM.k0 (by omega) | exact y_YM.bk (by omega))
theorem sj_X12_sign_309Y_J29 {fu : Nat} (hfu : 8589934592 ≤ fu) (r0 s : z_M) (c : z_CI s) (f : z_Fr R_X12_sign_309 r0 s) (a1 : Int) (a2 : Int) (t1 : Int) (b1 : -2147483648 ≤ a1 ∧ a1 ≤ 2147483647) (b2 : -2147483648 ≤ a2 ∧ a2 ≤ 2147483647) (d1 : 0 ≤ t1 ∧ t1 ≤ 1) (p0 : t1 = 1 ∨ (0 ≤ a1 ∧ a1 < s 316 0)) (p1 : y_TA s) (p2 : y_DD s) (p3 : y_B s) (p4 : y_K s) (p5 : y_KM s) (p6 : y_YM s) : z_T (fX12_sign_J29 fu s 309 a1 a2 309 t1) (P_X12_sign_309Y r0) := by
  refine T_of (fX12_sign_J29.eq_1 ..) ?_
  have u1 := CI_b c (k := 309) (j := 20) bd_309_20
  have u2 := CI_b c (k := 309) (j := 36) bd_309_36
  have u3 := CI_b c (k := 309) (j := 43) bd_309_43
  have u4 := CI_b c (k := 309) (j := 44) bd_309_44
  have u5 := CI_b c (k := 309) (j := 58) bd_309_58
  have u6 := CI_b c (k := 316) (j := 0) bd_316_0
  have u7 := CI_b c (k := 329) (j := 0) bd_329_0
  have u8 := CI_b c (k := 329) (j := 1) bd_329_1
  have t9 : s 309 20 = r0 309 20 := f 309 20 (by decide)
  have t10 : s 316 0 = r0 316 0 := f 316 0 (by decide)
  have t11 : s 329 0 = r0 329 0 := f 329 0 (by decide)
  have t12 : s 329 1 = r0 329 1 := f 329 1 (by decide)
  refine T_if1 (by decide +kernel) ?_
  refine T_useI (sf_X12_bad_309 hfu s c t1 1 0 (by omega) (by omega) (by omega) (by omega)) (fun v18 s13 hq => ?_)
  obtain ⟨c14, f15, o19, ⟨x17, rfl, b20, b21, o22, o23⟩⟩ := hq
  refine T_vI ?_
  have f16 := z_Fr.tr (R := R_X12_sign_309) f f15 rs_X12_bad_309__X12_sign_309
  have t24 : s13 309 20 = s 309 20 := f15 309 20 (by decide)
  have t25 : s13 309 36 = s 309 36 := f15 309 36 (by decide)
  have t26 : s13 309 43 = s 309 43 := f15 309 43 (by decide)
  have t27 : s13 309 44 = s 309 44 := f15 309 44 (by decide)
  have t28 : s13 309 58 = s 309 58 := f15 309 58 (by decide)
  have t29 : s13 316 0 = s 316 0 := f15 316 0 (by decide)
  have t30 : s13 329 0 = s 329 0 := f15 329 0 (by decide)
  have t31 : s13 329 1 = s 329 1 := f15 329 1 (by decide)
  have r32 := y_TA.fr p1 (fun a b h => f15 a b (nz_X12_bad_309__316_328 a b h)) (fun a b h => f15 a b (nz_X12_bad_309__346_358 a b h)) (fun a b h => f15 a b (nz_X12_bad_309__361_373 a b h))
  have r33 := y_DD.fr p2 (f15 329 0 (by decide)) (f15 329 1 (by decide)) (fun b => f15 359 b (nr_X12_bad_309__359 b)) (fun b => f15 374 b (nr_X12_bad_309__374 b))
  have r34 := y_B.fr p3 (f15 309 20 (by decide)) (f15 316 0 (by decide)) (fun b => f15 3220 b (nr_X12_bad_309__3220 b)) (fun b => f15 3221 b (nr_X12_bad_309__3221 b)) (fun b => f15 3222 b (nr_X12_bad_309__3222 b)) (fun b => f15 361 b (nr_X12_bad_309__361 b))
  have r35 := y_K.fr p4 (by omega) (by omega) (f15 309 44 (by decide)) (f15 309 20 (by decide)) (f15 309 58 (by decide)) (fun b => f15 3438 b (nr_X12_bad_309__3438 b)) (fun b => f15 3220 b (nr_X12_bad_309__3220 b)) (fun a b h => f15 a b (nz_X12_bad_309__3452_3651 a b h))
  have r36 := y_KM.fr p5 (f15 309 20 (by decide)) (f15 309 36 (by decide)) (f15 309 38 (by decide)) (f15 309 39 (by decide)) (fun b => f15 312 b (nr_X12_bad_309__312 b)) (fun b => f15 331 b (nr_X12_bad_309__331 b)) (fun b => f15 346 b (nr_X12_bad_309__346 b)) (fun b => f15 361 b (nr_X12_bad_309__361 b)) (fun b => f15 391 b (nr_X12_bad_309__391 b)) (fun a b h => f15 a b (nz_X12_bad_309__407_606 a b h)) (fun a b h => f15 a b (nz_X12_bad_309__3220_3223 a b h)) (fun a b h => f15 a b (nz_X12_bad_309__3235_3437 a b h))
  have r37 := y_YM.fr p6 (by omega) (f15 309 44 (by decide)) (f15 309 20 (by decide)) (f15 309 58 (by decide)) (fun b => f15 312 b (nr_X12_bad_309__312 b)) (fun b => f15 331 b (nr_X12_bad_309__331 b)) (fun b => f15 346 b (nr_X12_bad_309__346 b)) (fun b => f15 361 b (nr_X12_bad_309__361 b)) (fun b => f15 391 b (nr_X12_bad_309__391 b)) (fun a b h => f15 a b (nz_X12_bad_309__407_606 a b h)) (fun a b h => f15 a b (nz_X12_bad_309__3220_3223 a b h)) (fun b => f15 3438 b (nr_X12_bad_309__3438 b)) (fun a b h => f15 a b (nz_X12_bad_309__3441_3450 a b h)) (fun a b h => f15 a b (nz_X12_bad_309__3452_3651 a b h))
  refine T_ite (fun h38 => ?_) (fun h38 => ?_)
  · exact sj_X12_sign_309Y_J61 hfu r0 s13 c14 f16 r32 (by first | exact r33 | exact y_DD.z (by omega) (by omega)) r34 (by first | exact r35 | exact y_K.b0 (by omega) | exact y_K.k0 (by omega) | exact y_K.bk (by omega)) (by first | exact r36 | exact y_KM.z (by omega)) (by first | exact r37 | exact y_YM.b0 (by omega) | exact y_YM.k0 (by omega) | exact y_YM.bk (by omega))
  · refine T_useI (sf_X12_in hfu s13 c14 a2 0 6 (by omega) (by omega) (by omega)) (fun v44 s39 hq => ?_)
    obtain ⟨c40, f41, ⟨x43, rfl, b45, b46, o47⟩⟩ := hq
    refine T_vI ?_
    have q48 := z_Fr.eq (fun a b h => h) f41
    subst q48
    refine T_ite (fun h49 => ?_) (fun h49 => ?_)
    · exact sj_X12_sign_309Y_J53 hfu r0 s13 c14 f16 a1 a2 0 (by omega) (by omega) (by omega) (by omega) (by omega) r32 (by first | exact r33 | exact y_DD.z (by omega) (by omega)) r34 (by first | exact r35 | exact y_K.b0 (by omega) | exact y_K.k0 (by omega) | exact y_K.bk (by omega)) (by first | exact r36 | exact y_KM.z (by omega)) (by first | exact r37 | exact y_YM.b0 (by omega) | exact y_YM.k0 (by omega) | exact y_YM.bk (by omega))
    · exact sj_X12_sign_309Y_J53 hfu r0 s13 c14 f16 a1 a2 1 (by omega) (by omega) (by omega) (by omega) (by omega) r32 (by first | exact r33 | exact y_DD.z (by omega) (by omega)) r34 (by first | exact r35 | exact y_K.b0 (by omega) | exact y_K.k0 (by omega) | exact y_K.bk (by omega)) (by first | exact r36 | exact y_KM.z (by omega)) (by first | exact r37 | exact y_YM.b0 (by omega) | exact y_YM.k0 (by omega) | exact y_YM.bk (by omega))
theorem sf_X12_sign_309Y {fu : Nat} (hfu : 8589934592 ≤ fu) (r0 : z_M) (c0 : z_CI r0) (a1 : Int) (a2 : Int) (b1 : -2147483648 ≤ a1 ∧ a1 ≤ 2147483647) (b2 : -2147483648 ≤ a2 ∧ a2 ≤ 2147483647) (p0 : y_TA r0) (p1 : y_DD r0) (p2 : y_B r0) (p3 : y_K r0) (p4 : y_KM r0) (p5 : y_YM r0) : z_T (fX12_sign fu r0 309 a1 a2) (P_X12_sign_309Y r0) := by
  refine T_of (fX12_sign.eq_1 ..) ?_
  have u1 := CI_b c0 (k := 309) (j := 20) bd_309_20
  have u2 := CI_b c0 (k := 309) (j := 36) bd_309_36
  have u3 := CI_b c0 (k := 309) (j := 43) bd_309_43
  have u4 := CI_b c0 (k := 309) (j := 44) bd_309_44
  have u5 := CI_b c0 (k := 309) (j := 58) bd_309_58
  have u6 := CI_b c0 (k := 316) (j := 0) bd_316_0
  have u7 := CI_b c0 (k := 329) (j := 0) bd_329_0
  have u8 := CI_b c0 (k := 329) (j := 1) bd_329_1
  refine T_if1 (by decide +kernel) ?_
  refine T_upg c0 bd_309_0 (by omega) (fun s9 c10 g12 g13 e14 => ?_)
  have f11 := z_Fr.upf (R := R_X12_sign_309) z_Fr.rf g12 g13 (Or.inr (Or.inr (⟨rfl, by decide⟩)))
  have t15 : s9 309 20 = r0 309 20 := g13 20 (by decide)
  have t16 : s9 309 36 = r0 309 36 := g13 36 (by decide)
  have t17 : s9 309 43 = r0 309 43 := g13 43 (by decide)
  have t18 : s9 309 44 = r0 309 44 := g13 44 (by decide)
  have t19 : s9 309 58 = r0 309 58 := g13 58 (by decide)
  have t20 : s9 316 0 = r0 316 0 := g12 316 0 (by decide)
  have t21 : s9 329 0 = r0 329 0 := g12 329 0 (by decide)
  have t22 : s9 329 1 = r0 329 1 := g12 329 1 (by decide)
  have r23 := y_TA.fr p0 (fun a b h => g12 a b (by omega)) (fun a b h => g12 a b (by omega)) (fun a b h => g12 a b (by omega))
  have r24 := y_DD.fr p1 (g12 329 0 (by decide)) (g12 329 1 (by decide)) (fun b => g12 359 b (by decide)) (fun b => g12 374 b (by decide))
  have r25 := y_B.fr p2 (g13 20 (by decide)) (g12 316 0 (by decide)) (fun b => g12 3220 b (by decide)) (fun b => g12 3221 b (by decide)) (fun b => g12 3222 b (by decide)) (fun b => g12 361 b (by decide))
  have r26 := y_K.fr p3 (by omega) (by omega) (g13 44 (by decide)) (g13 20 (by decide)) (g13 58 (by decide)) (fun b => g12 3438 b (by decide)) (fun b => g12 3220 b (by decide)) (fun a b h => g12 a b (by omega))
  have r27 := y_KM.fr p4 (g13 20 (by decide)) (g13 36 (by decide)) (g13 38 (by decide)) (g13 39 (by decide)) (fun b => g12 312 b (by decide)) (fun b => g12 331 b (by decide)) (fun b => g12 346 b (by decide)) (fun b => g12 361 b (by decide)) (fun b => g12 391 b (by decide)) (fun a b h => g12 a b (by omega)) (fun a b h => g12 a b (by omega)) (fun a b h => g12 a b (by omega))
  have r28 := y_YM.fr p5 (by omega) (g13 44 (by decide)) (g13 20 (by decide)) (g13 58 (by decide)) (fun b => g12 312 b (by decide)) (fun b => g12 331 b (by decide)) (fun b => g12 346 b (by decide)) (fun b => g12 361 b (by decide)) (fun b => g12 391 b (by decide)) (fun a b h => g12 a b (by omega)) (fun a b h => g12 a b (by omega)) (fun b => g12 3438 b (by decide)) (fun a b h => g12 a b (by omega)) (fun a b h => g12 a b (by omega))
  refine T_if1 (by decide +kernel) ?_
  refine T_let 315 (by decide +kernel) ?_
  refine T_if1 (z_ixl (n := 14) (by decide +kernel) (by omega) (by omega)) ?_
  refine T_let 316 (by decide +kernel) ?_
  refine T_if1 (z_ixl (n := 3) (by decide +kernel) (by omega) (by omega)) ?_
  refine T_leq (fun x29 e30 => ?_)
  have u31 := CI_b c10 (k := 316) (j := 0) bd_316_0
  refine T_leq (fun x32 e33 => ?_)
  first | (have w34 := z_wx e33 (by omega)) | (have w34 := z_wr e33)
  refine T_useI (sf_X12_in hfu s9 c10 a1 0 x32 (by omega) (by omega) (by omega)) (fun v40 s35 hq => ?_)
  obtain ⟨c36, f37, ⟨x39, rfl, b41, b42, o43⟩⟩ := hq
  refine T_vI ?_
  have q44 := z_Fr.eq (fun a b h => h) f37
  subst q44
  refine T_ite (fun h45 => ?_) (fun h45 => ?_)
  · exact sj_X12_sign_309Y_J29 hfu r0 s9 c10 f11 a1 a2 0 (by omega) (by omega) (by omega) (by omega) r23 (by first | exact r24 | exact y_DD.z (by omega) (by omega)) r25 (by first | exact r26 | exact y_K.b0 (by omega) | exact y_K.k0 (by omega) | exact y_K.bk (by omega)) (by first | exact r27 | exact y_KM.z (by omega)) (by first | exact r28 | exact y_YM.b0 (by omega) | exact y_YM.k0 (by omega) | exact y_YM.bk (by omega))
  · exact sj_X12_sign_309Y_J29 hfu r0 s9 c10 f11 a1 a2 1 (by omega) (by omega) (by omega) (by omega) r23 (by first | exact r24 | exact y_DD.z (by omega) (by omega)) r25 (by first | exact r26 | exact y_K.b0 (by omega) | exact y_K.k0 (by omega) | exact y_K.bk (by omega)) (by first | exact r27 | exact y_KM.z (by omega)) (by first | exact r28 | exact y_YM.b0 (by omega) | exact y_YM.k0 (by omega) | exact y_YM.bk (by omega))
abbrev P_X12_line_309Y (r0 : z_M) : z_V → z_M → Prop := fun v s' => z_CI s' ∧ z_Fr R_X12_line_309 r0 s' ∧ (y_TA s') ∧ (y_DD s') ∧ (y_B s') ∧ (y_K s') ∧ (y_KM s') ∧ (y_YM s') ∧ (∃ x, v = vI x ∧ -2147483648 ≤ x ∧ x ≤ 2147483647)
theorem sj_X12_line_309Y_J61 {fu : Nat} (hfu : 8589934592 ≤ fu) (r0 s : z_M) (c : z_CI s) (f : z_Fr R_X12_line_309 r0 s) (p0 : y_TA s) (p1 : y_DD s) (p2 : y_B s) (p3 : y_K s) (p4 : y_KM s) (p5 : y_YM s) : z_T (fX12_line_J61 fu s) (P_X12_line_309Y r0) := by
  refine T_of (fX12_line_J61.eq_1 ..) ?_
  have u1 := CI_b c (k := 309) (j := 20) bd_309_20
  have u2 := CI_b c (k := 309) (j := 36) bd_309_36
  have u3 := CI_b c (k := 309) (j := 43) bd_309_43
  have u4 := CI_b c (k := 309) (j := 44) bd_309_44
  have u5 := CI_b c (k := 309) (j := 58) bd_309_58
  have u6 := CI_b c (k := 316) (j := 0) bd_316_0
  have u7 := CI_b c (k := 329) (j := 0) bd_329_0
  have u8 := CI_b c (k := 329) (j := 1) bd_329_1
  have t9 : s 309 20 = r0 309 20 := f 309 20 (by decide)
  have t10 : s 316 0 = r0 316 0 := f 316 0 (by decide)
  have t11 : s 329 0 = r0 329 0 := f 329 0 (by decide)
  have t12 : s 329 1 = r0 329 1 := f 329 1 (by decide)
  exact T_ret ⟨c, f, p0, (by first | exact p1 | exact y_DD.z (by omega) (by omega)), p2, (by first | exact p3 | exact y_K.b0 (by omega) | exact y_K.k0 (by omega) | exact y_K.bk (by omega)), (by first | exact p4 | exact y_KM.z (by omega)), (by first | exact p5 | exact y_YM.b0 (by omega) | exact y_YM.k0 (by omega) | exact y_YM.bk (by omega)), ⟨0, rfl, by omega, by omega⟩⟩
set_option maxHeartbeats 4000000 in
theorem sj_X12_line_309Y_J53 {fu : Nat} (hfu : 8589934592 ≤ fu) (r0 s : z_M) (c : z_CI s) (f : z_Fr R_X12_line_309 r0 s) (a1 : Int) (a2 : Int) (t1 : Int) (b1 : -2147483648 ≤ a1 ∧ a1 ≤ 2147483647) (b2 : -2147483648 ≤ a2 ∧ a2 ≤ 2147483647) (d1 : 0 ≤ t1 ∧ t1 ≤ 1) (p0 : 0 ≤ a1 ∧ a1 < s 309 44) (p1 : t1 = 1 ∨ (0 ≤ a2 ∧ a2 ≤ 7)) (p2 : y_TA s) (p3 : y_DD s) (p4 : y_B s) (p5 : y_K s) (p6 : y_KM s) (p7 : y_YM s) : z_T (fX12_line_J53 fu s 309 a1 a2 309 t1) (P_X12_line_309Y r0) := by
  refine T_of (fX12_line_J53.eq_1 ..) ?_
  have u1 := CI_b c (k := 309) (j := 20) bd_309_20
  have u2 := CI_b c (k := 309) (j := 36) bd_309_36
  have u3 := CI_b c (k := 309) (j := 43) bd_309_43
  have u4 := CI_b c (k := 309) (j := 44) bd_309_44
  have u5 := CI_b c (k := 309) (j := 58) bd_309_58
  have u6 := CI_b c (k := 316) (j := 0) bd_316_0
  have u7 := CI_b c (k := 329) (j := 0) bd_329_0
  have u8 := CI_b c (k := 329) (j := 1) bd_329_1
  have t9 : s 309 20 = r0 309 20 := f 309 20 (by decide)
  have t10 : s 316 0 = r0 316 0 := f 316 0 (by decide)
  have t11 : s 329 0 = r0 329 0 := f 329 0 (by decide)
  have t12 : s 329 1 = r0 329 1 := f 329 1 (by decide)
  refine T_if1 (by decide +kernel) ?_
  refine T_useI (sf_X12_bad_309 hfu s c t1 2 1 (by omega) (by omega) (by omega) (by omega)) (fun v18 s13 hq => ?_)
  obtain ⟨c14, f15, o19, ⟨x17, rfl, b20, b21, o22, o23⟩⟩ := hq
  refine T_vI ?_
  have f16 := z_Fr.tr (R := R_X12_line_309) f f15 rs_X12_bad_309__X12_line_309
  have t24 : s13 309 20 = s 309 20 := f15 309 20 (by decide)
  have t25 : s13 309 36 = s 309 36 := f15 309 36 (by decide)
  have t26 : s13 309 43 = s 309 43 := f15 309 43 (by decide)
  have t27 : s13 309 44 = s 309 44 := f15 309 44 (by decide)
  have t28 : s13 309 58 = s 309 58 := f15 309 58 (by decide)
  have t29 : s13 316 0 = s 316 0 := f15 316 0 (by decide)
  have t30 : s13 329 0 = s 329 0 := f15 329 0 (by decide)
  have t31 : s13 329 1 = s 329 1 := f15 329 1 (by decide)
  have r32 := y_TA.fr p2 (fun a b h => f15 a b (nz_X12_bad_309__316_328 a b h)) (fun a b h => f15 a b (nz_X12_bad_309__346_358 a b h)) (fun a b h => f15 a b (nz_X12_bad_309__361_373 a b h))
  have r33 := y_DD.fr p3 (f15 329 0 (by decide)) (f15 329 1 (by decide)) (fun b => f15 359 b (nr_X12_bad_309__359 b)) (fun b => f15 374 b (nr_X12_bad_309__374 b))
  have r34 := y_B.fr p4 (f15 309 20 (by decide)) (f15 316 0 (by decide)) (fun b => f15 3220 b (nr_X12_bad_309__3220 b)) (fun b => f15 3221 b (nr_X12_bad_309__3221 b)) (fun b => f15 3222 b (nr_X12_bad_309__3222 b)) (fun b => f15 361 b (nr_X12_bad_309__361 b))
  have r35 := y_K.fr p5 (by omega) (by omega) (f15 309 44 (by decide)) (f15 309 20 (by decide)) (f15 309 58 (by decide)) (fun b => f15 3438 b (nr_X12_bad_309__3438 b)) (fun b => f15 3220 b (nr_X12_bad_309__3220 b)) (fun a b h => f15 a b (nz_X12_bad_309__3452_3651 a b h))
  have r36 := y_KM.fr p6 (f15 309 20 (by decide)) (f15 309 36 (by decide)) (f15 309 38 (by decide)) (f15 309 39 (by decide)) (fun b => f15 312 b (nr_X12_bad_309__312 b)) (fun b => f15 331 b (nr_X12_bad_309__331 b)) (fun b => f15 346 b (nr_X12_bad_309__346 b)) (fun b => f15 361 b (nr_X12_bad_309__361 b)) (fun b => f15 391 b (nr_X12_bad_309__391 b)) (fun a b h => f15 a b (nz_X12_bad_309__407_606 a b h)) (fun a b h => f15 a b (nz_X12_bad_309__3220_3223 a b h)) (fun a b h => f15 a b (nz_X12_bad_309__3235_3437 a b h))
  have r37 := y_YM.fr p7 (by omega) (f15 309 44 (by decide)) (f15 309 20 (by decide)) (f15 309 58 (by decide)) (fun b => f15 312 b (nr_X12_bad_309__312 b)) (fun b => f15 331 b (nr_X12_bad_309__331 b)) (fun b => f15 346 b (nr_X12_bad_309__346 b)) (fun b => f15 361 b (nr_X12_bad_309__361 b)) (fun b => f15 391 b (nr_X12_bad_309__391 b)) (fun a b h => f15 a b (nz_X12_bad_309__407_606 a b h)) (fun a b h => f15 a b (nz_X12_bad_309__3220_3223 a b h)) (fun b => f15 3438 b (nr_X12_bad_309__3438 b)) (fun a b h => f15 a b (nz_X12_bad_309__3441_3450 a b h)) (fun a b h => f15 a b (nz_X12_bad_309__3452_3651 a b h))
  refine T_ite (fun h38 => ?_) (fun h38 => ?_)
  · refine T_ite (fun h39 => ?_) (fun h39 => ?_)
    · refine T_if1 (by decide +kernel) ?_
      refine T_let 3438 (by decide +kernel) ?_
      refine T_if1 (z_ixl (n := 201) (by decide +kernel) (by omega) (by omega)) ?_
      refine T_leq (fun x40 e41 => ?_)
      have u42 := CI_b c14 (k := 3438) (j := a1) (bdr_3438 a1)
      exact T_ret ⟨c14, f16, r32, (by first | exact r33 | exact y_DD.z (by omega) (by omega)), r34, (by first | exact r35 | exact y_K.b0 (by omega) | exact y_K.k0 (by omega) | exact y_K.bk (by omega)), (by first | exact r36 | exact y_KM.z (by omega)), (by first | exact r37 | exact y_YM.b0 (by omega) | exact y_YM.k0 (by omega) | exact y_YM.bk (by omega)), ⟨x40, rfl, by omega, by omega⟩⟩
    · refine T_ite (fun h43 => ?_) (fun h43 => ?_)
      · refine T_if1 (by decide +kernel) ?_
        refine T_let 3438 (by decide +kernel) ?_
        refine T_leq (fun x44 e45 => ?_)
        first | (have w46 := z_wx e45 (by omega)) | (have w46 := z_wr e45)
        refine T_if1 (z_ixl (n := 201) (by decide +kernel) (by omega) (by omega)) ?_
        refine T_leq (fun x47 e48 => ?_)
        have u49 := CI_b c14 (k := 3438) (j := x44) (bdr_3438 x44)
        refine T_if1 (by decide +kernel) ?_
        refine T_let 3438 (by decide +kernel) ?_
        refine T_if1 (z_ixl (n := 201) (by decide +kernel) (by omega) (by omega)) ?_
        refine T_leq (fun x50 e51 => ?_)
        have u52 := CI_b c14 (k := 3438) (j := a1) (bdr_3438 a1)
        refine T_leq (fun x53 e54 => ?_)
        first | (have w55 := z_wx e54 (by omega)) | (have w55 := z_wr e54)
        exact T_ret ⟨c14, f16, r32, (by first | exact r33 | exact y_DD.z (by omega) (by omega)), r34, (by first | exact r35 | exact y_K.b0 (by omega) | exact y_K.k0 (by omega) | exact y_K.bk (by omega)), (by first | exact r36 | exact y_KM.z (by omega)), (by first | exact r37 | exact y_YM.b0 (by omega) | exact y_YM.k0 (by omega) | exact y_YM.bk (by omega)), ⟨x53, rfl, by omega, by omega⟩⟩
      · refine T_ite (fun h56 => ?_) (fun h56 => ?_)
        · refine T_if1 (by decide +kernel) ?_
          refine T_let 3446 (by decide +kernel) ?_
          refine T_if1 (z_ixl (n := 200) (by decide +kernel) (by omega) (by omega)) ?_
          refine T_leq (fun x57 e58 => ?_)
          have u59 := CI_b c14 (k := 3446) (j := a1) (bdr_3446 a1)
          exact T_ret ⟨c14, f16, r32, (by first | exact r33 | exact y_DD.z (by omega) (by omega)), r34, (by first | exact r35 | exact y_K.b0 (by omega) | exact y_K.k0 (by omega) | exact y_K.bk (by omega)), (by first | exact r36 | exact y_KM.z (by omega)), (by first | exact r37 | exact y_YM.b0 (by omega) | exact y_YM.k0 (by omega) | exact y_YM.bk (by omega)), ⟨x57, rfl, by omega, by omega⟩⟩
        · refine T_ite (fun h60 => ?_) (fun h60 => ?_)
          · refine T_if1 (by decide +kernel) ?_
            refine T_let 312 (by decide +kernel) ?_
            refine T_if1 (z_ixl (n := 9) (by decide +kernel) (by omega) (by omega)) ?_
            refine T_leq (fun x61 e62 => ?_)
            have u63 := CI_b c14 (k := 312) (j := 0) (bdr_312 0)
            refine T_if1 (by decide +kernel) ?_
            refine T_let 3446 (by decide +kernel) ?_
            refine T_if1 (z_ixl (n := 200) (by decide +kernel) (by omega) (by omega)) ?_
            refine T_leq (fun x64 e65 => ?_)
            have u66 := CI_b c14 (k := 3446) (j := a1) (bdr_3446 a1)
            refine T_leq (fun x67 e68 => ?_)
            first | (have w69 := z_wx e68 (by omega)) | (have w69 := z_wr e68)
            exact T_ret ⟨c14, f16, r32, (by first | exact r33 | exact y_DD.z (by omega) (by omega)), r34, (by first | exact r35 | exact y_K.b0 (by omega) | exact y_K.k0 (by omega) | exact y_K.bk (by omega)), (by first | exact r36 | exact y_KM.z (by omega)), (by first | exact r37 | exact y_YM.b0 (by omega) | exact y_YM.k0 (by omega) | exact y_YM.bk (by omega)), ⟨x67, rfl, by omega, by omega⟩⟩
          · refine T_ite (fun h70 => ?_) (fun h70 => ?_)
            · refine T_if1 (by decide +kernel) ?_
              refine T_let 3447 (by decide +kernel) ?_
              refine T_if1 (z_ixl (n := 200) (by decide +kernel) (by omega) (by omega)) ?_
              refine T_leq (fun x71 e72 => ?_)
              have u73 := CI_b c14 (k := 3447) (j := a1) (bdr_3447 a1)
              exact T_ret ⟨c14, f16, r32, (by first | exact r33 | exact y_DD.z (by omega) (by omega)), r34, (by first | exact r35 | exact y_K.b0 (by omega) | exact y_K.k0 (by omega) | exact y_K.bk (by omega)), (by first | exact r36 | exact y_KM.z (by omega)), (by first | exact r37 | exact y_YM.b0 (by omega) | exact y_YM.k0 (by omega) | exact y_YM.bk (by omega)), ⟨x71, rfl, by omega, by omega⟩⟩
            · refine T_ite (fun h74 => ?_) (fun h74 => ?_)
              · refine T_if1 (by decide +kernel) ?_
                refine T_let 3448 (by decide +kernel) ?_
                refine T_if1 (z_ixl (n := 200) (by decide +kernel) (by omega) (by omega)) ?_
                refine T_leq (fun x75 e76 => ?_)
                have u77 := CI_b c14 (k := 3448) (j := a1) (bdr_3448 a1)
                exact T_ret ⟨c14, f16, r32, (by first | exact r33 | exact y_DD.z (by omega) (by omega)), r34, (by first | exact r35 | exact y_K.b0 (by omega) | exact y_K.k0 (by omega) | exact y_K.bk (by omega)), (by first | exact r36 | exact y_KM.z (by omega)), (by first | exact r37 | exact y_YM.b0 (by omega) | exact y_YM.k0 (by omega) | exact y_YM.bk (by omega)), ⟨x75, rfl, by omega, by omega⟩⟩
              · refine T_ite (fun h78 => ?_) (fun h78 => ?_)
                · refine T_if1 (by decide +kernel) ?_
                  refine T_let 3449 (by decide +kernel) ?_
                  refine T_if1 (z_ixl (n := 200) (by decide +kernel) (by omega) (by omega)) ?_
                  refine T_leq (fun x79 e80 => ?_)
                  have u81 := CI_b c14 (k := 3449) (j := a1) (bdr_3449 a1)
                  exact T_ret ⟨c14, f16, r32, (by first | exact r33 | exact y_DD.z (by omega) (by omega)), r34, (by first | exact r35 | exact y_K.b0 (by omega) | exact y_K.k0 (by omega) | exact y_K.bk (by omega)), (by first | exact r36 | exact y_KM.z (by omega)), (by first | exact r37 | exact y_YM.b0 (by omega) | exact y_YM.k0 (by omega) | exact y_YM.bk (by omega)), ⟨x79, rfl, by omega, by omega⟩⟩
                · refine T_if1 (by decide +kernel) ?_
                  refine T_let 3450 (by decide +kernel) ?_
                  refine T_if1 (z_ixl (n := 200) (by decide +kernel) (by omega) (by omega)) ?_
                  refine T_leq (fun x82 e83 => ?_)
                  have u84 := CI_b c14 (k := 3450) (j := a1) (bdr_3450 a1)
                  exact T_ret ⟨c14, f16, r32, (by first | exact r33 | exact y_DD.z (by omega) (by omega)), r34, (by first | exact r35 | exact y_K.b0 (by omega) | exact y_K.k0 (by omega) | exact y_K.bk (by omega)), (by first | exact r36 | exact y_KM.z (by omega)), (by first | exact r37 | exact y_YM.b0 (by omega) | exact y_YM.k0 (by omega) | exact y_YM.bk (by omega)), ⟨x82, rfl, by omega, by omega⟩⟩
  · exact sj_X12_line_309Y_J61 hfu r0 s13 c14 f16 r32 (by first | exact r33 | exact y_DD.z (by omega) (by omega)) r34 (by first | exact r35 | exact y_K.b0 (by omega) | exact y_K.k0 (by omega) | exact y_K.bk (by omega)) (by first | exact r36 | exact y_KM.z (by omega)) (by first | exact r37 | exact y_YM.b0 (by omega) | exact y_YM.k0 (by omega) | exact y_YM.bk (by omega))
theorem sj_X12_line_309Y_J29 {fu : Nat} (hfu : 8589934592 ≤ fu) (r0 s : z_M) (c : z_CI s) (f : z_Fr R_X12_line_309 r0 s) (a1 : Int) (a2 : Int) (t1 : Int) (b1 : -2147483648 ≤ a1 ∧ a1 ≤ 2147483647) (b2 : -2147483648 ≤ a2 ∧ a2 ≤ 2147483647) (d1 : 0 ≤ t1 ∧ t1 ≤ 1) (p0 : t1 = 1 ∨ (0 ≤ a1 ∧ a1 < s 309 44)) (p1 : y_TA s) (p2 : y_DD s) (p3 : y_B s) (p4 : y_K s) (p5 : y_KM s) (p6 : y_YM s) : z_T (fX12_line_J29 fu s 309 a1 a2 309 t1) (P_X12_line_309Y r0) := by
  refine T_of (fX12_line_J29.eq_1 ..) ?_
  have u1 := CI_b c (k := 309) (j := 20) bd_309_20
  have u2 := CI_b c (k := 309) (j := 36) bd_309_36
  have u3 := CI_b c (k := 309) (j := 43) bd_309_43
  have u4 := CI_b c (k := 309) (j := 44) bd_309_44
  have u5 := CI_b c (k := 309) (j := 58) bd_309_58
  have u6 := CI_b c (k := 316) (j := 0) bd_316_0
  have u7 := CI_b c (k := 329) (j := 0) bd_329_0
  have u8 := CI_b c (k := 329) (j := 1) bd_329_1
  have t9 : s 309 20 = r0 309 20 := f 309 20 (by decide)
  have t10 : s 316 0 = r0 316 0 := f 316 0 (by decide)
  have t11 : s 329 0 = r0 329 0 := f 329 0 (by decide)
  have t12 : s 329 1 = r0 329 1 := f 329 1 (by decide)
  refine T_if1 (by decide +kernel) ?_
  refine T_useI (sf_X12_bad_309 hfu s c t1 1 0 (by omega) (by omega) (by omega) (by omega)) (fun v18 s13 hq => ?_)
  obtain ⟨c14, f15, o19, ⟨x17, rfl, b20, b21, o22, o23⟩⟩ := hq
  refine T_vI ?_
  have f16 := z_Fr.tr (R := R_X12_line_309) f f15 rs_X12_bad_309__X12_line_309
  have t24 : s13 309 20 = s 309 20 := f15 309 20 (by decide)
  have t25 : s13 309 36 = s 309 36 := f15 309 36 (by decide)
  have t26 : s13 309 43 = s 309 43 := f15 309 43 (by decide)
  have t27 : s13 309 44 = s 309 44 := f15 309 44 (by decide)
  have t28 : s13 309 58 = s 309 58 := f15 309 58 (by decide)
  have t29 : s13 316 0 = s 316 0 := f15 316 0 (by decide)
  have t30 : s13 329 0 = s 329 0 := f15 329 0 (by decide)
  have t31 : s13 329 1 = s 329 1 := f15 329 1 (by decide)
  have r32 := y_TA.fr p1 (fun a b h => f15 a b (nz_X12_bad_309__316_328 a b h)) (fun a b h => f15 a b (nz_X12_bad_309__346_358 a b h)) (fun a b h => f15 a b (nz_X12_bad_309__361_373 a b h))
  have r33 := y_DD.fr p2 (f15 329 0 (by decide)) (f15 329 1 (by decide)) (fun b => f15 359 b (nr_X12_bad_309__359 b)) (fun b => f15 374 b (nr_X12_bad_309__374 b))
  have r34 := y_B.fr p3 (f15 309 20 (by decide)) (f15 316 0 (by decide)) (fun b => f15 3220 b (nr_X12_bad_309__3220 b)) (fun b => f15 3221 b (nr_X12_bad_309__3221 b)) (fun b => f15 3222 b (nr_X12_bad_309__3222 b)) (fun b => f15 361 b (nr_X12_bad_309__361 b))
  have r35 := y_K.fr p4 (by omega) (by omega) (f15 309 44 (by decide)) (f15 309 20 (by decide)) (f15 309 58 (by decide)) (fun b => f15 3438 b (nr_X12_bad_309__3438 b)) (fun b => f15 3220 b (nr_X12_bad_309__3220 b)) (fun a b h => f15 a b (nz_X12_bad_309__3452_3651 a b h))
  have r36 := y_KM.fr p5 (f15 309 20 (by decide)) (f15 309 36 (by decide)) (f15 309 38 (by decide)) (f15 309 39 (by decide)) (fun b => f15 312 b (nr_X12_bad_309__312 b)) (fun b => f15 331 b (nr_X12_bad_309__331 b)) (fun b => f15 346 b (nr_X12_bad_309__346 b)) (fun b => f15 361 b (nr_X12_bad_309__361 b)) (fun b => f15 391 b (nr_X12_bad_309__391 b)) (fun a b h => f15 a b (nz_X12_bad_309__407_606 a b h)) (fun a b h => f15 a b (nz_X12_bad_309__3220_3223 a b h)) (fun a b h => f15 a b (nz_X12_bad_309__3235_3437 a b h))
  have r37 := y_YM.fr p6 (by omega) (f15 309 44 (by decide)) (f15 309 20 (by decide)) (f15 309 58 (by decide)) (fun b => f15 312 b (nr_X12_bad_309__312 b)) (fun b => f15 331 b (nr_X12_bad_309__331 b)) (fun b => f15 346 b (nr_X12_bad_309__346 b)) (fun b => f15 361 b (nr_X12_bad_309__361 b)) (fun b => f15 391 b (nr_X12_bad_309__391 b)) (fun a b h => f15 a b (nz_X12_bad_309__407_606 a b h)) (fun a b h => f15 a b (nz_X12_bad_309__3220_3223 a b h)) (fun b => f15 3438 b (nr_X12_bad_309__3438 b)) (fun a b h => f15 a b (nz_X12_bad_309__3441_3450 a b h)) (fun a b h => f15 a b (nz_X12_bad_309__3452_3651 a b h))
  refine T_ite (fun h38 => ?_) (fun h38 => ?_)
  · exact sj_X12_line_309Y_J61 hfu r0 s13 c14 f16 r32 (by first | exact r33 | exact y_DD.z (by omega) (by omega)) r34 (by first | exact r35 | exact y_K.b0 (by omega) | exact y_K.k0 (by omega) | exact y_K.bk (by omega)) (by first | exact r36 | exact y_KM.z (by omega)) (by first | exact r37 | exact y_YM.b0 (by omega) | exact y_YM.k0 (by omega) | exact y_YM.bk (by omega))
  · refine T_useI (sf_X12_in hfu s13 c14 a2 0 7 (by omega) (by omega) (by omega)) (fun v44 s39 hq => ?_)
    obtain ⟨c40, f41, ⟨x43, rfl, b45, b46, o47⟩⟩ := hq
    refine T_vI ?_
    have q48 := z_Fr.eq (fun a b h => h) f41
    subst q48
    refine T_ite (fun h49 => ?_) (fun h49 => ?_)
    · exact sj_X12_line_309Y_J53 hfu r0 s13 c14 f16 a1 a2 0 (by omega) (by omega) (by omega) (by omega) (by omega) r32 (by first | exact r33 | exact y_DD.z (by omega) (by omega)) r34 (by first | exact r35 | exact y_K.b0 (by omega) | exact y_K.k0 (by omega) | exact y_K.bk (by omega)) (by first | exact r36 | exact y_KM.z (by omega)) (by first | exact r37 | exact y_YM.b0 (by omega) | exact y_YM.k0 (by omega) | exact y_YM.bk (by omega))
    · exact sj_X12_line_309Y_J53 hfu r0 s13 c14 f16 a1 a2 1 (by omega) (by omega) (by omega) (by omega) (by omega) r32 (by first | exact r33 | exact y_DD.z (by omega) (by omega)) r34 (by first | exact r35 | exact y_K.b0 (by omega) | exact y_K.k0 (by omega) | exact y_K.bk (by omega)) (by first | exact r36 | exact y_KM.z (by omega)) (by first | exact r37 | exact y_YM.b0 (by omega) | exact y_YM.k0 (by omega) | exact y_YM.bk (by omega))
theorem sf_X12_line_309Y {fu : Nat} (hfu : 8589934592 ≤ fu) (r0 : z_M) (c0 : z_CI r0) (a1 : Int) (a2 : Int) (b1 : -2147483648 ≤ a1 ∧ a1 ≤ 2147483647) (b2 : -2147483648 ≤ a2 ∧ a2 ≤ 2147483647) (p0 : y_TA r0) (p1 : y_DD r0) (p2 : y_B r0) (p3 : y_K r0) (p4 : y_KM r0) (p5 : y_YM r0) : z_T (fX12_line fu r0 309 a1 a2) (P_X12_line_309Y r0) := by
  refine T_of (fX12_line.eq_1 ..) ?_
  have u1 := CI_b c0 (k := 309) (j := 20) bd_309_20
  have u2 := CI_b c0 (k := 309) (j := 36) bd_309_36
  have u3 := CI_b c0 (k := 309) (j := 43) bd_309_43
  have u4 := CI_b c0 (k := 309) (j := 44) bd_309_44
  have u5 := CI_b c0 (k := 309) (j := 58) bd_309_58
  have u6 := CI_b c0 (k := 316) (j := 0) bd_316_0
  have u7 := CI_b c0 (k := 329) (j := 0) bd_329_0
  have u8 := CI_b c0 (k := 329) (j := 1) bd_329_1
  refine T_if1 (by decide +kernel) ?_
  refine T_upg c0 bd_309_0 (by omega) (fun s9 c10 g12 g13 e14 => ?_)
  have f11 := z_Fr.upf (R := R_X12_line_309) z_Fr.rf g12 g13 (Or.inr (Or.inr (⟨rfl, by decide⟩)))
  have t15 : s9 309 20 = r0 309 20 := g13 20 (by decide)
  have t16 : s9 309 36 = r0 309 36 := g13 36 (by decide)
  have t17 : s9 309 43 = r0 309 43 := g13 43 (by decide)
  have t18 : s9 309 44 = r0 309 44 := g13 44 (by decide)
  have t19 : s9 309 58 = r0 309 58 := g13 58 (by decide)
  have t20 : s9 316 0 = r0 316 0 := g12 316 0 (by decide)
  have t21 : s9 329 0 = r0 329 0 := g12 329 0 (by decide)
  have t22 : s9 329 1 = r0 329 1 := g12 329 1 (by decide)
  have r23 := y_TA.fr p0 (fun a b h => g12 a b (by omega)) (fun a b h => g12 a b (by omega)) (fun a b h => g12 a b (by omega))
  have r24 := y_DD.fr p1 (g12 329 0 (by decide)) (g12 329 1 (by decide)) (fun b => g12 359 b (by decide)) (fun b => g12 374 b (by decide))
  have r25 := y_B.fr p2 (g13 20 (by decide)) (g12 316 0 (by decide)) (fun b => g12 3220 b (by decide)) (fun b => g12 3221 b (by decide)) (fun b => g12 3222 b (by decide)) (fun b => g12 361 b (by decide))
  have r26 := y_K.fr p3 (by omega) (by omega) (g13 44 (by decide)) (g13 20 (by decide)) (g13 58 (by decide)) (fun b => g12 3438 b (by decide)) (fun b => g12 3220 b (by decide)) (fun a b h => g12 a b (by omega))
  have r27 := y_KM.fr p4 (g13 20 (by decide)) (g13 36 (by decide)) (g13 38 (by decide)) (g13 39 (by decide)) (fun b => g12 312 b (by decide)) (fun b => g12 331 b (by decide)) (fun b => g12 346 b (by decide)) (fun b => g12 361 b (by decide)) (fun b => g12 391 b (by decide)) (fun a b h => g12 a b (by omega)) (fun a b h => g12 a b (by omega)) (fun a b h => g12 a b (by omega))
  have r28 := y_YM.fr p5 (by omega) (g13 44 (by decide)) (g13 20 (by decide)) (g13 58 (by decide)) (fun b => g12 312 b (by decide)) (fun b => g12 331 b (by decide)) (fun b => g12 346 b (by decide)) (fun b => g12 361 b (by decide)) (fun b => g12 391 b (by decide)) (fun a b h => g12 a b (by omega)) (fun a b h => g12 a b (by omega)) (fun b => g12 3438 b (by decide)) (fun a b h => g12 a b (by omega)) (fun a b h => g12 a b (by omega))
  refine T_if1 (by decide +kernel) ?_
  refine T_useN (sf_X12_laysAll_309Y hfu s9 c10 r25 (by first | exact r26 | exact y_K.b0 (by omega) | exact y_K.k0 (by omega) | exact y_K.bk (by omega)) (by first | exact r27 | exact y_KM.z (by omega)) (by first | exact r28 | exact y_YM.b0 (by omega) | exact y_YM.k0 (by omega) | exact y_YM.bk (by omega))) (fun v34 s29 hq => ?_)
  obtain ⟨c30, f31, o35, o36, o37, o38, o39, o40, o41, o42, rfl⟩ := hq
  refine T_vN ?_
  have f32 := z_Fr.tr (R := R_X12_line_309) f11 f31 rs_X12_laysAll_309__X12_line_309
  have t45 : s29 309 20 = r0 309 20 := (f31 309 20 (by decide)).trans t15
  have t46 : s29 316 0 = r0 316 0 := (f31 316 0 (by decide)).trans t20
  have t47 : s29 329 0 = r0 329 0 := (f31 329 0 (by decide)).trans t21
  have t48 : s29 329 1 = r0 329 1 := (f31 329 1 (by decide)).trans t22
  have u49 := CI_b c30 (k := 309) (j := 36) bd_309_36
  have u50 := CI_b c30 (k := 309) (j := 43) bd_309_43
  have u51 := CI_b c30 (k := 309) (j := 44) bd_309_44
  have u52 := CI_b c30 (k := 309) (j := 58) bd_309_58
  have r53 := y_TA.fr r23 (fun a b h => f31 a b (nz_X12_laysAll_309__316_328 a b h)) (fun a b h => f31 a b (nz_X12_laysAll_309__346_358 a b h)) (fun a b h => f31 a b (nz_X12_laysAll_309__361_373 a b h))
  have r54 := y_DD.fr r24 (f31 329 0 (by decide)) (f31 329 1 (by decide)) (fun b => f31 359 b (nr_X12_laysAll_309__359 b)) (fun b => f31 374 b (nr_X12_laysAll_309__374 b))
  have r55 := y_B.fr r25 (f31 309 20 (by decide)) (f31 316 0 (by decide)) (fun b => f31 3220 b (nr_X12_laysAll_309__3220 b)) (fun b => f31 3221 b (nr_X12_laysAll_309__3221 b)) (fun b => f31 3222 b (nr_X12_laysAll_309__3222 b)) (fun b => f31 361 b (nr_X12_laysAll_309__361 b))
  clear t15
  clear t20
  clear t21
  clear t22
  refine T_if1 (by decide +kernel) ?_
  refine T_leq (fun x56 e57 => ?_)
  have u58 := CI_b c30 (k := 309) (j := 44) bd_309_44
  refine T_leq (fun x59 e60 => ?_)
  first | (have w61 := z_wx e60 (by omega)) | (have w61 := z_wr e60)
  refine T_useI (sf_X12_in hfu s29 c30 a1 0 x59 (by omega) (by omega) (by omega)) (fun v67 s62 hq => ?_)
  obtain ⟨c63, f64, ⟨x66, rfl, b68, b69, o70⟩⟩ := hq
  refine T_vI ?_
  have q71 := z_Fr.eq (fun a b h => h) f64
  subst q71
  refine T_ite (fun h72 => ?_) (fun h72 => ?_)
  · exact sj_X12_line_309Y_J29 hfu r0 s29 c30 f32 a1 a2 0 (by omega) (by omega) (by omega) (by omega) r53 (by first | exact r54 | exact y_DD.z (by omega) (by omega)) r55 (by first | exact o35 | exact y_K.b0 (by omega) | exact y_K.k0 (by omega) | exact y_K.bk (by omega) | exact y_K.mk o36 (by omega) o37) (by first | exact o41 | exact y_KM.z (by omega)) (by first | exact o42 | exact y_YM.b0 (by omega) | exact y_YM.k0 (by omega) | exact y_YM.bk (by omega))
  · exact sj_X12_line_309Y_J29 hfu r0 s29 c30 f32 a1 a2 1 (by omega) (by omega) (by omega) (by omega) r53 (by first | exact r54 | exact y_DD.z (by omega) (by omega)) r55 (by first | exact o35 | exact y_K.b0 (by omega) | exact y_K.k0 (by omega) | exact y_K.bk (by omega) | exact y_K.mk o36 (by omega) o37) (by first | exact o41 | exact y_KM.z (by omega)) (by first | exact o42 | exact y_YM.b0 (by omega) | exact y_YM.k0 (by omega) | exact y_YM.bk (by omega))
abbrev P_X12_block_309Y (r0 : z_M) : z_V → z_M → Prop := fun v s' => z_CI s' ∧ z_Fr R_X12_block_309 r0 s' ∧ (y_TA s') ∧ (y_DD s') ∧ (y_B s') ∧ (y_K s') ∧ (y_KM s') ∧ (y_YM s') ∧ (∃ x, v = vI x ∧ -2147483648 ≤ x ∧ x ≤ 2147483647)
theorem sj_X12_block_309Y_J61 {fu : Nat} (hfu : 8589934592 ≤ fu) (r0 s : z_M) (c : z_CI s) (f : z_Fr R_X12_block_309 r0 s) (p0 : y_TA s) (p1 : y_DD s) (p2 : y_B s) (p3 : y_K s) (p4 : y_KM s) (p5 : y_YM s) : z_T (fX12_block_J61 fu s) (P_X12_block_309Y r0) := by
  refine T_of (fX12_block_J61.eq_1 ..) ?_
  have u1 := CI_b c (k := 309) (j := 20) bd_309_20
  have u2 := CI_b c (k := 309) (j := 36) bd_309_36
  have u3 := CI_b c (k := 309) (j := 43) bd_309_43
  have u4 := CI_b c (k := 309) (j := 44) bd_309_44
  have u5 := CI_b c (k := 309) (j := 58) bd_309_58
  have u6 := CI_b c (k := 316) (j := 0) bd_316_0
  have u7 := CI_b c (k := 329) (j := 0) bd_329_0
  have u8 := CI_b c (k := 329) (j := 1) bd_329_1
  have t9 : s 309 20 = r0 309 20 := f 309 20 (by decide)
  have t10 : s 316 0 = r0 316 0 := f 316 0 (by decide)
  have t11 : s 329 0 = r0 329 0 := f 329 0 (by decide)
  have t12 : s 329 1 = r0 329 1 := f 329 1 (by decide)
  exact T_ret ⟨c, f, p0, (by first | exact p1 | exact y_DD.z (by omega) (by omega)), p2, (by first | exact p3 | exact y_K.b0 (by omega) | exact y_K.k0 (by omega) | exact y_K.bk (by omega)), (by first | exact p4 | exact y_KM.z (by omega)), (by first | exact p5 | exact y_YM.b0 (by omega) | exact y_YM.k0 (by omega) | exact y_YM.bk (by omega)), ⟨0, rfl, by omega, by omega⟩⟩
theorem sj_X12_block_309Y_J53 {fu : Nat} (hfu : 8589934592 ≤ fu) (r0 s : z_M) (c : z_CI s) (f : z_Fr R_X12_block_309 r0 s) (a1 : Int) (a2 : Int) (t1 : Int) (b1 : -2147483648 ≤ a1 ∧ a1 ≤ 2147483647) (b2 : -2147483648 ≤ a2 ∧ a2 ≤ 2147483647) (d1 : 0 ≤ t1 ∧ t1 ≤ 1) (p0 : 0 ≤ a1 ∧ a1 < s 309 58) (p1 : t1 = 1 ∨ (0 ≤ a2 ∧ a2 ≤ 7)) (p2 : y_TA s) (p3 : y_DD s) (p4 : y_B s) (p5 : y_K s) (p6 : y_KM s) (p7 : y_YM s) : z_T (fX12_block_J53 fu s 309 a1 a2 309 t1) (P_X12_block_309Y r0) := by
  refine T_of (fX12_block_J53.eq_1 ..) ?_
  have u1 := CI_b c (k := 309) (j := 20) bd_309_20
  have u2 := CI_b c (k := 309) (j := 36) bd_309_36
  have u3 := CI_b c (k := 309) (j := 43) bd_309_43
  have u4 := CI_b c (k := 309) (j := 44) bd_309_44
  have u5 := CI_b c (k := 309) (j := 58) bd_309_58
  have u6 := CI_b c (k := 316) (j := 0) bd_316_0
  have u7 := CI_b c (k := 329) (j := 0) bd_329_0
  have u8 := CI_b c (k := 329) (j := 1) bd_329_1
  have t9 : s 309 20 = r0 309 20 := f 309 20 (by decide)
  have t10 : s 316 0 = r0 316 0 := f 316 0 (by decide)
  have t11 : s 329 0 = r0 329 0 := f 329 0 (by decide)
  have t12 : s 329 1 = r0 329 1 := f 329 1 (by decide)
  refine T_if1 (by decide +kernel) ?_
  refine T_useI (sf_X12_bad_309 hfu s c t1 2 1 (by omega) (by omega) (by omega) (by omega)) (fun v18 s13 hq => ?_)
  obtain ⟨c14, f15, o19, ⟨x17, rfl, b20, b21, o22, o23⟩⟩ := hq
  refine T_vI ?_
  have f16 := z_Fr.tr (R := R_X12_block_309) f f15 rs_X12_bad_309__X12_block_309
  have t24 : s13 309 20 = s 309 20 := f15 309 20 (by decide)
  have t25 : s13 309 36 = s 309 36 := f15 309 36 (by decide)
  have t26 : s13 309 43 = s 309 43 := f15 309 43 (by decide)
  have t27 : s13 309 44 = s 309 44 := f15 309 44 (by decide)
  have t28 : s13 309 58 = s 309 58 := f15 309 58 (by decide)
  have t29 : s13 316 0 = s 316 0 := f15 316 0 (by decide)
  have t30 : s13 329 0 = s 329 0 := f15 329 0 (by decide)
  have t31 : s13 329 1 = s 329 1 := f15 329 1 (by decide)
  have r32 := y_TA.fr p2 (fun a b h => f15 a b (nz_X12_bad_309__316_328 a b h)) (fun a b h => f15 a b (nz_X12_bad_309__346_358 a b h)) (fun a b h => f15 a b (nz_X12_bad_309__361_373 a b h))
  have r33 := y_DD.fr p3 (f15 329 0 (by decide)) (f15 329 1 (by decide)) (fun b => f15 359 b (nr_X12_bad_309__359 b)) (fun b => f15 374 b (nr_X12_bad_309__374 b))
  have r34 := y_B.fr p4 (f15 309 20 (by decide)) (f15 316 0 (by decide)) (fun b => f15 3220 b (nr_X12_bad_309__3220 b)) (fun b => f15 3221 b (nr_X12_bad_309__3221 b)) (fun b => f15 3222 b (nr_X12_bad_309__3222 b)) (fun b => f15 361 b (nr_X12_bad_309__361 b))
  have r35 := y_K.fr p5 (by omega) (by omega) (f15 309 44 (by decide)) (f15 309 20 (by decide)) (f15 309 58 (by decide)) (fun b => f15 3438 b (nr_X12_bad_309__3438 b)) (fun b => f15 3220 b (nr_X12_bad_309__3220 b)) (fun a b h => f15 a b (nz_X12_bad_309__3452_3651 a b h))
  have r36 := y_KM.fr p6 (f15 309 20 (by decide)) (f15 309 36 (by decide)) (f15 309 38 (by decide)) (f15 309 39 (by decide)) (fun b => f15 312 b (nr_X12_bad_309__312 b)) (fun b => f15 331 b (nr_X12_bad_309__331 b)) (fun b => f15 346 b (nr_X12_bad_309__346 b)) (fun b => f15 361 b (nr_X12_bad_309__361 b)) (fun b => f15 391 b (nr_X12_bad_309__391 b)) (fun a b h => f15 a b (nz_X12_bad_309__407_606 a b h)) (fun a b h => f15 a b (nz_X12_bad_309__3220_3223 a b h)) (fun a b h => f15 a b (nz_X12_bad_309__3235_3437 a b h))
  have r37 := y_YM.fr p7 (by omega) (f15 309 44 (by decide)) (f15 309 20 (by decide)) (f15 309 58 (by decide)) (fun b => f15 312 b (nr_X12_bad_309__312 b)) (fun b => f15 331 b (nr_X12_bad_309__331 b)) (fun b => f15 346 b (nr_X12_bad_309__346 b)) (fun b => f15 361 b (nr_X12_bad_309__361 b)) (fun b => f15 391 b (nr_X12_bad_309__391 b)) (fun a b h => f15 a b (nz_X12_bad_309__407_606 a b h)) (fun a b h => f15 a b (nz_X12_bad_309__3220_3223 a b h)) (fun b => f15 3438 b (nr_X12_bad_309__3438 b)) (fun a b h => f15 a b (nz_X12_bad_309__3441_3450 a b h)) (fun a b h => f15 a b (nz_X12_bad_309__3452_3651 a b h))
  refine T_ite (fun h38 => ?_) (fun h38 => ?_)
  · refine T_if1 (by decide +kernel) ?_
    refine T_let 3451 (by decide +kernel) ?_
    refine T_if1 (z_ixl (n := 200) (by decide +kernel) (by omega) (by omega)) ?_
    refine T_let (3452 + a1) (gr_3451 a1) ?_
    refine T_if1 (z_ixs (sh_r3451 (by omega)) (by omega) (by omega) (by omega)) ?_
    refine T_leq (fun x39 e40 => ?_)
    have u41 := CI_w c14 (k := (3452 + a1)) (j := a2) (by rw [sh_r3451 (by omega)]; decide)
    exact T_ret ⟨c14, f16, r32, (by first | exact r33 | exact y_DD.z (by omega) (by omega)), r34, (by first | exact r35 | exact y_K.b0 (by omega) | exact y_K.k0 (by omega) | exact y_K.bk (by omega)), (by first | exact r36 | exact y_KM.z (by omega)), (by first | exact r37 | exact y_YM.b0 (by omega) | exact y_YM.k0 (by omega) | exact y_YM.bk (by omega)), ⟨x39, rfl, by omega, by omega⟩⟩
  · exact sj_X12_block_309Y_J61 hfu r0 s13 c14 f16 r32 (by first | exact r33 | exact y_DD.z (by omega) (by omega)) r34 (by first | exact r35 | exact y_K.b0 (by omega) | exact y_K.k0 (by omega) | exact y_K.bk (by omega)) (by first | exact r36 | exact y_KM.z (by omega)) (by first | exact r37 | exact y_YM.b0 (by omega) | exact y_YM.k0 (by omega) | exact y_YM.bk (by omega))
theorem sj_X12_block_309Y_J29 {fu : Nat} (hfu : 8589934592 ≤ fu) (r0 s : z_M) (c : z_CI s) (f : z_Fr R_X12_block_309 r0 s) (a1 : Int) (a2 : Int) (t1 : Int) (b1 : -2147483648 ≤ a1 ∧ a1 ≤ 2147483647) (b2 : -2147483648 ≤ a2 ∧ a2 ≤ 2147483647) (d1 : 0 ≤ t1 ∧ t1 ≤ 1) (p0 : t1 = 1 ∨ (0 ≤ a1 ∧ a1 < s 309 58)) (p1 : y_TA s) (p2 : y_DD s) (p3 : y_B s) (p4 : y_K s) (p5 : y_KM s) (p6 : y_YM s) : z_T (fX12_block_J29 fu s 309 a1 a2 309 t1) (P_X12_block_309Y r0) := by
  refine T_of (fX12_block_J29.eq_1 ..) ?_
  have u1 := CI_b c (k := 309) (j := 20) bd_309_20
  have u2 := CI_b c (k := 309) (j := 36) bd_309_36
  have u3 := CI_b c (k := 309) (j := 43) bd_309_43
  have u4 := CI_b c (k := 309) (j := 44) bd_309_44
  have u5 := CI_b c (k := 309) (j := 58) bd_309_58
  have u6 := CI_b c (k := 316) (j := 0) bd_316_0
  have u7 := CI_b c (k := 329) (j := 0) bd_329_0
  have u8 := CI_b c (k := 329) (j := 1) bd_329_1
  have t9 : s 309 20 = r0 309 20 := f 309 20 (by decide)
  have t10 : s 316 0 = r0 316 0 := f 316 0 (by decide)
  have t11 : s 329 0 = r0 329 0 := f 329 0 (by decide)
  have t12 : s 329 1 = r0 329 1 := f 329 1 (by decide)
  refine T_if1 (by decide +kernel) ?_
  refine T_useI (sf_X12_bad_309 hfu s c t1 1 0 (by omega) (by omega) (by omega) (by omega)) (fun v18 s13 hq => ?_)
  obtain ⟨c14, f15, o19, ⟨x17, rfl, b20, b21, o22, o23⟩⟩ := hq
  refine T_vI ?_
  have f16 := z_Fr.tr (R := R_X12_block_309) f f15 rs_X12_bad_309__X12_block_309
  have t24 : s13 309 20 = s 309 20 := f15 309 20 (by decide)
  have t25 : s13 309 36 = s 309 36 := f15 309 36 (by decide)
  have t26 : s13 309 43 = s 309 43 := f15 309 43 (by decide)
  have t27 : s13 309 44 = s 309 44 := f15 309 44 (by decide)
  have t28 : s13 309 58 = s 309 58 := f15 309 58 (by decide)
  have t29 : s13 316 0 = s 316 0 := f15 316 0 (by decide)
  have t30 : s13 329 0 = s 329 0 := f15 329 0 (by decide)
  have t31 : s13 329 1 = s 329 1 := f15 329 1 (by decide)
  have r32 := y_TA.fr p1 (fun a b h => f15 a b (nz_X12_bad_309__316_328 a b h)) (fun a b h => f15 a b (nz_X12_bad_309__346_358 a b h)) (fun a b h => f15 a b (nz_X12_bad_309__361_373 a b h))
  have r33 := y_DD.fr p2 (f15 329 0 (by decide)) (f15 329 1 (by decide)) (fun b => f15 359 b (nr_X12_bad_309__359 b)) (fun b => f15 374 b (nr_X12_bad_309__374 b))
  have r34 := y_B.fr p3 (f15 309 20 (by decide)) (f15 316 0 (by decide)) (fun b => f15 3220 b (nr_X12_bad_309__3220 b)) (fun b => f15 3221 b (nr_X12_bad_309__3221 b)) (fun b => f15 3222 b (nr_X12_bad_309__3222 b)) (fun b => f15 361 b (nr_X12_bad_309__361 b))
  have r35 := y_K.fr p4 (by omega) (by omega) (f15 309 44 (by decide)) (f15 309 20 (by decide)) (f15 309 58 (by decide)) (fun b => f15 3438 b (nr_X12_bad_309__3438 b)) (fun b => f15 3220 b (nr_X12_bad_309__3220 b)) (fun a b h => f15 a b (nz_X12_bad_309__3452_3651 a b h))
  have r36 := y_KM.fr p5 (f15 309 20 (by decide)) (f15 309 36 (by decide)) (f15 309 38 (by decide)) (f15 309 39 (by decide)) (fun b => f15 312 b (nr_X12_bad_309__312 b)) (fun b => f15 331 b (nr_X12_bad_309__331 b)) (fun b => f15 346 b (nr_X12_bad_309__346 b)) (fun b => f15 361 b (nr_X12_bad_309__361 b)) (fun b => f15 391 b (nr_X12_bad_309__391 b)) (fun a b h => f15 a b (nz_X12_bad_309__407_606 a b h)) (fun a b h => f15 a b (nz_X12_bad_309__3220_3223 a b h)) (fun a b h => f15 a b (nz_X12_bad_309__3235_3437 a b h))
  have r37 := y_YM.fr p6 (by omega) (f15 309 44 (by decide)) (f15 309 20 (by decide)) (f15 309 58 (by decide)) (fun b => f15 312 b (nr_X12_bad_309__312 b)) (fun b => f15 331 b (nr_X12_bad_309__331 b)) (fun b => f15 346 b (nr_X12_bad_309__346 b)) (fun b => f15 361 b (nr_X12_bad_309__361 b)) (fun b => f15 391 b (nr_X12_bad_309__391 b)) (fun a b h => f15 a b (nz_X12_bad_309__407_606 a b h)) (fun a b h => f15 a b (nz_X12_bad_309__3220_3223 a b h)) (fun b => f15 3438 b (nr_X12_bad_309__3438 b)) (fun a b h => f15 a b (nz_X12_bad_309__3441_3450 a b h)) (fun a b h => f15 a b (nz_X12_bad_309__3452_3651 a b h))
  refine T_ite (fun h38 => ?_) (fun h38 => ?_)
  · exact sj_X12_block_309Y_J61 hfu r0 s13 c14 f16 r32 (by first | exact r33 | exact y_DD.z (by omega) (by omega)) r34 (by first | exact r35 | exact y_K.b0 (by omega) | exact y_K.k0 (by omega) | exact y_K.bk (by omega)) (by first | exact r36 | exact y_KM.z (by omega)) (by first | exact r37 | exact y_YM.b0 (by omega) | exact y_YM.k0 (by omega) | exact y_YM.bk (by omega))
  · refine T_useI (sf_X12_in hfu s13 c14 a2 0 7 (by omega) (by omega) (by omega)) (fun v44 s39 hq => ?_)
    obtain ⟨c40, f41, ⟨x43, rfl, b45, b46, o47⟩⟩ := hq
    refine T_vI ?_
    have q48 := z_Fr.eq (fun a b h => h) f41
    subst q48
    refine T_ite (fun h49 => ?_) (fun h49 => ?_)
    · exact sj_X12_block_309Y_J53 hfu r0 s13 c14 f16 a1 a2 0 (by omega) (by omega) (by omega) (by omega) (by omega) r32 (by first | exact r33 | exact y_DD.z (by omega) (by omega)) r34 (by first | exact r35 | exact y_K.b0 (by omega) | exact y_K.k0 (by omega) | exact y_K.bk (by omega)) (by first | exact r36 | exact y_KM.z (by omega)) (by first | exact r37 | exact y_YM.b0 (by omega) | exact y_YM.k0 (by omega) | exact y_YM.bk (by omega))
    · exact sj_X12_block_309Y_J53 hfu r0 s13 c14 f16 a1 a2 1 (by omega) (by omega) (by omega) (by omega) (by omega) r32 (by first | exact r33 | exact y_DD.z (by omega) (by omega)) r34 (by first | exact r35 | exact y_K.b0 (by omega) | exact y_K.k0 (by omega) | exact y_K.bk (by omega)) (by first | exact r36 | exact y_KM.z (by omega)) (by first | exact r37 | exact y_YM.b0 (by omega) | exact y_YM.k0 (by omega) | exact y_YM.bk (by omega))
