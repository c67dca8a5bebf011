/-! SAFETY, further (by program) -/
abbrev R_X12_set_309 (a b : Int) : Prop := (310 ≤ a ∧ a ≤ 312) ∨ (a = 309 ∧ (b = 0 ∨ b = 36))
abbrev P_X12_set_309 (r0 : z_M) (a1 : Int) (a2 : Int) : z_V → z_M → Prop := fun v s' => z_CI s' ∧ z_Fr R_X12_set_309 r0 s' ∧ (y_TA s') ∧ (y_DD s') ∧ (y_B s') ∧ (y_K s') ∧ (∃ x, v = vI x ∧ -2147483648 ≤ x ∧ x ≤ 2147483647 ∧ (y_MS r0 s' a1 a2 x))
theorem rs_X12_bad_309__X12_set_309 (a b : Int) (h : R_X12_bad_309 a b) : R_X12_set_309 a b := (h.elim (fun h => (Or.inl (⟨by omega, by omega⟩))) (fun h => (Or.inr (⟨h.1, by omega⟩))))
theorem sj_X12_set_309_J46 {fu : Nat} (hfu : 8589934592 ≤ fu) (r0 s : z_M) (c : z_CI s) (f : z_Fr R_X12_set_309 r0 s) (a1 : Int) (a2 : Int) (t1 : Int) (b1 : -2147483648 ≤ a1 ∧ a1 ≤ 2147483647) (b2 : -2147483648 ≤ a2 ∧ a2 ≤ 2147483647) (d1 : 0 ≤ t1 ∧ t1 ≤ 1) (p0 : t1 = 1 ∨ (0 ≤ a1 ∧ a1 ≤ 8)) (p1 : y_RT r0 a1 a2 t1) (p2 : y_SE r0 s) (p3 : s 309 0 = 0) (p4 : y_TA s) (p5 : y_DD s) (p6 : y_B s) (p7 : y_K s) : z_T (fX12_set_J46 fu s 309 a1 a2 309 t1) (P_X12_set_309 r0 a1 a2) := by
  refine T_of (fX12_set_J46.eq_1 ..) ?_
  have u1 := CI_b c (k := 309) (j := 0) bd_309_0
  have u2 := CI_b c (k := 309) (j := 20) bd_309_20
  have u3 := CI_b c (k := 309) (j := 36) bd_309_36
  have u4 := CI_b c (k := 309) (j := 43) bd_309_43
  have u5 := CI_b c (k := 309) (j := 44) bd_309_44
  have u6 := CI_b c (k := 309) (j := 58) bd_309_58
  have u7 := CI_b c (k := 316) (j := 0) bd_316_0
  have u8 := CI_b c (k := 329) (j := 0) bd_329_0
  have u9 := CI_b c (k := 329) (j := 1) bd_329_1
  have t10 : s 309 20 = r0 309 20 := f 309 20 (by decide)
  have t11 : s 309 43 = r0 309 43 := f 309 43 (by decide)
  have t12 : s 309 44 = r0 309 44 := f 309 44 (by decide)
  have t13 : s 309 58 = r0 309 58 := f 309 58 (by decide)
  have t14 : s 316 0 = r0 316 0 := f 316 0 (by decide)
  have t15 : s 329 0 = r0 329 0 := f 329 0 (by decide)
  have t16 : s 329 1 = r0 329 1 := f 329 1 (by decide)
  refine T_if1 (by decide +kernel) ?_
  refine T_useI (sf_X12_bad_309 hfu s c t1 1 1 (by omega) (by omega) (by omega) (by omega)) (fun v22 s17 hq => ?_)
  obtain ⟨c18, f19, o23, ⟨x21, rfl, b24, b25, o26, o27⟩⟩ := hq
  refine T_vI ?_
  have f20 := z_Fr.tr (R := R_X12_set_309) f f19 rs_X12_bad_309__X12_set_309
  have t28 : s17 309 20 = s 309 20 := f19 309 20 (by decide)
  have t29 : s17 309 36 = s 309 36 := f19 309 36 (by decide)
  have t30 : s17 309 43 = s 309 43 := f19 309 43 (by decide)
  have t31 : s17 309 44 = s 309 44 := f19 309 44 (by decide)
  have t32 : s17 309 58 = s 309 58 := f19 309 58 (by decide)
  have t33 : s17 316 0 = s 316 0 := f19 316 0 (by decide)
  have t34 : s17 329 0 = s 329 0 := f19 329 0 (by decide)
  have t35 : s17 329 1 = s 329 1 := f19 329 1 (by decide)
  have u36 := CI_b c18 (k := 309) (j := 0) bd_309_0
  have r37 := id p1 
  have r38 := y_SE.fr p2 (fun b => f19 312 b (nr_X12_bad_309__312 b))
  have r39 := y_TA.fr p4 (fun a b h => f19 a b (nq_X12_bad_309__316 a b h)) (fun a b h => f19 a b (nq_X12_bad_309__346 a b h)) (fun a b h => f19 a b (nq_X12_bad_309__361 a b h))
  have r40 := y_DD.fr p5 (f19 329 0 (by decide)) (f19 329 1 (by decide)) (fun b => f19 359 b (nr_X12_bad_309__359 b)) (fun b => f19 374 b (nr_X12_bad_309__374 b))
  have r41 := y_B.fr p6 (f19 309 20 (by decide)) (f19 316 0 (by decide)) (fun b => f19 3220 b (nr_X12_bad_309__3220 b)) (fun b => f19 3221 b (nr_X12_bad_309__3221 b)) (fun b => f19 3222 b (nr_X12_bad_309__3222 b)) (fun b => f19 361 b (nr_X12_bad_309__361 b))
  have r42 := y_K.fr p7 (by omega) (by omega) (f19 309 44 (by decide)) (f19 309 20 (by decide)) (f19 309 58 (by decide)) (fun b => f19 3438 b (nr_X12_bad_309__3438 b)) (fun b => f19 3220 b (nr_X12_bad_309__3220 b)) (fun a b h => f19 a b (nq_X12_bad_309__3452 a b h))
  refine T_ite (fun h43 => ?_) (fun h43 => ?_)
  · refine T_if1 (by decide +kernel) ?_
    refine T_let 312 (by decide +kernel) ?_
    refine T_if1 (z_ixl (n := 9) (by decide +kernel) (by omega) (by omega)) ?_
    refine T_leq (fun x44 e45 => ?_)
    have u46 := CI_b c18 (k := 312) (j := a1) (bdr_312 a1)
    refine T_if1 (by decide +kernel) ?_
    refine T_let 312 (by decide +kernel) ?_
    refine T_if1 (z_ixl (n := 9) (by decide +kernel) (by omega) (by omega)) ?_
    refine T_upg c18 (bdr_312 a1) (by omega) (fun s47 c48 g50 g51 e52 => ?_)
    have f49 := z_Fr.up (R := R_X12_set_309) f20 g50 (fun _ => (Or.inl (⟨by decide, by decide⟩)))
    have t53 : s47 309 0 = s17 309 0 := g50 309 0 (by decide)
    have t54 : s47 309 20 = s 309 20 := (g50 309 20 (by decide)).trans t28
    have t55 : s47 309 36 = s 309 36 := (g50 309 36 (by decide)).trans t29
    have t56 : s47 309 43 = s 309 43 := (g50 309 43 (by decide)).trans t30
    have t57 : s47 309 44 = s 309 44 := (g50 309 44 (by decide)).trans t31
    have t58 : s47 309 58 = s 309 58 := (g50 309 58 (by decide)).trans t32
    have t59 : s47 316 0 = s 316 0 := (g50 316 0 (by decide)).trans t33
    have t60 : s47 329 0 = s 329 0 := (g50 329 0 (by decide)).trans t34
    have t61 : s47 329 1 = s 329 1 := (g50 329 1 (by decide)).trans t35
    have r62 := id r37 
    have r63 := y_TA.fr r39 (fun a b h => g50 a b (by omega)) (fun a b h => g50 a b (by omega)) (fun a b h => g50 a b (by omega))
    have r64 := y_DD.fr r40 (g50 329 0 (by decide)) (g50 329 1 (by decide)) (fun b => g50 359 b (by decide)) (fun b => g50 374 b (by decide))
    have r65 := y_B.fr r41 (g50 309 20 (by decide)) (g50 316 0 (by decide)) (fun b => g50 3220 b (by decide)) (fun b => g50 3221 b (by decide)) (fun b => g50 3222 b (by decide)) (fun b => g50 361 b (by decide))
    have r66 := y_K.fr r42 (by omega) (by omega) (g50 309 44 (by decide)) (g50 309 20 (by decide)) (g50 309 58 (by decide)) (fun b => g50 3438 b (by decide)) (fun b => g50 3220 b (by decide)) (fun a b h => g50 a b (by omega))
    have r67 : y_S1 r0 s47 a1 a2 x44 := y_S1.mk r38 g51 e52 e45
    clear t28
    clear t29
    clear t30
    clear t31
    clear t32
    clear t33
    clear t34
    clear t35
    refine T_if1 ⟨(by decide +kernel), by unfold z_bl; omega⟩ ?_
    refine T_upg c48 bd_309_36 (by omega) (fun s68 c69 g71 g72 e73 => ?_)
    have f70 := z_Fr.upf (R := R_X12_set_309) f49 g71 g72 (Or.inr (⟨rfl, by decide⟩))
    have t74 : s68 309 0 = s17 309 0 := (g72 0 (by decide)).trans t53
    have t75 : s68 309 20 = s 309 20 := (g72 20 (by decide)).trans t54
    have t76 : s68 309 43 = s 309 43 := (g72 43 (by decide)).trans t56
    have t77 : s68 309 44 = s 309 44 := (g72 44 (by decide)).trans t57
    have t78 : s68 309 58 = s 309 58 := (g72 58 (by decide)).trans t58
    have t79 : s68 316 0 = s 316 0 := (g71 316 0 (by decide)).trans t59
    have t80 : s68 329 0 = s 329 0 := (g71 329 0 (by decide)).trans t60
    have t81 : s68 329 1 = s 329 1 := (g71 329 1 (by decide)).trans t61
    have u82 := CI_b c69 (k := 309) (j := 36) bd_309_36
    have r83 := id r62 
    have r84 := y_TA.fr r63 (fun a b h => g71 a b (by omega)) (fun a b h => g71 a b (by omega)) (fun a b h => g71 a b (by omega))
    have r85 := y_DD.fr r64 (g71 329 0 (by decide)) (g71 329 1 (by decide)) (fun b => g71 359 b (by decide)) (fun b => g71 374 b (by decide))
    have r86 := y_B.fr r65 (g72 20 (by decide)) (g71 316 0 (by decide)) (fun b => g71 3220 b (by decide)) (fun b => g71 3221 b (by decide)) (fun b => g71 3222 b (by decide)) (fun b => g71 361 b (by decide))
    have r87 := y_K.fr r66 (by omega) (by omega) (g72 44 (by decide)) (g72 20 (by decide)) (g72 58 (by decide)) (fun b => g71 3438 b (by decide)) (fun b => g71 3220 b (by decide)) (fun a b h => g71 a b (by omega))
    have r88 := y_S1.fr r67 (fun b => g71 312 b (by decide))
    clear t53
    clear t54
    clear t56
    clear t57
    clear t58
    clear t59
    clear t60
    clear t61
    exact T_ret ⟨c69, f70, r84, (by first | exact r85 | exact y_DD.z (by omega) (by omega)), r86, (by first | exact r87 | exact y_K.b0 (by omega) | exact y_K.k0 (by omega) | exact y_K.bk (by omega)), ⟨x44, rfl, by omega, by omega, (by first | exact y_MS.y r83 r88 (by omega) (by omega))⟩⟩
  · exact T_ret ⟨c18, f20, r39, (by first | exact r40 | exact y_DD.z (by omega) (by omega)), r41, (by first | exact r42 | exact y_K.b0 (by omega) | exact y_K.k0 (by omega) | exact y_K.bk (by omega)), ⟨0, rfl, by omega, by omega, (by first | exact y_MS.n r37 r38 (by omega) (by omega))⟩⟩
theorem sj_X12_set_309_J41 {fu : Nat} (hfu : 8589934592 ≤ fu) (r0 s : z_M) (c : z_CI s) (f : z_Fr R_X12_set_309 r0 s) (a1 : Int) (a2 : Int) (b1 : -2147483648 ≤ a1 ∧ a1 ≤ 2147483647) (b2 : -2147483648 ≤ a2 ∧ a2 ≤ 2147483647) (p0 : ¬ y_RG r0 a1 a2) (p1 : y_SE r0 s) (p2 : s 309 0 = 0) (p3 : y_TA s) (p4 : y_DD s) (p5 : y_B s) (p6 : y_K s) : z_T (fX12_set_J41 fu s 309 a1 a2 309) (P_X12_set_309 r0 a1 a2) := by
  refine T_of (fX12_set_J41.eq_1 ..) ?_
  have u1 := CI_b c (k := 309) (j := 0) bd_309_0
  have u2 := CI_b c (k := 309) (j := 20) bd_309_20
  have u3 := CI_b c (k := 309) (j := 36) bd_309_36
  have u4 := CI_b c (k := 309) (j := 43) bd_309_43
  have u5 := CI_b c (k := 309) (j := 44) bd_309_44
  have u6 := CI_b c (k := 309) (j := 58) bd_309_58
  have u7 := CI_b c (k := 316) (j := 0) bd_316_0
  have u8 := CI_b c (k := 329) (j := 0) bd_329_0
  have u9 := CI_b c (k := 329) (j := 1) bd_329_1
  have t10 : s 309 20 = r0 309 20 := f 309 20 (by decide)
  have t11 : s 309 43 = r0 309 43 := f 309 43 (by decide)
  have t12 : s 309 44 = r0 309 44 := f 309 44 (by decide)
  have t13 : s 309 58 = r0 309 58 := f 309 58 (by decide)
  have t14 : s 316 0 = r0 316 0 := f 316 0 (by decide)
  have t15 : s 329 0 = r0 329 0 := f 329 0 (by decide)
  have t16 : s 329 1 = r0 329 1 := f 329 1 (by decide)
  exact sj_X12_set_309_J46 hfu r0 s c f a1 a2 1 (by omega) (by omega) (by omega) (by omega) (by first | exact y_RT.n p0 (by omega)) p1 (by omega) p3 (by first | exact p4 | exact y_DD.z (by omega) (by omega)) p5 (by first | exact p6 | exact y_K.b0 (by omega) | exact y_K.k0 (by omega) | exact y_K.bk (by omega))
theorem sf_X12_set_309 {fu : Nat} (hfu : 8589934592 ≤ fu) (r0 : z_M) (c0 : z_CI r0) (a1 : Int) (a2 : Int) (b1 : -2147483648 ≤ a1 ∧ a1 ≤ 2147483647) (b2 : -2147483648 ≤ a2 ∧ a2 ≤ 2147483647) (p0 : y_TA r0) (p1 : y_DD r0) (p2 : y_B r0) (p3 : y_K r0) : z_T (fX12_set fu r0 309 a1 a2) (P_X12_set_309 r0 a1 a2) := by
  refine T_of (fX12_set.eq_1 ..) ?_
  have u1 := CI_b c0 (k := 309) (j := 0) bd_309_0
  have u2 := CI_b c0 (k := 309) (j := 20) bd_309_20
  have u3 := CI_b c0 (k := 309) (j := 36) bd_309_36
  have u4 := CI_b c0 (k := 309) (j := 43) bd_309_43
  have u5 := CI_b c0 (k := 309) (j := 44) bd_309_44
  have u6 := CI_b c0 (k := 309) (j := 58) bd_309_58
  have u7 := CI_b c0 (k := 316) (j := 0) bd_316_0
  have u8 := CI_b c0 (k := 329) (j := 0) bd_329_0
  have u9 := CI_b c0 (k := 329) (j := 1) bd_329_1
  have r10 : y_SE r0 r0 := y_SE.z
  refine T_if1 (by decide +kernel) ?_
  refine T_upg c0 bd_309_0 (by omega) (fun s11 c12 g14 g15 e16 => ?_)
  have f13 := z_Fr.upf (R := R_X12_set_309) z_Fr.rf g14 g15 (Or.inr (⟨rfl, by decide⟩))
  have t17 : s11 309 20 = r0 309 20 := g15 20 (by decide)
  have t18 : s11 309 36 = r0 309 36 := g15 36 (by decide)
  have t19 : s11 309 43 = r0 309 43 := g15 43 (by decide)
  have t20 : s11 309 44 = r0 309 44 := g15 44 (by decide)
  have t21 : s11 309 58 = r0 309 58 := g15 58 (by decide)
  have t22 : s11 316 0 = r0 316 0 := g14 316 0 (by decide)
  have t23 : s11 329 0 = r0 329 0 := g14 329 0 (by decide)
  have t24 : s11 329 1 = r0 329 1 := g14 329 1 (by decide)
  have u25 := CI_b c12 (k := 309) (j := 0) bd_309_0
  have r26 := y_TA.fr p0 (fun a b h => g14 a b (by omega)) (fun a b h => g14 a b (by omega)) (fun a b h => g14 a b (by omega))
  have r27 := y_DD.fr p1 (g14 329 0 (by decide)) (g14 329 1 (by decide)) (fun b => g14 359 b (by decide)) (fun b => g14 374 b (by decide))
  have r28 := y_B.fr p2 (g15 20 (by decide)) (g14 316 0 (by decide)) (fun b => g14 3220 b (by decide)) (fun b => g14 3221 b (by decide)) (fun b => g14 3222 b (by decide)) (fun b => g14 361 b (by decide))
  have r29 := y_K.fr p3 (by omega) (by omega) (g15 44 (by decide)) (g15 20 (by decide)) (g15 58 (by decide)) (fun b => g14 3438 b (by decide)) (fun b => g14 3220 b (by decide)) (fun a b h => g14 a b (by omega))
  have r30 := y_SE.fr r10 (fun b => g14 312 b (by decide))
  refine T_useI (sf_X12_more hfu s11 c12 a1 0 (by omega) (by omega)) (fun v36 s31 hq => ?_)
  obtain ⟨c32, f33, ⟨x35, rfl, b37, b38, o39⟩⟩ := hq
  refine T_vI ?_
  have q40 := z_Fr.eq (fun a b h => h) f33
  subst q40
  refine T_useI (sf_X12_less hfu s11 c12 x35 8 (by omega) (by omega)) (fun v46 s41 hq => ?_)
  obtain ⟨c42, f43, ⟨x45, rfl, b47, b48, o49⟩⟩ := hq
  refine T_vI ?_
  have q50 := z_Fr.eq (fun a b h => h) f43
  subst q50
  refine T_ite (fun h51 => ?_) (fun h51 => ?_)
  · exact sj_X12_set_309_J41 hfu r0 s11 c12 f13 a1 a2 (by omega) (by omega) (by first | exact y_NG.i (by omega)) r30 (by omega) r26 (by first | exact r27 | exact y_DD.z (by omega) (by omega)) r28 (by first | exact r29 | exact y_K.b0 (by omega) | exact y_K.k0 (by omega) | exact y_K.bk (by omega))
  · refine T_if1 (by decide +kernel) ?_
    refine T_let 313 (by decide +kernel) ?_
    refine T_if1 (z_ixl (n := 9) (by decide +kernel) (by omega) (by omega)) ?_
    refine T_leq (fun x52 e53 => ?_)
    have u54 := CI_b c12 (k := 313) (j := x45) (bdr_313 x45)
    refine T_if1 (by decide +kernel) ?_
    refine T_let 314 (by decide +kernel) ?_
    refine T_if1 (z_ixl (n := 9) (by decide +kernel) (by omega) (by omega)) ?_
    refine T_leq (fun x55 e56 => ?_)
    have u57 := CI_b c12 (k := 314) (j := x45) (bdr_314 x45)
    refine T_useI (sf_X12_in hfu s11 c12 a2 x52 x55 (by omega) (by omega) (by omega)) (fun v63 s58 hq => ?_)
    obtain ⟨c59, f60, ⟨x62, rfl, b64, b65, o66⟩⟩ := hq
    refine T_vI ?_
    have q67 := z_Fr.eq (fun a b h => h) f60
    subst q67
    have r68 : y_HO r0 a1 a2 x52 x55 := y_HO.mk (fun b => f13 313 b (by unfold R_X12_set_309; omega)) (fun b => f13 314 b (by unfold R_X12_set_309; omega)) (by assumption) (by assumption) (by omega) (by omega)
    refine T_ite (fun h69 => ?_) (fun h69 => ?_)
    · exact sj_X12_set_309_J46 hfu r0 s11 c12 f13 a1 a2 0 (by omega) (by omega) (by omega) (by omega) (by first | exact y_RT.y r68 (by omega) (by omega)) r30 (by omega) r26 (by first | exact r27 | exact y_DD.z (by omega) (by omega)) r28 (by first | exact r29 | exact y_K.b0 (by omega) | exact y_K.k0 (by omega) | exact y_K.bk (by omega))
    · exact sj_X12_set_309_J41 hfu r0 s11 c12 f13 a1 a2 (by omega) (by omega) (by first | exact y_NG.i (by omega) | exact y_NG.h r68 (by omega)) r30 (by omega) r26 (by first | exact r27 | exact y_DD.z (by omega) (by omega)) r28 (by first | exact r29 | exact y_K.b0 (by omega) | exact y_K.k0 (by omega) | exact y_K.bk (by omega))
abbrev R_X12_feed_309 (a b : Int) : Prop := (311 ≤ a ∧ a ≤ 311) ∨ (a = 309 ∧ (b = 0 ∨ b = 2))
abbrev P_X12_feed_309 (r0 : z_M) : z_V → z_M → Prop := fun v s' => z_CI s' ∧ z_Fr R_X12_feed_309 r0 s' ∧ (y_TA s') ∧ (y_DD s') ∧ (y_B s') ∧ (y_K s') ∧ (∃ x, v = vI x ∧ -2147483648 ≤ x ∧ x ≤ 2147483647 ∧ ((r0 309 2 ≤ 280 ∧ s' 309 2 = r0 309 2 + 20 ∧ x = r0 309 2 + 20) ∨ (280 < r0 309 2 ∧ s' 309 2 = r0 309 2 ∧ x = -1)))
theorem sj_X12_feed_309_J76 {fu : Nat} (hfu : 8589934592 ≤ fu) (r0 s : z_M) (c : z_CI s) (f : z_Fr R_X12_feed_309 r0 s) (a1 : Int) (a2 : Int) (a3 : Int) (a4 : Int) (a5 : Int) (a6 : Int) (t0 : Int) (b1 : -2147483648 ≤ a1 ∧ a1 ≤ 2147483647) (b2 : -2147483648 ≤ a2 ∧ a2 ≤ 2147483647) (b3 : -2147483648 ≤ a3 ∧ a3 ≤ 2147483647) (b4 : -2147483648 ≤ a4 ∧ a4 ≤ 2147483647) (b5 : -2147483648 ≤ a5 ∧ a5 ≤ 2147483647) (b6 : 0 ≤ a6 ∧ a6 ≤ 19) (d0 : -2147483648 ≤ t0 ∧ t0 ≤ 2147483647) (p0 : s 309 2 = r0 309 2 + a6) (p1 : r0 309 2 ≤ 280) (p2 : y_TA s) (p3 : y_DD s) (p4 : y_B s) (p5 : y_K s) (M : Int) (pm : 2147483647 - a6 ≤ M) {r : z_M → Int → z_O} {k : z_M → z_O} (hr : ∀ (s' : z_M) (v6 : Int), z_CI s' → z_Fr R_X12_feed_309 r0 s' → (0 ≤ v6 ∧ v6 ≤ 20) → (s' 309 2 = r0 309 2 + v6) → (y_TA s') → (y_DD s') → (y_B s') → (y_K s') → (2147483647 - v6 < M) → z_T (r s' v6) (P_X12_feed_309 r0)) (hk : ∀ (s' : z_M), z_CI s' → z_Fr R_X12_feed_309 r0 s' → (s' 309 2 = r0 309 2 + 20) → (y_TA s') → (y_DD s') → (y_B s') → (y_K s') → z_T (k s') (P_X12_feed_309 r0)) : z_T (fX12_feed_J76 fu s 309 a1 a2 a3 a4 a5 a6 t0 r k) (P_X12_feed_309 r0) := by
  refine T_of (fX12_feed_J76.eq_1 ..) ?_
  have u1 := CI_b c (k := 309) (j := 2) bd_309_2
  have u2 := CI_b c (k := 309) (j := 20) bd_309_20
  have u3 := CI_b c (k := 309) (j := 36) bd_309_36
  have u4 := CI_b c (k := 309) (j := 43) bd_309_43
  have u5 := CI_b c (k := 309) (j := 44) bd_309_44
  have u6 := CI_b c (k := 309) (j := 58) bd_309_58
  have u7 := CI_b c (k := 316) (j := 0) bd_316_0
  have u8 := CI_b c (k := 329) (j := 0) bd_329_0
  have u9 := CI_b c (k := 329) (j := 1) bd_329_1
  have t10 : s 309 20 = r0 309 20 := f 309 20 (by decide)
  have t11 : s 309 36 = r0 309 36 := f 309 36 (by decide)
  have t12 : s 309 43 = r0 309 43 := f 309 43 (by decide)
  have t13 : s 309 44 = r0 309 44 := f 309 44 (by decide)
  have t14 : s 309 58 = r0 309 58 := f 309 58 (by decide)
  have t15 : s 316 0 = r0 316 0 := f 316 0 (by decide)
  have t16 : s 329 0 = r0 329 0 := f 329 0 (by decide)
  have t17 : s 329 1 = r0 329 1 := f 329 1 (by decide)
  refine T_if1 (by decide +kernel) ?_
  refine T_let 311 (by decide +kernel) ?_
  refine T_if1 (by decide +kernel) ?_
  refine T_leq (fun x18 e19 => ?_)
  have u20 := CI_b c (k := 309) (j := 2) bd_309_2
  refine T_if1 (by omega) ?_
  refine T_leq (fun x21 e22 => ?_)
  have w23 := z_tmb e22 (by omega)
  refine T_leq (fun x24 e25 => ?_)
  first | (have w26 := z_wx e25 (by omega)) | (have w26 := z_wr e25)
  refine T_leq (fun x27 e28 => ?_)
  first | (have w29 := z_wx e28 (by omega)) | (have w29 := z_wr e28)
  refine T_leq (fun x30 e31 => ?_)
  have w32 : -2147483648 ≤ x30 ∧ x30 ≤ 2147483647 := by rw [← e31]; exact z_i32b _
  refine T_leq (fun x33 e34 => ?_)
  have w35 : -2147483648 ≤ x33 ∧ x33 ≤ 2147483647 := by rw [← e34]; exact z_i32b _
  refine T_if1 (z_ixl (n := 300) (by decide +kernel) (by omega) (by omega)) ?_
  refine T_upg c (bdr_311 x18) (by omega) (fun s36 c37 g39 g40 e41 => ?_)
  have f38 := z_Fr.up (R := R_X12_feed_309) f g39 (fun _ => (Or.inl (⟨by decide, by decide⟩)))
  have t42 : s36 309 2 = x18 := (g39 309 2 (by decide)).trans e19
  have t43 : s36 309 20 = s 309 20 := g39 309 20 (by decide)
  have t44 : s36 309 36 = s 309 36 := g39 309 36 (by decide)
  have t45 : s36 309 43 = s 309 43 := g39 309 43 (by decide)
  have t46 : s36 309 44 = s 309 44 := g39 309 44 (by decide)
  have t47 : s36 309 58 = s 309 58 := g39 309 58 (by decide)
  have t48 : s36 316 0 = s 316 0 := g39 316 0 (by decide)
  have t49 : s36 329 0 = s 329 0 := g39 329 0 (by decide)
  have t50 : s36 329 1 = s 329 1 := g39 329 1 (by decide)
  have r51 := y_TA.fr p2 (fun a b h => g39 a b (by omega)) (fun a b h => g39 a b (by omega)) (fun a b h => g39 a b (by omega))
  have r52 := y_DD.fr p3 (g39 329 0 (by decide)) (g39 329 1 (by decide)) (fun b => g39 359 b (by decide)) (fun b => g39 374 b (by decide))
  have r53 := y_B.fr p4 (g39 309 20 (by decide)) (g39 316 0 (by decide)) (fun b => g39 3220 b (by decide)) (fun b => g39 3221 b (by decide)) (fun b => g39 3222 b (by decide)) (fun b => g39 361 b (by decide))
  have r54 := y_K.fr p5 (by omega) (by omega) (g39 309 44 (by decide)) (g39 309 20 (by decide)) (g39 309 58 (by decide)) (fun b => g39 3438 b (by decide)) (fun b => g39 3220 b (by decide)) (fun a b h => g39 a b (by omega))
  refine T_if1 (by decide +kernel) ?_
  refine T_leq (fun x55 e56 => ?_)
  have q57 : x18 = x55 := t42.symm.trans e56
  subst q57
  refine T_leq (fun x58 e59 => ?_)
  first | (have w60 := z_wx e59 (by omega)) | (have w60 := z_wr e59)
  refine T_if1 (by decide +kernel) ?_
  refine T_upg c37 bd_309_2 (by omega) (fun s61 c62 g64 g65 e66 => ?_)
  have f63 := z_Fr.upf (R := R_X12_feed_309) f38 g64 g65 (Or.inr (⟨rfl, by decide⟩))
  have t67 : s61 309 20 = s 309 20 := (g65 20 (by decide)).trans t43
  have t68 : s61 309 36 = s 309 36 := (g65 36 (by decide)).trans t44
  have t69 : s61 309 43 = s 309 43 := (g65 43 (by decide)).trans t45
  have t70 : s61 309 44 = s 309 44 := (g65 44 (by decide)).trans t46
  have t71 : s61 309 58 = s 309 58 := (g65 58 (by decide)).trans t47
  have t72 : s61 316 0 = s 316 0 := (g64 316 0 (by decide)).trans t48
  have t73 : s61 329 0 = s 329 0 := (g64 329 0 (by decide)).trans t49
  have t74 : s61 329 1 = s 329 1 := (g64 329 1 (by decide)).trans t50
  have u75 := CI_b c62 (k := 309) (j := 2) bd_309_2
  have r76 := y_TA.fr r51 (fun a b h => g64 a b (by omega)) (fun a b h => g64 a b (by omega)) (fun a b h => g64 a b (by omega))
  have r77 := y_DD.fr r52 (g64 329 0 (by decide)) (g64 329 1 (by decide)) (fun b => g64 359 b (by decide)) (fun b => g64 374 b (by decide))
  have r78 := y_B.fr r53 (g65 20 (by decide)) (g64 316 0 (by decide)) (fun b => g64 3220 b (by decide)) (fun b => g64 3221 b (by decide)) (fun b => g64 3222 b (by decide)) (fun b => g64 361 b (by decide))
  have r79 := y_K.fr r54 (by omega) (by omega) (g65 44 (by decide)) (g65 20 (by decide)) (g65 58 (by decide)) (fun b => g64 3438 b (by decide)) (fun b => g64 3220 b (by decide)) (fun a b h => g64 a b (by omega))
  clear t43
  clear t44
  clear t45
  clear t46
  clear t47
  clear t48
  clear t49
  clear t50
  refine T_leq (fun x80 e81 => ?_)
  first | (have w82 := z_wx e81 (by omega)) | (have w82 := z_wr e81)
  exact hr s61 x80 c62 f63 (by omega) (by omega) r76 (by first | exact r77 | exact y_DD.z (by omega) (by omega)) r78 (by first | exact r79 | exact y_K.b0 (by omega) | exact y_K.k0 (by omega) | exact y_K.bk (by omega)) (by omega)
theorem sl_X12_feed_309_L23 {fu : Nat} (hfu : 8589934592 ≤ fu) (r0 : z_M) (a1 : Int) (a2 : Int) (a3 : Int) (a4 : Int) (a5 : Int) (b1 : -2147483648 ≤ a1 ∧ a1 ≤ 2147483647) (b2 : -2147483648 ≤ a2 ∧ a2 ≤ 2147483647) (b3 : -2147483648 ≤ a3 ∧ a3 ≤ 2147483647) (b4 : -2147483648 ≤ a4 ∧ a4 ≤ 2147483647) (b5 : -2147483648 ≤ a5 ∧ a5 ≤ 2147483647) (q0 : r0 309 2 ≤ 280) {k : z_M → z_O} (hk : ∀ (s' : z_M), z_CI s' → z_Fr R_X12_feed_309 r0 s' → (s' 309 2 = r0 309 2 + 20) → (y_TA s') → (y_DD s') → (y_B s') → (y_K s') → z_T (k s') (P_X12_feed_309 r0)) : ∀ (F : Nat) (s : z_M) (a6 : Int), z_CI s → z_Fr R_X12_feed_309 r0 s → (0 ≤ a6 ∧ a6 ≤ 20) → (s 309 2 = r0 309 2 + a6) → (y_TA s) → (y_DD s) → (y_B s) → (y_K s) → (2147483647 - a6 < (F : Int)) → z_T (fX12_feed_L23 fu 309 a1 a2 a3 a4 a5 F s a6 k) (P_X12_feed_309 r0) := by
  intro F
  induction F with
  | zero =>
    intro s a6 c f b6 i0 i1 i2 i3 i4 hm
    have u23 := CI_b c (k := 309) (j := 2) bd_309_2
    have u24 := CI_b c (k := 309) (j := 20) bd_309_20
    have u25 := CI_b c (k := 309) (j := 36) bd_309_36
    have u26 := CI_b c (k := 309) (j := 43) bd_309_43
    have u27 := CI_b c (k := 309) (j := 44) bd_309_44
    have u28 := CI_b c (k := 309) (j := 58) bd_309_58
    have u29 := CI_b c (k := 316) (j := 0) bd_316_0
    have u30 := CI_b c (k := 329) (j := 0) bd_329_0
    have u31 := CI_b c (k := 329) (j := 1) bd_329_1
    exfalso; omega
  | succ F ih =>
    intro s a6 c f b6 i0 i1 i2 i3 i4 hm
    refine T_of (fX12_feed_L23.eq_2 ..) ?_
    have u1 := CI_b c (k := 309) (j := 2) bd_309_2
    have u2 := CI_b c (k := 309) (j := 20) bd_309_20
    have u3 := CI_b c (k := 309) (j := 36) bd_309_36
    have u4 := CI_b c (k := 309) (j := 43) bd_309_43
    have u5 := CI_b c (k := 309) (j := 44) bd_309_44
    have u6 := CI_b c (k := 309) (j := 58) bd_309_58
    have u7 := CI_b c (k := 316) (j := 0) bd_316_0
    have u8 := CI_b c (k := 329) (j := 0) bd_329_0
    have u9 := CI_b c (k := 329) (j := 1) bd_329_1
    have t10 : s 309 20 = r0 309 20 := f 309 20 (by decide)
    have t11 : s 309 36 = r0 309 36 := f 309 36 (by decide)
    have t12 : s 309 43 = r0 309 43 := f 309 43 (by decide)
    have t13 : s 309 44 = r0 309 44 := f 309 44 (by decide)
    have t14 : s 309 58 = r0 309 58 := f 309 58 (by decide)
    have t15 : s 316 0 = r0 316 0 := f 316 0 (by decide)
    have t16 : s 329 0 = r0 329 0 := f 329 0 (by decide)
    have t17 : s 329 1 = r0 329 1 := f 329 1 (by decide)
    refine T_ite (fun h18 => ?_) (fun h18 => ?_)
    · exact hk s c f (by omega) i1 (by first | exact i2 | exact y_DD.z (by omega) (by omega)) i3 (by first | exact i4 | exact y_K.b0 (by omega) | exact y_K.k0 (by omega) | exact y_K.bk (by omega))
    · refine T_ite (fun h19 => ?_) (fun h19 => ?_)
      · refine T_ite (fun h20 => ?_) (fun h20 => ?_)
        · refine T_ite (fun h21 => ?_) (fun h21 => ?_)
          · refine T_ite (fun h22 => ?_) (fun h22 => ?_)
            · exact sj_X12_feed_309_J76 hfu r0 s c f a1 a2 a3 a4 a5 a6 a5 (by omega) (by omega) (by omega) (by omega) (by omega) (by omega) (by omega) (by omega) (by omega) i1 (by first | exact i2 | exact y_DD.z (by omega) (by omega)) i3 (by first | exact i4 | exact y_K.b0 (by omega) | exact y_K.k0 (by omega) | exact y_K.bk (by omega)) (2147483647 - a6) (by omega) (fun s' v6 c' f' w6 z0 z1 z2 z3 z4 pg => ih s' v6 c' f' w6 z0 z1 z2 z3 z4 (by omega)) hk
            · exact sj_X12_feed_309_J76 hfu r0 s c f a1 a2 a3 a4 a5 a6 a4 (by omega) (by omega) (by omega) (by omega) (by omega) (by omega) (by omega) (by omega) (by omega) i1 (by first | exact i2 | exact y_DD.z (by omega) (by omega)) i3 (by first | exact i4 | exact y_K.b0 (by omega) | exact y_K.k0 (by omega) | exact y_K.bk (by omega)) (2147483647 - a6) (by omega) (fun s' v6 c' f' w6 z0 z1 z2 z3 z4 pg => ih s' v6 c' f' w6 z0 z1 z2 z3 z4 (by omega)) hk
          · exact sj_X12_feed_309_J76 hfu r0 s c f a1 a2 a3 a4 a5 a6 a3 (by omega) (by omega) (by omega) (by omega) (by omega) (by omega) (by omega) (by omega) (by omega) i1 (by first | exact i2 | exact y_DD.z (by omega) (by omega)) i3 (by first | exact i4 | exact y_K.b0 (by omega) | exact y_K.k0 (by omega) | exact y_K.bk (by omega)) (2147483647 - a6) (by omega) (fun s' v6 c' f' w6 z0 z1 z2 z3 z4 pg => ih s' v6 c' f' w6 z0 z1 z2 z3 z4 (by omega)) hk
        · exact sj_X12_feed_309_J76 hfu r0 s c f a1 a2 a3 a4 a5 a6 a2 (by omega) (by omega) (by omega) (by omega) (by omega) (by omega) (by omega) (by omega) (by omega) i1 (by first | exact i2 | exact y_DD.z (by omega) (by omega)) i3 (by first | exact i4 | exact y_K.b0 (by omega) | exact y_K.k0 (by omega) | exact y_K.bk (by omega)) (2147483647 - a6) (by omega) (fun s' v6 c' f' w6 z0 z1 z2 z3 z4 pg => ih s' v6 c' f' w6 z0 z1 z2 z3 z4 (by omega)) hk
      · exact sj_X12_feed_309_J76 hfu r0 s c f a1 a2 a3 a4 a5 a6 a1 (by omega) (by omega) (by omega) (by omega) (by omega) (by omega) (by omega) (by omega) (by omega) i1 (by first | exact i2 | exact y_DD.z (by omega) (by omega)) i3 (by first | exact i4 | exact y_K.b0 (by omega) | exact y_K.k0 (by omega) | exact y_K.bk (by omega)) (2147483647 - a6) (by omega) (fun s' v6 c' f' w6 z0 z1 z2 z3 z4 pg => ih s' v6 c' f' w6 z0 z1 z2 z3 z4 (by omega)) hk
theorem sf_X12_feed_309 {fu : Nat} (hfu : 8589934592 ≤ fu) (r0 : z_M) (c0 : z_CI r0) (a1 : Int) (a2 : Int) (a3 : Int) (a4 : Int) (a5 : Int) (b1 : -2147483648 ≤ a1 ∧ a1 ≤ 2147483647) (b2 : -2147483648 ≤ a2 ∧ a2 ≤ 2147483647) (b3 : -2147483648 ≤ a3 ∧ a3 ≤ 2147483647) (b4 : -2147483648 ≤ a4 ∧ a4 ≤ 2147483647) (b5 : -2147483648 ≤ a5 ∧ a5 ≤ 2147483647) (p0 : y_TA r0) (p1 : y_DD r0) (p2 : y_B r0) (p3 : y_K r0) : z_T (fX12_feed fu r0 309 a1 a2 a3 a4 a5) (P_X12_feed_309 r0) := by
  refine T_of (fX12_feed.eq_1 ..) ?_
  have u1 := CI_b c0 (k := 309) (j := 2) bd_309_2
  have u2 := CI_b c0 (k := 309) (j := 20) bd_309_20
  have u3 := CI_b c0 (k := 309) (j := 36) bd_309_36
  have u4 := CI_b c0 (k := 309) (j := 43) bd_309_43
  have u5 := CI_b c0 (k := 309) (j := 44) bd_309_44
  have u6 := CI_b c0 (k := 309) (j := 58) bd_309_58
  have u7 := CI_b c0 (k := 316) (j := 0) bd_316_0
  have u8 := CI_b c0 (k := 329) (j := 0) bd_329_0
  have u9 := CI_b c0 (k := 329) (j := 1) bd_329_1
  refine T_if1 (by decide +kernel) ?_
  refine T_upg c0 bd_309_0 (by omega) (fun s10 c11 g13 g14 e15 => ?_)
  have f12 := z_Fr.upf (R := R_X12_feed_309) z_Fr.rf g13 g14 (Or.inr (⟨rfl, by decide⟩))
  have t16 : s10 309 2 = r0 309 2 := g14 2 (by decide)
  have t17 : s10 309 20 = r0 309 20 := g14 20 (by decide)
  have t18 : s10 309 36 = r0 309 36 := g14 36 (by decide)
  have t19 : s10 309 43 = r0 309 43 := g14 43 (by decide)
  have t20 : s10 309 44 = r0 309 44 := g14 44 (by decide)
  have t21 : s10 309 58 = r0 309 58 := g14 58 (by decide)
  have t22 : s10 316 0 = r0 316 0 := g13 316 0 (by decide)
  have t23 : s10 329 0 = r0 329 0 := g13 329 0 (by decide)
  have t24 : s10 329 1 = r0 329 1 := g13 329 1 (by decide)
  have r25 := y_TA.fr p0 (fun a b h => g13 a b (by omega)) (fun a b h => g13 a b (by omega)) (fun a b h => g13 a b (by omega))
  have r26 := y_DD.fr p1 (g13 329 0 (by decide)) (g13 329 1 (by decide)) (fun b => g13 359 b (by decide)) (fun b => g13 374 b (by decide))
  have r27 := y_B.fr p2 (g14 20 (by decide)) (g13 316 0 (by decide)) (fun b => g13 3220 b (by decide)) (fun b => g13 3221 b (by decide)) (fun b => g13 3222 b (by decide)) (fun b => g13 361 b (by decide))
  have r28 := y_K.fr p3 (by omega) (by omega) (g14 44 (by decide)) (g14 20 (by decide)) (g14 58 (by decide)) (fun b => g13 3438 b (by decide)) (fun b => g13 3220 b (by decide)) (fun a b h => g13 a b (by omega))
  refine T_if1 (by decide +kernel) ?_
  refine T_leq (fun x29 e30 => ?_)
  have u31 := CI_b c11 (k := 309) (j := 2) bd_309_2
  refine T_leq (fun x32 e33 => ?_)
  first | (have w34 := z_wx e33 (by omega)) | (have w34 := z_wr e33)
  refine T_ite (fun h35 => ?_) (fun h35 => ?_)
  · refine sl_X12_feed_309_L23 hfu r0 a1 a2 a3 a4 a5 (by omega) (by omega) (by omega) (by omega) (by omega) (by omega) (fun s36 c37 f38 g39 g40 g41 g42 g43 => ?_) fu s10 0 c11 f12 (by omega) (by omega) r25 (by first | exact r26 | exact y_DD.z (by omega) (by omega)) r27 (by first | exact r28 | exact y_K.b0 (by omega) | exact y_K.k0 (by omega) | exact y_K.bk (by omega)) (by omega)
    have u44 := CI_b c37 (k := 309) (j := 2) bd_309_2
    have u45 := CI_b c37 (k := 309) (j := 20) bd_309_20
    have u46 := CI_b c37 (k := 309) (j := 36) bd_309_36
    have u47 := CI_b c37 (k := 309) (j := 43) bd_309_43
    have u48 := CI_b c37 (k := 309) (j := 44) bd_309_44
    have u49 := CI_b c37 (k := 309) (j := 58) bd_309_58
    have u50 := CI_b c37 (k := 316) (j := 0) bd_316_0
    have u51 := CI_b c37 (k := 329) (j := 0) bd_329_0
    have u52 := CI_b c37 (k := 329) (j := 1) bd_329_1
    have t53 : s36 309 20 = r0 309 20 := f38 309 20 (by decide)
    have t54 : s36 309 36 = r0 309 36 := f38 309 36 (by decide)
    have t55 : s36 309 43 = r0 309 43 := f38 309 43 (by decide)
    have t56 : s36 309 44 = r0 309 44 := f38 309 44 (by decide)
    have t57 : s36 309 58 = r0 309 58 := f38 309 58 (by decide)
    have t58 : s36 316 0 = r0 316 0 := f38 316 0 (by decide)
    have t59 : s36 329 0 = r0 329 0 := f38 329 0 (by decide)
    have t60 : s36 329 1 = r0 329 1 := f38 329 1 (by decide)
    refine T_if1 (by decide +kernel) ?_
    refine T_leq (fun x61 e62 => ?_)
    have u63 := CI_b c37 (k := 309) (j := 2) bd_309_2
    exact T_ret ⟨c37, f38, g40, (by first | exact g41 | exact y_DD.z (by omega) (by omega)), g42, (by first | exact g43 | exact y_K.b0 (by omega) | exact y_K.k0 (by omega) | exact y_K.bk (by omega)), ⟨x61, rfl, by omega, by omega, (by omega)⟩⟩
  · exact T_ret ⟨c11, f12, r25, (by first | exact r26 | exact y_DD.z (by omega) (by omega)), r27, (by first | exact r28 | exact y_K.b0 (by omega) | exact y_K.k0 (by omega) | exact y_K.bk (by omega)), ⟨(-1), rfl, by omega, by omega, (by omega)⟩⟩
