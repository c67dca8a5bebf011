/-! READING, 6: the reference's readers (by program, wip/tool/mksim.py) -/
def y_K1 (r s : z_M) : Prop := ∀ b, s 311 b = r 311 b
theorem y_K1.rf {r : z_M} : y_K1 r r := fun _ => rfl
theorem y_K1.fr {r s s' : z_M} (h : y_K1 r s) (k : ∀ b, s' 311 b = s 311 b) : y_K1 r s' := fun b => (k b).trans (h b)
abbrev P_X12_set_309T (r0 : z_M) (a1 : Int) (a2 : Int) : z_V → z_M → Prop := fun v s' => z_CI s' ∧ z_Fr R_X12_set_309 r0 s' ∧ (y_TA s') ∧ (y_DD s') ∧ (y_B s') ∧ (y_K s') ∧ (y_K1 r0 s') ∧ (∃ x, v = vI x ∧ -2147483648 ≤ x ∧ x ≤ 2147483647 ∧ (y_MS r0 s' a1 a2 x))
theorem nr_X12_bad_309__311 (b : Int) : ¬ R_X12_bad_309 311 b := by
  unfold R_X12_bad_309; omega
theorem sj_X12_set_309T_J46 {fu : Nat} (hfu : 8589934592 ≤ fu) (r0 s : z_M) (c : z_CI s) (f : z_Fr R_X12_set_309 r0 s) (a1 : Int) (a2 : Int) (t1 : Int) (b1 : -2147483648 ≤ a1 ∧ a1 ≤ 2147483647) (b2 : -2147483648 ≤ a2 ∧ a2 ≤ 2147483647) (d1 : 0 ≤ t1 ∧ t1 ≤ 1) (p0 : t1 = 1 ∨ (0 ≤ a1 ∧ a1 ≤ 8)) (p1 : y_RT r0 a1 a2 t1) (p2 : y_SE r0 s) (p3 : s 309 0 = 0) (p4 : y_TA s) (p5 : y_DD s) (p6 : y_B s) (p7 : y_K s) (p8 : y_K1 r0 s) : z_T (fX12_set_J46 fu s 309 a1 a2 309 t1) (P_X12_set_309T r0 a1 a2) := by
  refine T_of (fX12_set_J46.eq_1 ..) ?_
  have u1 := CI_b c (k := 309) (j := 0) bd_309_0
  have u2 := CI_b c (k := 309) (j := 20) bd_309_20
  have u3 := CI_b c (k := 309) (j := 36) bd_309_36
  have u4 := CI_b c (k := 309) (j := 43) bd_309_43
  have u5 := CI_b c (k := 309) (j := 44) bd_309_44
  have u6 := CI_b c (k := 309) (j := 58) bd_309_58
  have u7 := CI_b c (k := 316) (j := 0) bd_316_0
  have u8 := CI_b c (k := 329) (j := 0) bd_329_0
  have u9 := CI_b c (k := 329) (j := 1) bd_329_1
  have t10 : s 309 20 = r0 309 20 := f 309 20 (by decide)
  have t11 : s 309 43 = r0 309 43 := f 309 43 (by decide)
  have t12 : s 309 44 = r0 309 44 := f 309 44 (by decide)
  have t13 : s 309 58 = r0 309 58 := f 309 58 (by decide)
  have t14 : s 316 0 = r0 316 0 := f 316 0 (by decide)
  have t15 : s 329 0 = r0 329 0 := f 329 0 (by decide)
  have t16 : s 329 1 = r0 329 1 := f 329 1 (by decide)
  refine T_if1 (by decide +kernel) ?_
  refine T_useI (sf_X12_bad_309 hfu s c t1 1 1 (by omega) (by omega) (by omega) (by omega)) (fun v22 s17 hq => ?_)
  obtain ⟨c18, f19, o23, ⟨x21, rfl, b24, b25, o26, o27⟩⟩ := hq
  refine T_vI ?_
  have f20 := z_Fr.tr (R := R_X12_set_309) f f19 rs_X12_bad_309__X12_set_309
  have t28 : s17 309 20 = s 309 20 := f19 309 20 (by decide)
  have t29 : s17 309 36 = s 309 36 := f19 309 36 (by decide)
  have t30 : s17 309 43 = s 309 43 := f19 309 43 (by decide)
  have t31 : s17 309 44 = s 309 44 := f19 309 44 (by decide)
  have t32 : s17 309 58 = s 309 58 := f19 309 58 (by decide)
  have t33 : s17 316 0 = s 316 0 := f19 316 0 (by decide)
  have t34 : s17 329 0 = s 329 0 := f19 329 0 (by decide)
  have t35 : s17 329 1 = s 329 1 := f19 329 1 (by decide)
  have u36 := CI_b c18 (k := 309) (j := 0) bd_309_0
  have r37 := id p1 
  have r38 := y_SE.fr p2 (fun b => f19 312 b (nr_X12_bad_309__312 b))
  have r39 := y_TA.fr p4 (fun a b h => f19 a b (nz_X12_bad_309__316_328 a b h)) (fun a b h => f19 a b (nz_X12_bad_309__346_358 a b h)) (fun a b h => f19 a b (nz_X12_bad_309__361_373 a b h))
  have r40 := y_DD.fr p5 (f19 329 0 (by decide)) (f19 329 1 (by decide)) (fun b => f19 359 b (nr_X12_bad_309__359 b)) (fun b => f19 374 b (nr_X12_bad_309__374 b))
  have r41 := y_B.fr p6 (f19 309 20 (by decide)) (f19 316 0 (by decide)) (fun b => f19 3220 b (nr_X12_bad_309__3220 b)) (fun b => f19 3221 b (nr_X12_bad_309__3221 b)) (fun b => f19 3222 b (nr_X12_bad_309__3222 b)) (fun b => f19 361 b (nr_X12_bad_309__361 b))
  have r42 := y_K.fr p7 (by omega) (by omega) (f19 309 44 (by decide)) (f19 309 20 (by decide)) (f19 309 58 (by decide)) (fun b => f19 3438 b (nr_X12_bad_309__3438 b)) (fun b => f19 3220 b (nr_X12_bad_309__3220 b)) (fun a b h => f19 a b (nz_X12_bad_309__3452_3651 a b h))
  have r43 := y_K1.fr p8 (fun b => f19 311 b (nr_X12_bad_309__311 b))
  refine T_ite (fun h44 => ?_) (fun h44 => ?_)
  · refine T_if1 (by decide +kernel) ?_
    refine T_let 312 (by decide +kernel) ?_
    refine T_if1 (z_ixl (n := 9) (by decide +kernel) (by omega) (by omega)) ?_
    refine T_leq (fun x45 e46 => ?_)
    have u47 := CI_b c18 (k := 312) (j := a1) (bdr_312 a1)
    refine T_if1 (by decide +kernel) ?_
    refine T_let 312 (by decide +kernel) ?_
    refine T_if1 (z_ixl (n := 9) (by decide +kernel) (by omega) (by omega)) ?_
    refine T_upg c18 (bdr_312 a1) (by omega) (fun s48 c49 g51 g52 e53 => ?_)
    have f50 := z_Fr.up (R := R_X12_set_309) f20 g51 (fun _ => (Or.inl (⟨by decide, by decide⟩)))
    have t54 : s48 309 0 = s17 309 0 := g51 309 0 (by decide)
    have t55 : s48 309 20 = s 309 20 := (g51 309 20 (by decide)).trans t28
    have t56 : s48 309 36 = s 309 36 := (g51 309 36 (by decide)).trans t29
    have t57 : s48 309 43 = s 309 43 := (g51 309 43 (by decide)).trans t30
    have t58 : s48 309 44 = s 309 44 := (g51 309 44 (by decide)).trans t31
    have t59 : s48 309 58 = s 309 58 := (g51 309 58 (by decide)).trans t32
    have t60 : s48 316 0 = s 316 0 := (g51 316 0 (by decide)).trans t33
    have t61 : s48 329 0 = s 329 0 := (g51 329 0 (by decide)).trans t34
    have t62 : s48 329 1 = s 329 1 := (g51 329 1 (by decide)).trans t35
    have r63 := id r37 
    have r64 := y_TA.fr r39 (fun a b h => g51 a b (by omega)) (fun a b h => g51 a b (by omega)) (fun a b h => g51 a b (by omega))
    have r65 := y_DD.fr r40 (g51 329 0 (by decide)) (g51 329 1 (by decide)) (fun b => g51 359 b (by decide)) (fun b => g51 374 b (by decide))
    have r66 := y_B.fr r41 (g51 309 20 (by decide)) (g51 316 0 (by decide)) (fun b => g51 3220 b (by decide)) (fun b => g51 3221 b (by decide)) (fun b => g51 3222 b (by decide)) (fun b => g51 361 b (by decide))
    have r67 := y_K.fr r42 (by omega) (by omega) (g51 309 44 (by decide)) (g51 309 20 (by decide)) (g51 309 58 (by decide)) (fun b => g51 3438 b (by decide)) (fun b => g51 3220 b (by decide)) (fun a b h => g51 a b (by omega))
    have r68 := y_K1.fr r43 (fun b => g51 311 b (by decide))
    have r69 : y_S1 r0 s48 a1 a2 x45 := y_S1.mk r38 g52 e53 e46
    clear t28
    clear t29
    clear t30
    clear t31
    clear t32
    clear t33
    clear t34
    clear t35
    refine T_if1 ⟨(by decide +kernel), by unfold z_bl; omega⟩ ?_
    refine T_upg c49 bd_309_36 (by omega) (fun s70 c71 g73 g74 e75 => ?_)
    have f72 := z_Fr.upf (R := R_X12_set_309) f50 g73 g74 (Or.inr (⟨rfl, by decide⟩))
    have t76 : s70 309 0 = s17 309 0 := (g74 0 (by decide)).trans t54
    have t77 : s70 309 20 = s 309 20 := (g74 20 (by decide)).trans t55
    have t78 : s70 309 43 = s 309 43 := (g74 43 (by decide)).trans t57
    have t79 : s70 309 44 = s 309 44 := (g74 44 (by decide)).trans t58
    have t80 : s70 309 58 = s 309 58 := (g74 58 (by decide)).trans t59
    have t81 : s70 316 0 = s 316 0 := (g73 316 0 (by decide)).trans t60
    have t82 : s70 329 0 = s 329 0 := (g73 329 0 (by decide)).trans t61
    have t83 : s70 329 1 = s 329 1 := (g73 329 1 (by decide)).trans t62
    have u84 := CI_b c71 (k := 309) (j := 36) bd_309_36
    have r85 := id r63 
    have r86 := y_TA.fr r64 (fun a b h => g73 a b (by omega)) (fun a b h => g73 a b (by omega)) (fun a b h => g73 a b (by omega))
    have r87 := y_DD.fr r65 (g73 329 0 (by decide)) (g73 329 1 (by decide)) (fun b => g73 359 b (by decide)) (fun b => g73 374 b (by decide))
    have r88 := y_B.fr r66 (g74 20 (by decide)) (g73 316 0 (by decide)) (fun b => g73 3220 b (by decide)) (fun b => g73 3221 b (by decide)) (fun b => g73 3222 b (by decide)) (fun b => g73 361 b (by decide))
    have r89 := y_K.fr r67 (by omega) (by omega) (g74 44 (by decide)) (g74 20 (by decide)) (g74 58 (by decide)) (fun b => g73 3438 b (by decide)) (fun b => g73 3220 b (by decide)) (fun a b h => g73 a b (by omega))
    have r90 := y_K1.fr r68 (fun b => g73 311 b (by decide))
    have r91 := y_S1.fr r69 (fun b => g73 312 b (by decide))
    clear t54
    clear t55
    clear t57
    clear t58
    clear t59
    clear t60
    clear t61
    clear t62
    exact T_ret ⟨c71, f72, r86, (by first | exact r87 | exact y_DD.z (by omega) (by omega)), r88, (by first | exact r89 | exact y_K.b0 (by omega) | exact y_K.k0 (by omega) | exact y_K.bk (by omega)), r90, ⟨x45, rfl, by omega, by omega, (by first | exact y_MS.y r85 r91 (by omega) (by omega))⟩⟩
  · exact T_ret ⟨c18, f20, r39, (by first | exact r40 | exact y_DD.z (by omega) (by omega)), r41, (by first | exact r42 | exact y_K.b0 (by omega) | exact y_K.k0 (by omega) | exact y_K.bk (by omega)), r43, ⟨0, rfl, by omega, by omega, (by first | exact y_MS.n r37 r38 (by omega) (by omega))⟩⟩
theorem sj_X12_set_309T_J41 {fu : Nat} (hfu : 8589934592 ≤ fu) (r0 s : z_M) (c : z_CI s) (f : z_Fr R_X12_set_309 r0 s) (a1 : Int) (a2 : Int) (b1 : -2147483648 ≤ a1 ∧ a1 ≤ 2147483647) (b2 : -2147483648 ≤ a2 ∧ a2 ≤ 2147483647) (p0 : ¬ y_RG r0 a1 a2) (p1 : y_SE r0 s) (p2 : s 309 0 = 0) (p3 : y_TA s) (p4 : y_DD s) (p5 : y_B s) (p6 : y_K s) (p7 : y_K1 r0 s) : z_T (fX12_set_J41 fu s 309 a1 a2 309) (P_X12_set_309T r0 a1 a2) := by
  refine T_of (fX12_set_J41.eq_1 ..) ?_
  have u1 := CI_b c (k := 309) (j := 0) bd_309_0
  have u2 := CI_b c (k := 309) (j := 20) bd_309_20
  have u3 := CI_b c (k := 309) (j := 36) bd_309_36
  have u4 := CI_b c (k := 309) (j := 43) bd_309_43
  have u5 := CI_b c (k := 309) (j := 44) bd_309_44
  have u6 := CI_b c (k := 309) (j := 58) bd_309_58
  have u7 := CI_b c (k := 316) (j := 0) bd_316_0
  have u8 := CI_b c (k := 329) (j := 0) bd_329_0
  have u9 := CI_b c (k := 329) (j := 1) bd_329_1
  have t10 : s 309 20 = r0 309 20 := f 309 20 (by decide)
  have t11 : s 309 43 = r0 309 43 := f 309 43 (by decide)
  have t12 : s 309 44 = r0 309 44 := f 309 44 (by decide)
  have t13 : s 309 58 = r0 309 58 := f 309 58 (by decide)
  have t14 : s 316 0 = r0 316 0 := f 316 0 (by decide)
  have t15 : s 329 0 = r0 329 0 := f 329 0 (by decide)
  have t16 : s 329 1 = r0 329 1 := f 329 1 (by decide)
  exact sj_X12_set_309T_J46 hfu r0 s c f a1 a2 1 (by omega) (by omega) (by omega) (by omega) (by first | exact y_RT.n p0 (by omega)) p1 (by omega) p3 (by first | exact p4 | exact y_DD.z (by omega) (by omega)) p5 (by first | exact p6 | exact y_K.b0 (by omega) | exact y_K.k0 (by omega) | exact y_K.bk (by omega)) p7
theorem sf_X12_set_309T {fu : Nat} (hfu : 8589934592 ≤ fu) (r0 : z_M) (c0 : z_CI r0) (a1 : Int) (a2 : Int) (b1 : -2147483648 ≤ a1 ∧ a1 ≤ 2147483647) (b2 : -2147483648 ≤ a2 ∧ a2 ≤ 2147483647) (p0 : y_TA r0) (p1 : y_DD r0) (p2 : y_B r0) (p3 : y_K r0) : z_T (fX12_set fu r0 309 a1 a2) (P_X12_set_309T r0 a1 a2) := by
  refine T_of (fX12_set.eq_1 ..) ?_
  have u1 := CI_b c0 (k := 309) (j := 0) bd_309_0
  have u2 := CI_b c0 (k := 309) (j := 20) bd_309_20
  have u3 := CI_b c0 (k := 309) (j := 36) bd_309_36
  have u4 := CI_b c0 (k := 309) (j := 43) bd_309_43
  have u5 := CI_b c0 (k := 309) (j := 44) bd_309_44
  have u6 := CI_b c0 (k := 309) (j := 58) bd_309_58
  have u7 := CI_b c0 (k := 316) (j := 0) bd_316_0
  have u8 := CI_b c0 (k := 329) (j := 0) bd_329_0
  have u9 := CI_b c0 (k := 329) (j := 1) bd_329_1
  have r10 : y_SE r0 r0 := y_SE.z
  have r11 : y_K1 r0 r0 := y_K1.rf
  refine T_if1 (by decide +kernel) ?_
  refine T_upg c0 bd_309_0 (by omega) (fun s12 c13 g15 g16 e17 => ?_)
  have f14 := z_Fr.upf (R := R_X12_set_309) z_Fr.rf g15 g16 (Or.inr (⟨rfl, by decide⟩))
  have t18 : s12 309 20 = r0 309 20 := g16 20 (by decide)
  have t19 : s12 309 36 = r0 309 36 := g16 36 (by decide)
  have t20 : s12 309 43 = r0 309 43 := g16 43 (by decide)
  have t21 : s12 309 44 = r0 309 44 := g16 44 (by decide)
  have t22 : s12 309 58 = r0 309 58 := g16 58 (by decide)
  have t23 : s12 316 0 = r0 316 0 := g15 316 0 (by decide)
  have t24 : s12 329 0 = r0 329 0 := g15 329 0 (by decide)
  have t25 : s12 329 1 = r0 329 1 := g15 329 1 (by decide)
  have u26 := CI_b c13 (k := 309) (j := 0) bd_309_0
  have r27 := y_TA.fr p0 (fun a b h => g15 a b (by omega)) (fun a b h => g15 a b (by omega)) (fun a b h => g15 a b (by omega))
  have r28 := y_DD.fr p1 (g15 329 0 (by decide)) (g15 329 1 (by decide)) (fun b => g15 359 b (by decide)) (fun b => g15 374 b (by decide))
  have r29 := y_B.fr p2 (g16 20 (by decide)) (g15 316 0 (by decide)) (fun b => g15 3220 b (by decide)) (fun b => g15 3221 b (by decide)) (fun b => g15 3222 b (by decide)) (fun b => g15 361 b (by decide))
  have r30 := y_K.fr p3 (by omega) (by omega) (g16 44 (by decide)) (g16 20 (by decide)) (g16 58 (by decide)) (fun b => g15 3438 b (by decide)) (fun b => g15 3220 b (by decide)) (fun a b h => g15 a b (by omega))
  have r31 := y_SE.fr r10 (fun b => g15 312 b (by decide))
  have r32 := y_K1.fr r11 (fun b => g15 311 b (by decide))
  refine T_useI (sf_X12_more hfu s12 c13 a1 0 (by omega) (by omega)) (fun v38 s33 hq => ?_)
  obtain ⟨c34, f35, ⟨x37, rfl, b39, b40, o41⟩⟩ := hq
  refine T_vI ?_
  have q42 := z_Fr.eq (fun a b h => h) f35
  subst q42
  refine T_useI (sf_X12_less hfu s12 c13 x37 8 (by omega) (by omega)) (fun v48 s43 hq => ?_)
  obtain ⟨c44, f45, ⟨x47, rfl, b49, b50, o51⟩⟩ := hq
  refine T_vI ?_
  have q52 := z_Fr.eq (fun a b h => h) f45
  subst q52
  refine T_ite (fun h53 => ?_) (fun h53 => ?_)
  · exact sj_X12_set_309T_J41 hfu r0 s12 c13 f14 a1 a2 (by omega) (by omega) (by first | exact y_NG.i (by omega)) r31 (by omega) r27 (by first | exact r28 | exact y_DD.z (by omega) (by omega)) r29 (by first | exact r30 | exact y_K.b0 (by omega) | exact y_K.k0 (by omega) | exact y_K.bk (by omega)) r32
  · refine T_if1 (by decide +kernel) ?_
    refine T_let 313 (by decide +kernel) ?_
    refine T_if1 (z_ixl (n := 9) (by decide +kernel) (by omega) (by omega)) ?_
    refine T_leq (fun x54 e55 => ?_)
    have u56 := CI_b c13 (k := 313) (j := x47) (bdr_313 x47)
    refine T_if1 (by decide +kernel) ?_
    refine T_let 314 (by decide +kernel) ?_
    refine T_if1 (z_ixl (n := 9) (by decide +kernel) (by omega) (by omega)) ?_
    refine T_leq (fun x57 e58 => ?_)
    have u59 := CI_b c13 (k := 314) (j := x47) (bdr_314 x47)
    refine T_useI (sf_X12_in hfu s12 c13 a2 x54 x57 (by omega) (by omega) (by omega)) (fun v65 s60 hq => ?_)
    obtain ⟨c61, f62, ⟨x64, rfl, b66, b67, o68⟩⟩ := hq
    refine T_vI ?_
    have q69 := z_Fr.eq (fun a b h => h) f62
    subst q69
    have r70 : y_HO r0 a1 a2 x54 x57 := y_HO.mk (fun b => f14 313 b (by unfold R_X12_set_309; omega)) (fun b => f14 314 b (by unfold R_X12_set_309; omega)) (by assumption) (by assumption) (by omega) (by omega)
    refine T_ite (fun h71 => ?_) (fun h71 => ?_)
    · exact sj_X12_set_309T_J46 hfu r0 s12 c13 f14 a1 a2 0 (by omega) (by omega) (by omega) (by omega) (by first | exact y_RT.y r70 (by omega) (by omega)) r31 (by omega) r27 (by first | exact r28 | exact y_DD.z (by omega) (by omega)) r29 (by first | exact r30 | exact y_K.b0 (by omega) | exact y_K.k0 (by omega) | exact y_K.bk (by omega)) r32
    · exact sj_X12_set_309T_J41 hfu r0 s12 c13 f14 a1 a2 (by omega) (by omega) (by first | exact y_NG.i (by omega) | exact y_NG.h r70 (by omega)) r31 (by omega) r27 (by first | exact r28 | exact y_DD.z (by omega) (by omega)) r29 (by first | exact r30 | exact y_K.b0 (by omega) | exact y_K.k0 (by omega) | exact y_K.bk (by omega)) r32
abbrev P_X12_lend_309T (r0 : z_M) : z_V → z_M → Prop := fun v s' => z_CI s' ∧ z_Fr R_X12_lend_309 r0 s' ∧ (y_SE r0 s') ∧ (y_TA s') ∧ (y_DD s') ∧ (y_B s') ∧ (y_K s') ∧ (y_K1 r0 s') ∧ (∃ x, v = vI x ∧ -2147483648 ≤ x ∧ x ≤ 2147483647)
theorem nz_X12_lays_309__316_328 (a b : Int) (h : 316 ≤ a ∧ a ≤ 328) : ¬ R_X12_lays_309 a b := by
  unfold R_X12_lays_309; omega
theorem nz_X12_lays_309__346_358 (a b : Int) (h : 346 ≤ a ∧ a ≤ 358) : ¬ R_X12_lays_309 a b := by
  unfold R_X12_lays_309; omega
theorem nz_X12_lays_309__361_373 (a b : Int) (h : 361 ≤ a ∧ a ≤ 373) : ¬ R_X12_lays_309 a b := by
  unfold R_X12_lays_309; omega
theorem nz_X12_lays_309__3452_3651 (a b : Int) (h : 3452 ≤ a ∧ a ≤ 3651) : ¬ R_X12_lays_309 a b := by
  unfold R_X12_lays_309; omega
theorem nr_X12_lays_309__311 (b : Int) : ¬ R_X12_lays_309 311 b := by
  unfold R_X12_lays_309; omega
theorem sj_X12_lend_309T_J107 {fu : Nat} (hfu : 8589934592 ≤ fu) (r0 s : z_M) (c : z_CI s) (f : z_Fr R_X12_lend_309 r0 s) (a1 : Int) (a2 : Int) (a3 : Int) (a4 : Int) (a5 : Int) (b1 : -2147483648 ≤ a1 ∧ a1 ≤ 2147483647) (b2 : -2147483648 ≤ a2 ∧ a2 ≤ 2147483647) (b3 : -2147483648 ≤ a3 ∧ a3 ≤ 2147483647) (b4 : -2147483648 ≤ a4 ∧ a4 ≤ 2147483647) (b5 : 0 ≤ a5 ∧ a5 ≤ 6) (p0 : y_S2 r0 s) (p1 : y_TA s) (p2 : y_DD s) (p3 : y_B s) (p4 : y_K s) (p5 : y_K1 r0 s) (M : Int) (pm : 2147483647 - a5 ≤ M) {r : z_M → Int → Int → Int → z_O} {k : z_M → Int → Int → z_O} (hr : ∀ (s' : z_M) (v3 : Int) (v4 : Int) (v5 : Int), z_CI s' → z_Fr R_X12_lend_309 r0 s' → (-2147483648 ≤ v3 ∧ v3 ≤ 2147483647) → (-2147483648 ≤ v4 ∧ v4 ≤ 2147483647) → (0 ≤ v5 ∧ v5 ≤ 7) → (y_S2 r0 s') → (y_TA s') → (y_DD s') → (y_B s') → (y_K s') → (y_K1 r0 s') → (2147483647 - v5 < M) → z_T (r s' v3 v4 v5) (P_X12_lend_309T r0)) (hk : ∀ (s' : z_M) (v3 : Int) (v4 : Int), z_CI s' → z_Fr R_X12_lend_309 r0 s' → (-2147483648 ≤ v3 ∧ v3 ≤ 2147483647) → (-2147483648 ≤ v4 ∧ v4 ≤ 2147483647) → (y_S2 r0 s') → (y_TA s') → (y_DD s') → (y_B s') → (y_K s') → (y_K1 r0 s') → z_T (k s' v3 v4) (P_X12_lend_309T r0)) : z_T (fX12_lend_J107 fu s 309 a1 a2 a3 a4 a5 r k) (P_X12_lend_309T r0) := by
  refine T_of (fX12_lend_J107.eq_1 ..) ?_
  have u1 := CI_b c (k := 309) (j := 20) bd_309_20
  have u2 := CI_b c (k := 309) (j := 36) bd_309_36
  have u3 := CI_b c (k := 309) (j := 43) bd_309_43
  have u4 := CI_b c (k := 309) (j := 44) bd_309_44
  have u5 := CI_b c (k := 309) (j := 58) bd_309_58
  have u6 := CI_b c (k := 316) (j := 0) bd_316_0
  have u7 := CI_b c (k := 329) (j := 0) bd_329_0
  have u8 := CI_b c (k := 329) (j := 1) bd_329_1
  have t9 : s 309 20 = r0 309 20 := f 309 20 (by decide)
  have t10 : s 309 36 = r0 309 36 := f 309 36 (by decide)
  have t11 : s 309 44 = r0 309 44 := f 309 44 (by decide)
  have t12 : s 309 58 = r0 309 58 := f 309 58 (by decide)
  have t13 : s 316 0 = r0 316 0 := f 316 0 (by decide)
  have t14 : s 329 0 = r0 329 0 := f 329 0 (by decide)
  have t15 : s 329 1 = r0 329 1 := f 329 1 (by decide)
  refine T_leq (fun x16 e17 => ?_)
  first | (have w18 := z_wx e17 (by omega)) | (have w18 := z_wr e17)
  exact hr s a3 a4 x16 c f (by omega) (by omega) (by omega) p0 p1 (by first | exact p2 | exact y_DD.z (by omega) (by omega)) p3 (by first | exact p4 | exact y_K.b0 (by omega) | exact y_K.k0 (by omega) | exact y_K.bk (by omega)) p5 (by omega)
theorem sj_X12_lend_309T_J100 {fu : Nat} (hfu : 8589934592 ≤ fu) (r0 s : z_M) (c : z_CI s) (f : z_Fr R_X12_lend_309 r0 s) (a1 : Int) (a2 : Int) (a5 : Int) (a6 : Int) (b1 : -2147483648 ≤ a1 ∧ a1 ≤ 2147483647) (b2 : -2147483648 ≤ a2 ∧ a2 ≤ 2147483647) (b5 : 0 ≤ a5 ∧ a5 ≤ 6) (b6 : -2147483648 ≤ a6 ∧ a6 ≤ 2147483647) (p0 : y_S2 r0 s) (p1 : y_TA s) (p2 : y_DD s) (p3 : y_B s) (p4 : y_K s) (p5 : y_K1 r0 s) (M : Int) (pm : 2147483647 - a5 ≤ M) {r : z_M → Int → Int → Int → z_O} {k : z_M → Int → Int → z_O} (hr : ∀ (s' : z_M) (v3 : Int) (v4 : Int) (v5 : Int), z_CI s' → z_Fr R_X12_lend_309 r0 s' → (-2147483648 ≤ v3 ∧ v3 ≤ 2147483647) → (-2147483648 ≤ v4 ∧ v4 ≤ 2147483647) → (0 ≤ v5 ∧ v5 ≤ 7) → (y_S2 r0 s') → (y_TA s') → (y_DD s') → (y_B s') → (y_K s') → (y_K1 r0 s') → (2147483647 - v5 < M) → z_T (r s' v3 v4 v5) (P_X12_lend_309T r0)) (hk : ∀ (s' : z_M) (v3 : Int) (v4 : Int), z_CI s' → z_Fr R_X12_lend_309 r0 s' → (-2147483648 ≤ v3 ∧ v3 ≤ 2147483647) → (-2147483648 ≤ v4 ∧ v4 ≤ 2147483647) → (y_S2 r0 s') → (y_TA s') → (y_DD s') → (y_B s') → (y_K s') → (y_K1 r0 s') → z_T (k s' v3 v4) (P_X12_lend_309T r0)) : z_T (fX12_lend_J100 fu s 309 a1 a2 a5 a6 r k) (P_X12_lend_309T r0) := by
  refine T_of (fX12_lend_J100.eq_1 ..) ?_
  have u1 := CI_b c (k := 309) (j := 20) bd_309_20
  have u2 := CI_b c (k := 309) (j := 36) bd_309_36
  have u3 := CI_b c (k := 309) (j := 43) bd_309_43
  have u4 := CI_b c (k := 309) (j := 44) bd_309_44
  have u5 := CI_b c (k := 309) (j := 58) bd_309_58
  have u6 := CI_b c (k := 316) (j := 0) bd_316_0
  have u7 := CI_b c (k := 329) (j := 0) bd_329_0
  have u8 := CI_b c (k := 329) (j := 1) bd_329_1
  have t9 : s 309 20 = r0 309 20 := f 309 20 (by decide)
  have t10 : s 309 36 = r0 309 36 := f 309 36 (by decide)
  have t11 : s 309 44 = r0 309 44 := f 309 44 (by decide)
  have t12 : s 309 58 = r0 309 58 := f 309 58 (by decide)
  have t13 : s 316 0 = r0 316 0 := f 316 0 (by decide)
  have t14 : s 329 0 = r0 329 0 := f 329 0 (by decide)
  have t15 : s 329 1 = r0 329 1 := f 329 1 (by decide)
  exact sj_X12_lend_309T_J107 hfu r0 s c f a1 a2 a5 a6 a5 (by omega) (by omega) (by omega) (by omega) (by omega) p0 p1 (by first | exact p2 | exact y_DD.z (by omega) (by omega)) p3 (by first | exact p4 | exact y_K.b0 (by omega) | exact y_K.k0 (by omega) | exact y_K.bk (by omega)) p5 M (by omega) (fun s' v3 v4 v5 c' f' w3 w4 w5 z0 z1 z2 z3 z4 z5 pg => hr s' v3 v4 v5 c' f' w3 w4 w5 z0 z1 z2 z3 z4 z5 (by omega)) hk
theorem sj_X12_lend_309T_J82 {fu : Nat} (hfu : 8589934592 ≤ fu) (r0 s : z_M) (c : z_CI s) (f : z_Fr R_X12_lend_309 r0 s) (a1 : Int) (a2 : Int) (a3 : Int) (a4 : Int) (a5 : Int) (t0 : Int) (b1 : -2147483648 ≤ a1 ∧ a1 ≤ 2147483647) (b2 : -2147483648 ≤ a2 ∧ a2 ≤ 2147483647) (b3 : -2147483648 ≤ a3 ∧ a3 ≤ 2147483647) (b4 : -2147483648 ≤ a4 ∧ a4 ≤ 2147483647) (b5 : 0 ≤ a5 ∧ a5 ≤ 6) (d0 : -2147483648 ≤ t0 ∧ t0 ≤ 2147483647) (p0 : y_S2 r0 s) (p1 : y_TA s) (p2 : y_DD s) (p3 : y_B s) (p4 : y_K s) (p5 : y_K1 r0 s) (M : Int) (pm : 2147483647 - a5 ≤ M) {r : z_M → Int → Int → Int → z_O} {k : z_M → Int → Int → z_O} (hr : ∀ (s' : z_M) (v3 : Int) (v4 : Int) (v5 : Int), z_CI s' → z_Fr R_X12_lend_309 r0 s' → (-2147483648 ≤ v3 ∧ v3 ≤ 2147483647) → (-2147483648 ≤ v4 ∧ v4 ≤ 2147483647) → (0 ≤ v5 ∧ v5 ≤ 7) → (y_S2 r0 s') → (y_TA s') → (y_DD s') → (y_B s') → (y_K s') → (y_K1 r0 s') → (2147483647 - v5 < M) → z_T (r s' v3 v4 v5) (P_X12_lend_309T r0)) (hk : ∀ (s' : z_M) (v3 : Int) (v4 : Int), z_CI s' → z_Fr R_X12_lend_309 r0 s' → (-2147483648 ≤ v3 ∧ v3 ≤ 2147483647) → (-2147483648 ≤ v4 ∧ v4 ≤ 2147483647) → (y_S2 r0 s') → (y_TA s') → (y_DD s') → (y_B s') → (y_K s') → (y_K1 r0 s') → z_T (k s' v3 v4) (P_X12_lend_309T r0)) : z_T (fX12_lend_J82 fu s 309 a1 a2 a3 a4 a5 t0 r k) (P_X12_lend_309T r0) := by
  refine T_of (fX12_lend_J82.eq_1 ..) ?_
  have u1 := CI_b c (k := 309) (j := 20) bd_309_20
  have u2 := CI_b c (k := 309) (j := 36) bd_309_36
  have u3 := CI_b c (k := 309) (j := 43) bd_309_43
  have u4 := CI_b c (k := 309) (j := 44) bd_309_44
  have u5 := CI_b c (k := 309) (j := 58) bd_309_58
  have u6 := CI_b c (k := 316) (j := 0) bd_316_0
  have u7 := CI_b c (k := 329) (j := 0) bd_329_0
  have u8 := CI_b c (k := 329) (j := 1) bd_329_1
  have t9 : s 309 20 = r0 309 20 := f 309 20 (by decide)
  have t10 : s 309 36 = r0 309 36 := f 309 36 (by decide)
  have t11 : s 309 44 = r0 309 44 := f 309 44 (by decide)
  have t12 : s 309 58 = r0 309 58 := f 309 58 (by decide)
  have t13 : s 316 0 = r0 316 0 := f 316 0 (by decide)
  have t14 : s 329 0 = r0 329 0 := f 329 0 (by decide)
  have t15 : s 329 1 = r0 329 1 := f 329 1 (by decide)
  refine T_ite (fun h16 => ?_) (fun h16 => ?_)
  · exact sj_X12_lend_309T_J100 hfu r0 s c f a1 a2 a5 t0 (by omega) (by omega) (by omega) (by omega) p0 p1 (by first | exact p2 | exact y_DD.z (by omega) (by omega)) p3 (by first | exact p4 | exact y_K.b0 (by omega) | exact y_K.k0 (by omega) | exact y_K.bk (by omega)) p5 M (by omega) (fun s' v3 v4 v5 c' f' w3 w4 w5 z0 z1 z2 z3 z4 z5 pg => hr s' v3 v4 v5 c' f' w3 w4 w5 z0 z1 z2 z3 z4 z5 (by omega)) hk
  · refine T_ite (fun h17 => ?_) (fun h17 => ?_)
    · exact sj_X12_lend_309T_J100 hfu r0 s c f a1 a2 a5 t0 (by omega) (by omega) (by omega) (by omega) p0 p1 (by first | exact p2 | exact y_DD.z (by omega) (by omega)) p3 (by first | exact p4 | exact y_K.b0 (by omega) | exact y_K.k0 (by omega) | exact y_K.bk (by omega)) p5 M (by omega) (fun s' v3 v4 v5 c' f' w3 w4 w5 z0 z1 z2 z3 z4 z5 pg => hr s' v3 v4 v5 c' f' w3 w4 w5 z0 z1 z2 z3 z4 z5 (by omega)) hk
    · exact sj_X12_lend_309T_J107 hfu r0 s c f a1 a2 a3 a4 a5 (by omega) (by omega) (by omega) (by omega) (by omega) p0 p1 (by first | exact p2 | exact y_DD.z (by omega) (by omega)) p3 (by first | exact p4 | exact y_K.b0 (by omega) | exact y_K.k0 (by omega) | exact y_K.bk (by omega)) p5 M (by omega) (fun s' v3 v4 v5 c' f' w3 w4 w5 z0 z1 z2 z3 z4 z5 pg => hr s' v3 v4 v5 c' f' w3 w4 w5 z0 z1 z2 z3 z4 z5 (by omega)) hk
theorem sl_X12_lend_309T_L45 {fu : Nat} (hfu : 8589934592 ≤ fu) (r0 : z_M) (a1 : Int) (a2 : Int) (b1 : -2147483648 ≤ a1 ∧ a1 ≤ 2147483647) (b2 : -2147483648 ≤ a2 ∧ a2 ≤ 2147483647) {k : z_M → Int → Int → z_O} (hk : ∀ (s' : z_M) (v3 : Int) (v4 : Int), z_CI s' → z_Fr R_X12_lend_309 r0 s' → (-2147483648 ≤ v3 ∧ v3 ≤ 2147483647) → (-2147483648 ≤ v4 ∧ v4 ≤ 2147483647) → (y_S2 r0 s') → (y_TA s') → (y_DD s') → (y_B s') → (y_K s') → (y_K1 r0 s') → z_T (k s' v3 v4) (P_X12_lend_309T r0)) : ∀ (F : Nat) (s : z_M) (a3 : Int) (a4 : Int) (a5 : Int), z_CI s → z_Fr R_X12_lend_309 r0 s → (-2147483648 ≤ a3 ∧ a3 ≤ 2147483647) → (-2147483648 ≤ a4 ∧ a4 ≤ 2147483647) → (0 ≤ a5 ∧ a5 ≤ 7) → (y_S2 r0 s) → (y_TA s) → (y_DD s) → (y_B s) → (y_K s) → (y_K1 r0 s) → (2147483647 - a5 < (F : Int)) → z_T (fX12_lend_L45 fu 309 a1 a2 F s a3 a4 a5 k) (P_X12_lend_309T r0) := by
  intro F
  induction F with
  | zero =>
    intro s a3 a4 a5 c f b3 b4 b5 i0 i1 i2 i3 i4 i5 hm
    have u70 := CI_b c (k := 309) (j := 20) bd_309_20
    have u71 := CI_b c (k := 309) (j := 36) bd_309_36
    have u72 := CI_b c (k := 309) (j := 43) bd_309_43
    have u73 := CI_b c (k := 309) (j := 44) bd_309_44
    have u74 := CI_b c (k := 309) (j := 58) bd_309_58
    have u75 := CI_b c (k := 316) (j := 0) bd_316_0
    have u76 := CI_b c (k := 329) (j := 0) bd_329_0
    have u77 := CI_b c (k := 329) (j := 1) bd_329_1
    exfalso; omega
  | succ F ih =>
    intro s a3 a4 a5 c f b3 b4 b5 i0 i1 i2 i3 i4 i5 hm
    refine T_of (fX12_lend_L45.eq_2 ..) ?_
    have u1 := CI_b c (k := 309) (j := 20) bd_309_20
    have u2 := CI_b c (k := 309) (j := 36) bd_309_36
    have u3 := CI_b c (k := 309) (j := 43) bd_309_43
    have u4 := CI_b c (k := 309) (j := 44) bd_309_44
    have u5 := CI_b c (k := 309) (j := 58) bd_309_58
    have u6 := CI_b c (k := 316) (j := 0) bd_316_0
    have u7 := CI_b c (k := 329) (j := 0) bd_329_0
    have u8 := CI_b c (k := 329) (j := 1) bd_329_1
    have t9 : s 309 20 = r0 309 20 := f 309 20 (by decide)
    have t10 : s 309 36 = r0 309 36 := f 309 36 (by decide)
    have t11 : s 309 44 = r0 309 44 := f 309 44 (by decide)
    have t12 : s 309 58 = r0 309 58 := f 309 58 (by decide)
    have t13 : s 316 0 = r0 316 0 := f 316 0 (by decide)
    have t14 : s 329 0 = r0 329 0 := f 329 0 (by decide)
    have t15 : s 329 1 = r0 329 1 := f 329 1 (by decide)
    refine T_ite (fun h16 => ?_) (fun h16 => ?_)
    · exact hk s a3 a4 c f (by omega) (by omega) i0 i1 (by first | exact i2 | exact y_DD.z (by omega) (by omega)) i3 (by first | exact i4 | exact y_K.b0 (by omega) | exact y_K.k0 (by omega) | exact y_K.bk (by omega)) i5
    · refine T_if1 (by decide +kernel) ?_
      refine T_let 312 (by decide +kernel) ?_
      refine T_if1 (z_ixl (n := 9) (by decide +kernel) (by omega) (by omega)) ?_
      refine T_upg c (bdr_312 2) (by omega) (fun s17 c18 g20 g21 e22 => ?_)
      have f19 := z_Fr.up (R := R_X12_lend_309) f g20 (fun _ => (Or.inl (⟨by decide, by decide⟩)))
      have t23 : s17 309 20 = s 309 20 := g20 309 20 (by decide)
      have t24 : s17 309 36 = s 309 36 := g20 309 36 (by decide)
      have t25 : s17 309 43 = s 309 43 := g20 309 43 (by decide)
      have t26 : s17 309 44 = s 309 44 := g20 309 44 (by decide)
      have t27 : s17 309 58 = s 309 58 := g20 309 58 (by decide)
      have t28 : s17 316 0 = s 316 0 := g20 316 0 (by decide)
      have t29 : s17 329 0 = s 329 0 := g20 329 0 (by decide)
      have t30 : s17 329 1 = s 329 1 := g20 329 1 (by decide)
      have r31 := y_TA.fr i1 (fun a b h => g20 a b (by omega)) (fun a b h => g20 a b (by omega)) (fun a b h => g20 a b (by omega))
      have r32 := y_DD.fr i2 (g20 329 0 (by decide)) (g20 329 1 (by decide)) (fun b => g20 359 b (by decide)) (fun b => g20 374 b (by decide))
      have r33 := y_B.fr i3 (g20 309 20 (by decide)) (g20 316 0 (by decide)) (fun b => g20 3220 b (by decide)) (fun b => g20 3221 b (by decide)) (fun b => g20 3222 b (by decide)) (fun b => g20 361 b (by decide))
      have r34 := y_K.fr i4 (by omega) (by omega) (g20 309 44 (by decide)) (g20 309 20 (by decide)) (g20 309 58 (by decide)) (fun b => g20 3438 b (by decide)) (fun b => g20 3220 b (by decide)) (fun a b h => g20 a b (by omega))
      have r35 := y_K1.fr i5 (fun b => g20 311 b (by decide))
      have r36 := y_S2.st i0 g21
      refine T_if1 (by decide +kernel) ?_
      refine T_leq (fun x37 e38 => ?_)
      have u39 := CI_b c18 (k := 309) (j := 20) bd_309_20
      refine T_ite (fun h40 => ?_) (fun h40 => ?_)
      · refine T_if1 (by decide +kernel) ?_
        refine T_leq (fun x41 e42 => ?_)
        have q43 : x37 = x41 := e38.symm.trans e42
        subst q43
        refine T_leq (fun x44 e45 => ?_)
        first | (have w46 := z_wx e45 (by omega)) | (have w46 := z_wr e45)
        refine T_if1 (by decide +kernel) ?_
        refine T_useI (sf_X12_lays_309 hfu s17 c18 0 x44 (by omega) (by omega) r33 (by omega) (by omega)) (fun v52 s47 hq => ?_)
        obtain ⟨c48, f49, o53, ⟨x51, rfl, b54, b55⟩⟩ := hq
        refine T_vI ?_
        have f50 := z_Fr.tr (R := R_X12_lend_309) f19 f49 rs_X12_lays_309__X12_lend_309
        have t56 : s47 309 20 = x37 := (f49 309 20 (by decide)).trans e38
        have t57 : s47 309 36 = s 309 36 := (f49 309 36 (by decide)).trans t24
        have t58 : s47 309 43 = s 309 43 := (f49 309 43 (by decide)).trans t25
        have t59 : s47 309 44 = s 309 44 := (f49 309 44 (by decide)).trans t26
        have t60 : s47 309 58 = s 309 58 := (f49 309 58 (by decide)).trans t27
        have t61 : s47 316 0 = s 316 0 := (f49 316 0 (by decide)).trans t28
        have t62 : s47 329 0 = s 329 0 := (f49 329 0 (by decide)).trans t29
        have t63 : s47 329 1 = s 329 1 := (f49 329 1 (by decide)).trans t30
        have r64 := y_TA.fr r31 (fun a b h => f49 a b (nz_X12_lays_309__316_328 a b h)) (fun a b h => f49 a b (nz_X12_lays_309__346_358 a b h)) (fun a b h => f49 a b (nz_X12_lays_309__361_373 a b h))
        have r65 := y_DD.fr r32 (f49 329 0 (by decide)) (f49 329 1 (by decide)) (fun b => f49 359 b (nr_X12_lays_309__359 b)) (fun b => f49 374 b (nr_X12_lays_309__374 b))
        have r66 := y_B.fr r33 (f49 309 20 (by decide)) (f49 316 0 (by decide)) (fun b => f49 3220 b (nr_X12_lays_309__3220 b)) (fun b => f49 3221 b (nr_X12_lays_309__3221 b)) (fun b => f49 3222 b (nr_X12_lays_309__3222 b)) (fun b => f49 361 b (nr_X12_lays_309__361 b))
        have r67 := y_K.fr r34 (by omega) (by omega) (f49 309 44 (by decide)) (f49 309 20 (by decide)) (f49 309 58 (by decide)) (fun b => f49 3438 b (nr_X12_lays_309__3438 b)) (fun b => f49 3220 b (nr_X12_lays_309__3220 b)) (fun a b h => f49 a b (nz_X12_lays_309__3452_3651 a b h))
        have r68 := y_K1.fr r35 (fun b => f49 311 b (nr_X12_lays_309__311 b))
        have r69 := y_S2.fr r36 (fun b => f49 312 b (nr_X12_lays_309__312 b))
        clear t24
        clear t25
        clear t26
        clear t27
        clear t28
        clear t29
        clear t30
        exact sj_X12_lend_309T_J82 hfu r0 s47 c48 f50 a1 a2 a3 a4 a5 x51 (by omega) (by omega) (by omega) (by omega) (by omega) (by omega) r69 r64 (by first | exact r65 | exact y_DD.z (by omega) (by omega)) r66 (by first | exact r67 | exact y_K.b0 (by omega) | exact y_K.k0 (by omega) | exact y_K.bk (by omega)) r68 (2147483647 - a5) (by omega) (fun s' v3 v4 v5 c' f' w3 w4 w5 z0 z1 z2 z3 z4 z5 pg => ih s' v3 v4 v5 c' f' w3 w4 w5 z0 z1 z2 z3 z4 z5 (by omega)) hk
      · exact sj_X12_lend_309T_J82 hfu r0 s17 c18 f19 a1 a2 a3 a4 a5 0 (by omega) (by omega) (by omega) (by omega) (by omega) (by omega) r36 r31 (by first | exact r32 | exact y_DD.z (by omega) (by omega)) r33 (by first | exact r34 | exact y_K.b0 (by omega) | exact y_K.k0 (by omega) | exact y_K.bk (by omega)) r35 (2147483647 - a5) (by omega) (fun s' v3 v4 v5 c' f' w3 w4 w5 z0 z1 z2 z3 z4 z5 pg => ih s' v3 v4 v5 c' f' w3 w4 w5 z0 z1 z2 z3 z4 z5 (by omega)) hk
theorem sj_X12_lend_309T_J135 {fu : Nat} (hfu : 8589934592 ≤ fu) (r0 s : z_M) (c : z_CI s) (f : z_Fr R_X12_lend_309 r0 s) (t0 : Int) (d0 : -2147483648 ≤ t0 ∧ t0 ≤ 2147483647) (p0 : y_SE r0 s) (p1 : y_TA s) (p2 : y_DD s) (p3 : y_B s) (p4 : y_K s) (p5 : y_K1 r0 s) : z_T (fX12_lend_J135 fu s t0) (P_X12_lend_309T r0) := by
  refine T_of (fX12_lend_J135.eq_1 ..) ?_
  have u1 := CI_b c (k := 309) (j := 20) bd_309_20
  have u2 := CI_b c (k := 309) (j := 36) bd_309_36
  have u3 := CI_b c (k := 309) (j := 43) bd_309_43
  have u4 := CI_b c (k := 309) (j := 44) bd_309_44
  have u5 := CI_b c (k := 309) (j := 58) bd_309_58
  have u6 := CI_b c (k := 316) (j := 0) bd_316_0
  have u7 := CI_b c (k := 329) (j := 0) bd_329_0
  have u8 := CI_b c (k := 329) (j := 1) bd_329_1
  have t9 : s 309 20 = r0 309 20 := f 309 20 (by decide)
  have t10 : s 309 36 = r0 309 36 := f 309 36 (by decide)
  have t11 : s 309 44 = r0 309 44 := f 309 44 (by decide)
  have t12 : s 309 58 = r0 309 58 := f 309 58 (by decide)
  have t13 : s 316 0 = r0 316 0 := f 316 0 (by decide)
  have t14 : s 329 0 = r0 329 0 := f 329 0 (by decide)
  have t15 : s 329 1 = r0 329 1 := f 329 1 (by decide)
  exact T_ret ⟨c, f, p0, p1, (by first | exact p2 | exact y_DD.z (by omega) (by omega)), p3, (by first | exact p4 | exact y_K.b0 (by omega) | exact y_K.k0 (by omega) | exact y_K.bk (by omega)), p5, ⟨t0, rfl, by omega, by omega⟩⟩
set_option maxHeartbeats 4000000 in
theorem sj_X12_lend_309T_J20 {fu : Nat} (hfu : 8589934592 ≤ fu) (r0 s : z_M) (c : z_CI s) (f : z_Fr R_X12_lend_309 r0 s) (a1 : Int) (t1 : Int) (b1 : -2147483648 ≤ a1 ∧ a1 ≤ 2147483647) (d1 : 0 ≤ t1 ∧ t1 ≤ 1) (p0 : y_SE r0 s) (p1 : y_TA s) (p2 : y_DD s) (p3 : y_B s) (p4 : y_K s) (p5 : y_K1 r0 s) : z_T (fX12_lend_J20 fu s 309 a1 309 t1) (P_X12_lend_309T r0) := by
  refine T_of (fX12_lend_J20.eq_1 ..) ?_
  have u1 := CI_b c (k := 309) (j := 20) bd_309_20
  have u2 := CI_b c (k := 309) (j := 36) bd_309_36
  have u3 := CI_b c (k := 309) (j := 43) bd_309_43
  have u4 := CI_b c (k := 309) (j := 44) bd_309_44
  have u5 := CI_b c (k := 309) (j := 58) bd_309_58
  have u6 := CI_b c (k := 316) (j := 0) bd_316_0
  have u7 := CI_b c (k := 329) (j := 0) bd_329_0
  have u8 := CI_b c (k := 329) (j := 1) bd_329_1
  have t9 : s 309 20 = r0 309 20 := f 309 20 (by decide)
  have t10 : s 309 36 = r0 309 36 := f 309 36 (by decide)
  have t11 : s 309 44 = r0 309 44 := f 309 44 (by decide)
  have t12 : s 309 58 = r0 309 58 := f 309 58 (by decide)
  have t13 : s 316 0 = r0 316 0 := f 316 0 (by decide)
  have t14 : s 329 0 = r0 329 0 := f 329 0 (by decide)
  have t15 : s 329 1 = r0 329 1 := f 329 1 (by decide)
  refine T_if1 (by decide +kernel) ?_
  refine T_useI (sf_X12_bad_309 hfu s c t1 1 1 (by omega) (by omega) (by omega) (by omega)) (fun v21 s16 hq => ?_)
  obtain ⟨c17, f18, o22, ⟨x20, rfl, b23, b24, o25, o26⟩⟩ := hq
  refine T_vI ?_
  have f19 := z_Fr.tr (R := R_X12_lend_309) f f18 rs_X12_bad_309__X12_lend_309
  have t27 : s16 309 20 = s 309 20 := f18 309 20 (by decide)
  have t28 : s16 309 36 = s 309 36 := f18 309 36 (by decide)
  have t29 : s16 309 43 = s 309 43 := f18 309 43 (by decide)
  have t30 : s16 309 44 = s 309 44 := f18 309 44 (by decide)
  have t31 : s16 309 58 = s 309 58 := f18 309 58 (by decide)
  have t32 : s16 316 0 = s 316 0 := f18 316 0 (by decide)
  have t33 : s16 329 0 = s 329 0 := f18 329 0 (by decide)
  have t34 : s16 329 1 = s 329 1 := f18 329 1 (by decide)
  have r35 := y_SE.fr p0 (fun b => f18 312 b (nr_X12_bad_309__312 b))
  have r36 := y_TA.fr p1 (fun a b h => f18 a b (nz_X12_bad_309__316_328 a b h)) (fun a b h => f18 a b (nz_X12_bad_309__346_358 a b h)) (fun a b h => f18 a b (nz_X12_bad_309__361_373 a b h))
  have r37 := y_DD.fr p2 (f18 329 0 (by decide)) (f18 329 1 (by decide)) (fun b => f18 359 b (nr_X12_bad_309__359 b)) (fun b => f18 374 b (nr_X12_bad_309__374 b))
  have r38 := y_B.fr p3 (f18 309 20 (by decide)) (f18 316 0 (by decide)) (fun b => f18 3220 b (nr_X12_bad_309__3220 b)) (fun b => f18 3221 b (nr_X12_bad_309__3221 b)) (fun b => f18 3222 b (nr_X12_bad_309__3222 b)) (fun b => f18 361 b (nr_X12_bad_309__361 b))
  have r39 := y_K.fr p4 (by omega) (by omega) (f18 309 44 (by decide)) (f18 309 20 (by decide)) (f18 309 58 (by decide)) (fun b => f18 3438 b (nr_X12_bad_309__3438 b)) (fun b => f18 3220 b (nr_X12_bad_309__3220 b)) (fun a b h => f18 a b (nz_X12_bad_309__3452_3651 a b h))
  have r40 := y_K1.fr p5 (fun b => f18 311 b (nr_X12_bad_309__311 b))
  refine T_ite (fun h41 => ?_) (fun h41 => ?_)
  · refine T_if1 (by decide +kernel) ?_
    refine T_let 312 (by decide +kernel) ?_
    refine T_if1 (z_ixl (n := 9) (by decide +kernel) (by omega) (by omega)) ?_
    refine T_leq (fun x42 e43 => ?_)
    have u44 := CI_b c17 (k := 312) (j := 2) (bdr_312 2)
    have n45 := y_SE.at r35 2
    refine sl_X12_lend_309T_L45 hfu r0 a1 x42 (by omega) (by omega) (fun s46 y49 y50 c47 f48 b51 b52 g53 g54 g55 g56 g57 g58 => ?_) fu s16 0 (-1) 0 c17 f19 (by omega) (by omega) (by omega) (by first | exact y_S2.of r35) r36 (by first | exact r37 | exact y_DD.z (by omega) (by omega)) r38 (by first | exact r39 | exact y_K.b0 (by omega) | exact y_K.k0 (by omega) | exact y_K.bk (by omega)) r40 (by omega)
    have u59 := CI_b c47 (k := 309) (j := 20) bd_309_20
    have u60 := CI_b c47 (k := 309) (j := 36) bd_309_36
    have u61 := CI_b c47 (k := 309) (j := 43) bd_309_43
    have u62 := CI_b c47 (k := 309) (j := 44) bd_309_44
    have u63 := CI_b c47 (k := 309) (j := 58) bd_309_58
    have u64 := CI_b c47 (k := 316) (j := 0) bd_316_0
    have u65 := CI_b c47 (k := 329) (j := 0) bd_329_0
    have u66 := CI_b c47 (k := 329) (j := 1) bd_329_1
    have t67 : s46 309 20 = r0 309 20 := f48 309 20 (by decide)
    have t68 : s46 309 36 = r0 309 36 := f48 309 36 (by decide)
    have t69 : s46 309 44 = r0 309 44 := f48 309 44 (by decide)
    have t70 : s46 309 58 = r0 309 58 := f48 309 58 (by decide)
    have t71 : s46 316 0 = r0 316 0 := f48 316 0 (by decide)
    have t72 : s46 329 0 = r0 329 0 := f48 329 0 (by decide)
    have t73 : s46 329 1 = r0 329 1 := f48 329 1 (by decide)
    refine T_if1 (by decide +kernel) ?_
    refine T_let 312 (by decide +kernel) ?_
    refine T_if1 (z_ixl (n := 9) (by decide +kernel) (by omega) (by omega)) ?_
    refine T_upg c47 (bdr_312 2) (by omega) (fun s74 c75 g77 g78 e79 => ?_)
    have f76 := z_Fr.up (R := R_X12_lend_309) f48 g77 (fun _ => (Or.inl (⟨by decide, by decide⟩)))
    have t80 : s74 309 20 = s46 309 20 := g77 309 20 (by decide)
    have t81 : s74 309 36 = s46 309 36 := g77 309 36 (by decide)
    have t82 : s74 309 43 = s46 309 43 := g77 309 43 (by decide)
    have t83 : s74 309 44 = s46 309 44 := g77 309 44 (by decide)
    have t84 : s74 309 58 = s46 309 58 := g77 309 58 (by decide)
    have t85 : s74 316 0 = s46 316 0 := g77 316 0 (by decide)
    have t86 : s74 329 0 = s46 329 0 := g77 329 0 (by decide)
    have t87 : s74 329 1 = s46 329 1 := g77 329 1 (by decide)
    have r88 := y_TA.fr g54 (fun a b h => g77 a b (by omega)) (fun a b h => g77 a b (by omega)) (fun a b h => g77 a b (by omega))
    have r89 := y_DD.fr g55 (g77 329 0 (by decide)) (g77 329 1 (by decide)) (fun b => g77 359 b (by decide)) (fun b => g77 374 b (by decide))
    have r90 := y_B.fr g56 (g77 309 20 (by decide)) (g77 316 0 (by decide)) (fun b => g77 3220 b (by decide)) (fun b => g77 3221 b (by decide)) (fun b => g77 3222 b (by decide)) (fun b => g77 361 b (by decide))
    have r91 := y_K.fr g57 (by omega) (by omega) (g77 309 44 (by decide)) (g77 309 20 (by decide)) (g77 309 58 (by decide)) (fun b => g77 3438 b (by decide)) (fun b => g77 3220 b (by decide)) (fun a b h => g77 a b (by omega))
    have r92 := y_K1.fr g58 (fun b => g77 311 b (by decide))
    have r93 := y_SE.re g53 g78 e79 (by omega)
    refine T_if1 ⟨(by decide +kernel), by unfold z_bl; omega⟩ ?_
    refine T_upg c75 bd_309_43 (by omega) (fun s94 c95 g97 g98 e99 => ?_)
    have f96 := z_Fr.upf (R := R_X12_lend_309) f76 g97 g98 (Or.inr (Or.inr (⟨rfl, by decide⟩)))
    have t100 : s94 309 20 = s46 309 20 := (g98 20 (by decide)).trans t80
    have t101 : s94 309 36 = s46 309 36 := (g98 36 (by decide)).trans t81
    have t102 : s94 309 44 = s46 309 44 := (g98 44 (by decide)).trans t83
    have t103 : s94 309 58 = s46 309 58 := (g98 58 (by decide)).trans t84
    have t104 : s94 316 0 = s46 316 0 := (g97 316 0 (by decide)).trans t85
    have t105 : s94 329 0 = s46 329 0 := (g97 329 0 (by decide)).trans t86
    have t106 : s94 329 1 = s46 329 1 := (g97 329 1 (by decide)).trans t87
    have u107 := CI_b c95 (k := 309) (j := 43) bd_309_43
    have r108 := y_TA.fr r88 (fun a b h => g97 a b (by omega)) (fun a b h => g97 a b (by omega)) (fun a b h => g97 a b (by omega))
    have r109 := y_DD.fr r89 (g97 329 0 (by decide)) (g97 329 1 (by decide)) (fun b => g97 359 b (by decide)) (fun b => g97 374 b (by decide))
    have r110 := y_B.fr r90 (g98 20 (by decide)) (g97 316 0 (by decide)) (fun b => g97 3220 b (by decide)) (fun b => g97 3221 b (by decide)) (fun b => g97 3222 b (by decide)) (fun b => g97 361 b (by decide))
    have r111 := y_K.fr r91 (by omega) (by omega) (g98 44 (by decide)) (g98 20 (by decide)) (g98 58 (by decide)) (fun b => g97 3438 b (by decide)) (fun b => g97 3220 b (by decide)) (fun a b h => g97 a b (by omega))
    have r112 := y_K1.fr r92 (fun b => g97 311 b (by decide))
    have r113 := y_SE.fr r93 (fun b => g97 312 b (by decide))
    clear t80
    clear t81
    clear t83
    clear t84
    clear t85
    clear t86
    clear t87
    refine T_ite (fun h114 => ?_) (fun h114 => ?_)
    · exact sj_X12_lend_309T_J135 hfu r0 s94 c95 f96 y50 (by omega) r113 r108 (by first | exact r109 | exact y_DD.z (by omega) (by omega)) r110 (by first | exact r111 | exact y_K.b0 (by omega) | exact y_K.k0 (by omega) | exact y_K.bk (by omega)) r112
    · exact sj_X12_lend_309T_J135 hfu r0 s94 c95 f96 y49 (by omega) r113 r108 (by first | exact r109 | exact y_DD.z (by omega) (by omega)) r110 (by first | exact r111 | exact y_K.b0 (by omega) | exact y_K.k0 (by omega) | exact y_K.bk (by omega)) r112
  · exact T_ret ⟨c17, f19, r35, r36, (by first | exact r37 | exact y_DD.z (by omega) (by omega)), r38, (by first | exact r39 | exact y_K.b0 (by omega) | exact y_K.k0 (by omega) | exact y_K.bk (by omega)), r40, ⟨0, rfl, by omega, by omega⟩⟩
theorem sf_X12_lend_309T {fu : Nat} (hfu : 8589934592 ≤ fu) (r0 : z_M) (c0 : z_CI r0) (a1 : Int) (b1 : -2147483648 ≤ a1 ∧ a1 ≤ 2147483647) (p0 : y_TA r0) (p1 : y_DD r0) (p2 : y_B r0) (p3 : y_K r0) : z_T (fX12_lend fu r0 309 a1) (P_X12_lend_309T r0) := by
  refine T_of (fX12_lend.eq_1 ..) ?_
  have u1 := CI_b c0 (k := 309) (j := 20) bd_309_20
  have u2 := CI_b c0 (k := 309) (j := 36) bd_309_36
  have u3 := CI_b c0 (k := 309) (j := 43) bd_309_43
  have u4 := CI_b c0 (k := 309) (j := 44) bd_309_44
  have u5 := CI_b c0 (k := 309) (j := 58) bd_309_58
  have u6 := CI_b c0 (k := 316) (j := 0) bd_316_0
  have u7 := CI_b c0 (k := 329) (j := 0) bd_329_0
  have u8 := CI_b c0 (k := 329) (j := 1) bd_329_1
  have r9 : y_SE r0 r0 := y_SE.z
  have r10 : y_K1 r0 r0 := y_K1.rf
  refine T_if1 (by decide +kernel) ?_
  refine T_upg c0 bd_309_0 (by omega) (fun s11 c12 g14 g15 e16 => ?_)
  have f13 := z_Fr.upf (R := R_X12_lend_309) z_Fr.rf g14 g15 (Or.inr (Or.inr (⟨rfl, by decide⟩)))
  have t17 : s11 309 20 = r0 309 20 := g15 20 (by decide)
  have t18 : s11 309 36 = r0 309 36 := g15 36 (by decide)
  have t19 : s11 309 43 = r0 309 43 := g15 43 (by decide)
  have t20 : s11 309 44 = r0 309 44 := g15 44 (by decide)
  have t21 : s11 309 58 = r0 309 58 := g15 58 (by decide)
  have t22 : s11 316 0 = r0 316 0 := g14 316 0 (by decide)
  have t23 : s11 329 0 = r0 329 0 := g14 329 0 (by decide)
  have t24 : s11 329 1 = r0 329 1 := g14 329 1 (by decide)
  have r25 := y_TA.fr p0 (fun a b h => g14 a b (by omega)) (fun a b h => g14 a b (by omega)) (fun a b h => g14 a b (by omega))
  have r26 := y_DD.fr p1 (g14 329 0 (by decide)) (g14 329 1 (by decide)) (fun b => g14 359 b (by decide)) (fun b => g14 374 b (by decide))
  have r27 := y_B.fr p2 (g15 20 (by decide)) (g14 316 0 (by decide)) (fun b => g14 3220 b (by decide)) (fun b => g14 3221 b (by decide)) (fun b => g14 3222 b (by decide)) (fun b => g14 361 b (by decide))
  have r28 := y_K.fr p3 (by omega) (by omega) (g15 44 (by decide)) (g15 20 (by decide)) (g15 58 (by decide)) (fun b => g14 3438 b (by decide)) (fun b => g14 3220 b (by decide)) (fun a b h => g14 a b (by omega))
  have r29 := y_SE.fr r9 (fun b => g14 312 b (by decide))
  have r30 := y_K1.fr r10 (fun b => g14 311 b (by decide))
  refine T_useI (sf_X12_in hfu s11 c12 a1 0 1 (by omega) (by omega) (by omega)) (fun v36 s31 hq => ?_)
  obtain ⟨c32, f33, ⟨x35, rfl, b37, b38, o39⟩⟩ := hq
  refine T_vI ?_
  have q40 := z_Fr.eq (fun a b h => h) f33
  subst q40
  refine T_ite (fun h41 => ?_) (fun h41 => ?_)
  · exact sj_X12_lend_309T_J20 hfu r0 s11 c12 f13 a1 0 (by omega) (by omega) r29 r25 (by first | exact r26 | exact y_DD.z (by omega) (by omega)) r27 (by first | exact r28 | exact y_K.b0 (by omega) | exact y_K.k0 (by omega) | exact y_K.bk (by omega)) r30
  · exact sj_X12_lend_309T_J20 hfu r0 s11 c12 f13 a1 1 (by omega) (by omega) r29 r25 (by first | exact r26 | exact y_DD.z (by omega) (by omega)) r27 (by first | exact r28 | exact y_K.b0 (by omega) | exact y_K.k0 (by omega) | exact y_K.bk (by omega)) r30
