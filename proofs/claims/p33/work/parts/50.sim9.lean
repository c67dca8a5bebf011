/-! READING, 6: the reference's readers (by program, wip/tool/mksim.py) -/
theorem bd_316_2 : z_bd 316 2 = ((-2147483648), 2147483647) := by decide +kernel
abbrev P_X12_wrong_309T (r0 : z_M) (a1 : Int) (a2 : Int) : z_V → z_M → Prop := fun v s' => z_CI s' ∧ z_Fr R_X12_wrong_309 r0 s' ∧ (s' 309 6 ≠ 0) ∧ ((r0 309 6 = 0 ∧ s' 309 6 = a1 ∧ s' 309 7 = a2) ∨ (r0 309 6 ≠ 0 ∧ s' 309 6 = r0 309 6 ∧ s' 309 7 = r0 309 7)) ∧ (v = vN)
theorem sj_X12_wrong_309T_J17 {fu : Nat} (hfu : 8589934592 ≤ fu) (r0 s : z_M) (c : z_CI s) (f : z_Fr R_X12_wrong_309 r0 s) (a1 : Int) (a2 : Int) (p0 : s 309 6 ≠ 0) (p1 : (r0 309 6 = 0 ∧ s 309 6 = a1 ∧ s 309 7 = a2) ∨ (r0 309 6 ≠ 0 ∧ s 309 6 = r0 309 6 ∧ s 309 7 = r0 309 7)) : z_T (fX12_wrong_J17 fu s) (P_X12_wrong_309T r0 a1 a2) := by
  refine T_of (fX12_wrong_J17.eq_1 ..) ?_
  have u1 := CI_b c (k := 309) (j := 6) bd_309_6
  have u2 := CI_b c (k := 309) (j := 7) bd_309_7
  exact T_ret ⟨c, f, (by omega), (by omega), rfl⟩
theorem sf_X12_wrong_309T {fu : Nat} (hfu : 8589934592 ≤ fu) (r0 : z_M) (c0 : z_CI r0) (a1 : Int) (a2 : Int) (b1 : -2147483648 ≤ a1 ∧ a1 ≤ 2147483647) (b2 : -2147483648 ≤ a2 ∧ a2 ≤ 2147483647) (p0 : a1 ≠ 0) : z_T (fX12_wrong fu r0 309 a1 a2) (P_X12_wrong_309T r0 a1 a2) := by
  refine T_of (fX12_wrong.eq_1 ..) ?_
  have u1 := CI_b c0 (k := 309) (j := 6) bd_309_6
  have u2 := CI_b c0 (k := 309) (j := 7) bd_309_7
  refine T_if1 (by decide +kernel) ?_
  refine T_leq (fun x3 e4 => ?_)
  have u5 := CI_b c0 (k := 309) (j := 6) bd_309_6
  refine T_ite (fun h6 => ?_) (fun h6 => ?_)
  · exact sj_X12_wrong_309T_J17 hfu r0 r0 c0 z_Fr.rf a1 a2 (by omega) (by omega)
  · refine T_if1 (by decide +kernel) ?_
    refine T_upg c0 bd_309_6 (by omega) (fun s7 c8 g10 g11 e12 => ?_)
    have f9 := z_Fr.upf (R := R_X12_wrong_309) z_Fr.rf g10 g11 (⟨rfl, by decide⟩)
    have t13 : s7 309 7 = r0 309 7 := g11 7 (by decide)
    have u14 := CI_b c8 (k := 309) (j := 6) bd_309_6
    refine T_if1 (by decide +kernel) ?_
    refine T_upg c8 bd_309_7 (by omega) (fun s15 c16 g18 g19 e20 => ?_)
    have f17 := z_Fr.upf (R := R_X12_wrong_309) f9 g18 g19 (⟨rfl, by decide⟩)
    have t21 : s15 309 6 = s7 309 6 := g19 6 (by decide)
    have u22 := CI_b c16 (k := 309) (j := 7) bd_309_7
    exact sj_X12_wrong_309T_J17 hfu r0 s15 c16 f17 a1 a2 (by omega) (by omega)
abbrev P_X12_addsSign_309T (r0 : z_M) (a1 : Int) (a2 : Int) : z_V → z_M → Prop := fun v s' => z_CI s' ∧ z_Fr R_X12_addsSign_309 r0 s' ∧ (y_D s' (s' 329 0)) ∧ (s' 329 1 = r0 329 1) ∧ (r0 329 0 ≤ s' 329 0) ∧ (r0 309 4 ≤ s' 309 4) ∧ (s' 309 4 ≤ r0 309 4 + 1) ∧ (s' 309 6 ≠ 0 ∨ (r0 309 6 = 0 ∧ s' 329 0 = r0 329 0 + 1 ∧ s' 309 4 = r0 309 4 + 1)) ∧ (s' 309 4 = r0 309 4 ∨ r0 309 4 < s' 309 3) ∧ (y_AS r0 s' a1 a2) ∧ (s' 309 6 ≠ 0 ∨ s' 309 7 = r0 309 7) ∧ (s' 309 6 = r0 309 6 ∨ s' 309 6 = 2) ∧ (v = vN)
theorem sj_X12_addsSign_309T_J103 {fu : Nat} (hfu : 8589934592 ≤ fu) (r0 s : z_M) (c : z_CI s) (f : z_Fr R_X12_addsSign_309 r0 s) (t1 : Int) (t2 : Int) (a1 : Int) (a2 : Int) (d1 : 0 ≤ t1 ∧ t1 ≤ 199) (d2 : -2147483648 ≤ t2 ∧ t2 ≤ 2147483647) (p0 : s 329 0 = r0 329 0) (p1 : s 309 4 = r0 309 4) (p2 : s 329 1 = r0 329 1) (p3 : s 329 1 ≤ s 329 0) (p4 : y_D s (t1 + 1)) (p5 : t1 = s 329 0) (p6 : s 309 6 = 0) (p7 : r0 309 6 = 0) (p8 : s 309 4 < s 309 3) (p9 : s 329 2 = r0 329 2) (p10 : y_GS r0 s) (p11 : y_RW r0 s t1) (p12 : y_VA r0 s t1 a1 a2) (p13 : ((a1 = 0 ∨ a1 = 7) ∧ t2 = r0 329 2) ∨ (a1 ≠ 0 ∧ a1 ≠ 7 ∧ t2 = 0)) (p14 : s 309 6 ≠ 0 ∨ s 309 7 = r0 309 7) : z_T (fX12_addsSign_J103 fu s 309 389 t1 t2) (P_X12_addsSign_309T r0 a1 a2) := by
  refine T_of (fX12_addsSign_J103.eq_1 ..) ?_
  have u1 := CI_b c (k := 309) (j := 3) bd_309_3
  have u2 := CI_b c (k := 309) (j := 4) bd_309_4
  have u3 := CI_b c (k := 309) (j := 6) bd_309_6
  have u4 := CI_b c (k := 309) (j := 7) bd_309_7
  have u5 := CI_b c (k := 329) (j := 0) bd_329_0
  have u6 := CI_b c (k := 329) (j := 1) bd_329_1
  have u7 := CI_b c (k := 329) (j := 2) bd_329_2
  have t8 : s 309 3 = r0 309 3 := f 309 3 (by decide)
  refine T_if1 (z_ixl (n := 200) (by decide +kernel) (by omega) (by omega)) ?_
  refine T_upg c (bdr_389 t1) (by omega) (fun s9 c10 g12 g13 e14 => ?_)
  have f11 := z_Fr.up (R := R_X12_addsSign_309) f g12 (fun _ => (Or.inr (Or.inr (Or.inr (Or.inr (Or.inl (⟨by decide, by decide⟩)))))))
  have t15 : s9 309 3 = s 309 3 := g12 309 3 (by decide)
  have t16 : s9 309 4 = s 309 4 := g12 309 4 (by decide)
  have t17 : s9 309 6 = s 309 6 := g12 309 6 (by decide)
  have t18 : s9 309 7 = s 309 7 := g12 309 7 (by decide)
  have t19 : s9 329 0 = s 329 0 := g12 329 0 (by decide)
  have t20 : s9 329 1 = s 329 1 := g12 329 1 (by decide)
  have t21 : s9 329 2 = s 329 2 := g12 329 2 (by decide)
  have r22 := y_D.fr p4 (fun b => g12 359 b (by decide)) (fun b => g12 374 b (by decide))
  have r23 := y_GS.fr p10 (fun b => g12 404 b (by decide)) (fun a b h => g12 a b (by omega))
  have r24 := y_VA.fr p12 (fun b => g12 344 b (by decide)) (fun b => g12 359 b (by decide)) (fun b => g12 374 b (by decide))
  have r25 := y_RW.st p11 (fun b h => g12 344 b (by decide)) (fun b h => g12 359 b (by decide)) (fun b h => g12 374 b (by decide)) (fun b h => g13 b (by omega))
  have r26 : y_MK s9 t1 t2 := e14
  refine T_if1 (by decide +kernel) ?_
  refine T_let 315 (by decide +kernel) ?_
  refine T_if1 (z_ixl (n := 14) (by decide +kernel) (by omega) (by omega)) ?_
  refine T_let 329 (by decide +kernel) ?_
  refine T_if1 (z_ixl (n := 3) (by decide +kernel) (by omega) (by omega)) ?_
  refine T_leq (fun x27 e28 => ?_)
  have u29 := CI_b c10 (k := 329) (j := 0) bd_329_0
  refine T_leq (fun x30 e31 => ?_)
  first | (have w32 := z_wx e31 (by omega)) | (have w32 := z_wr e31)
  refine T_if1 (z_ixl (n := 3) (by decide +kernel) (by omega) (by omega)) ?_
  refine T_upg c10 bd_329_0 (by omega) (fun s33 c34 g36 g37 e38 => ?_)
  have f35 := z_Fr.up (R := R_X12_addsSign_309) f11 g36 (fun _ => (Or.inl (⟨by decide, by decide⟩)))
  have t39 : s33 309 3 = s 309 3 := (g36 309 3 (by decide)).trans t15
  have t40 : s33 309 4 = s 309 4 := (g36 309 4 (by decide)).trans t16
  have t41 : s33 309 6 = s 309 6 := (g36 309 6 (by decide)).trans t17
  have t42 : s33 309 7 = s 309 7 := (g36 309 7 (by decide)).trans t18
  have t43 : s33 329 1 = s 329 1 := (g37 1 (by decide)).trans t20
  have t44 : s33 329 2 = s 329 2 := (g37 2 (by decide)).trans t21
  have u45 := CI_b c34 (k := 329) (j := 0) bd_329_0
  have r46 := y_D.fr r22 (fun b => g36 359 b (by decide)) (fun b => g36 374 b (by decide))
  have r47 := y_GS.fr r23 (fun b => g36 404 b (by decide)) (fun a b h => g36 a b (by omega))
  have r48 := y_VA.fr r24 (fun b => g36 344 b (by decide)) (fun b => g36 359 b (by decide)) (fun b => g36 374 b (by decide))
  have r49 := y_RW.fr r25 (fun b => g36 344 b (by decide)) (fun b => g36 359 b (by decide)) (fun b => g36 374 b (by decide)) (fun b => g36 389 b (by decide))
  have r50 := y_MK.fr r26 (fun b => g36 389 b (by decide))
  clear t15
  clear t16
  clear t17
  clear t18
  clear t20
  clear t21
  refine T_if1 (by decide +kernel) ?_
  refine T_leq (fun x51 e52 => ?_)
  have u53 := CI_b c34 (k := 309) (j := 4) bd_309_4
  refine T_leq (fun x54 e55 => ?_)
  first | (have w56 := z_wx e55 (by omega)) | (have w56 := z_wr e55)
  refine T_if1 (by decide +kernel) ?_
  refine T_upg c34 bd_309_4 (by omega) (fun s57 c58 g60 g61 e62 => ?_)
  have f59 := z_Fr.upf (R := R_X12_addsSign_309) f35 g60 g61 (Or.inr (Or.inr (Or.inr (Or.inr (Or.inr (⟨rfl, by decide⟩))))))
  have t63 : s57 309 3 = s 309 3 := (g61 3 (by decide)).trans t39
  have t64 : s57 309 6 = s 309 6 := (g61 6 (by decide)).trans t41
  have t65 : s57 309 7 = s 309 7 := (g61 7 (by decide)).trans t42
  have t66 : s57 329 0 = s33 329 0 := g60 329 0 (by decide)
  have t67 : s57 329 1 = s 329 1 := (g60 329 1 (by decide)).trans t43
  have t68 : s57 329 2 = s 329 2 := (g60 329 2 (by decide)).trans t44
  have u69 := CI_b c58 (k := 309) (j := 4) bd_309_4
  have r70 := y_D.fr r46 (fun b => g60 359 b (by decide)) (fun b => g60 374 b (by decide))
  have r71 := y_GS.fr r47 (fun b => g60 404 b (by decide)) (fun a b h => g60 a b (by omega))
  have r72 := y_VA.fr r48 (fun b => g60 344 b (by decide)) (fun b => g60 359 b (by decide)) (fun b => g60 374 b (by decide))
  have r73 := y_RW.fr r49 (fun b => g60 344 b (by decide)) (fun b => g60 359 b (by decide)) (fun b => g60 374 b (by decide)) (fun b => g60 389 b (by decide))
  have r74 := y_MK.fr r50 (fun b => g60 389 b (by decide))
  clear t39
  clear t41
  clear t42
  clear t43
  clear t44
  exact T_ret ⟨c58, f59, (by first | exact y_D.cg r70 (by omega) | exact y_D.z (by omega) | exact y_D.ex r70 (by omega) (by omega)), (by omega), (by omega), (by omega), (by omega), (by omega), (by omega), (by first | exact y_AS.yes r73 r72 r74 r71 (by omega) (by omega) (by omega) (by omega) (by omega) (by omega) (by omega)), (by omega), (by omega), rfl⟩
theorem sj_X12_addsSign_309T_J90 {fu : Nat} (hfu : 8589934592 ≤ fu) (r0 s : z_M) (c : z_CI s) (f : z_Fr R_X12_addsSign_309 r0 s) (t1 : Int) (a1 : Int) (a2 : Int) (d1 : 0 ≤ t1 ∧ t1 ≤ 199) (p0 : s 329 0 = r0 329 0) (p1 : s 309 4 = r0 309 4) (p2 : s 329 1 = r0 329 1) (p3 : s 329 1 ≤ s 329 0) (p4 : y_D s (t1 + 1)) (p5 : t1 = s 329 0) (p6 : s 309 6 = 0) (p7 : r0 309 6 = 0) (p8 : s 309 4 < s 309 3) (p9 : s 329 2 = r0 329 2) (p10 : y_GS r0 s) (p11 : y_RW r0 s t1) (p12 : y_VA r0 s t1 a1 a2) (p13 : a1 = 0 ∨ a1 = 7) (p14 : s 309 6 ≠ 0 ∨ s 309 7 = r0 309 7) : z_T (fX12_addsSign_J90 fu s 309 389 t1) (P_X12_addsSign_309T r0 a1 a2) := by
  refine T_of (fX12_addsSign_J90.eq_1 ..) ?_
  have u1 := CI_b c (k := 309) (j := 3) bd_309_3
  have u2 := CI_b c (k := 309) (j := 4) bd_309_4
  have u3 := CI_b c (k := 309) (j := 6) bd_309_6
  have u4 := CI_b c (k := 309) (j := 7) bd_309_7
  have u5 := CI_b c (k := 329) (j := 0) bd_329_0
  have u6 := CI_b c (k := 329) (j := 1) bd_329_1
  have u7 := CI_b c (k := 329) (j := 2) bd_329_2
  have t8 : s 309 3 = r0 309 3 := f 309 3 (by decide)
  refine T_if1 (by decide +kernel) ?_
  refine T_let 315 (by decide +kernel) ?_
  refine T_if1 (z_ixl (n := 14) (by decide +kernel) (by omega) (by omega)) ?_
  refine T_let 329 (by decide +kernel) ?_
  refine T_if1 (z_ixl (n := 3) (by decide +kernel) (by omega) (by omega)) ?_
  refine T_leq (fun x9 e10 => ?_)
  have u11 := CI_b c (k := 329) (j := 2) bd_329_2
  exact sj_X12_addsSign_309T_J103 hfu r0 s c f t1 x9 a1 a2 (by omega) (by omega) (by omega) (by omega) (by omega) (by omega) (by first | exact y_D.cg p4 (by omega) | exact y_D.z (by omega) | exact y_D.ex p4 (by omega) (by omega)) (by omega) (by omega) (by omega) (by omega) (by omega) p10 (by first | exact y_RW.cg p11 (by omega)) (by first | exact y_VA.cg p12 (by omega) (by omega) (by omega)) (by omega) (by omega)
set_option maxHeartbeats 4000000 in
theorem sj_X12_addsSign_309T_J26 {fu : Nat} (hfu : 8589934592 ≤ fu) (r0 s : z_M) (c : z_CI s) (f : z_Fr R_X12_addsSign_309 r0 s) (a1 : Int) (a2 : Int) (a3 : Int) (b1 : -2147483648 ≤ a1 ∧ a1 ≤ 2147483647) (b2 : (-1) ≤ a2 ∧ a2 ≤ 200) (b3 : 0 ≤ a3 ∧ a3 ≤ 200) (p0 : s 329 0 = r0 329 0) (p1 : s 309 4 = r0 309 4) (p2 : s 329 1 = r0 329 1) (p3 : s 329 1 ≤ s 329 0) (p4 : y_D s (s 329 0)) (p5 : a3 = s 329 0) (p6 : a3 ≤ 199 ∨ s 309 6 ≠ 0) (p7 : s 309 6 ≠ 0 ∨ (r0 309 6 = 0 ∧ s 309 4 < s 309 3)) (p8 : a1 ≠ 7 ∨ 0 ≤ a2) (p9 : a2 ≤ s 329 0) (p10 : s 329 2 = r0 329 2) (p11 : y_SD r0 s) (p12 : y_GS r0 s) (p13 : (r0 309 6 = 0 ∧ s 309 6 = 0) ∨ (r0 309 6 = 0 ∧ s 309 6 = 2 ∧ s 309 7 = r0 309 4 ∧ r0 329 0 = 200) ∨ (r0 309 6 ≠ 0 ∧ s 309 6 = r0 309 6 ∧ s 309 7 = r0 309 7)) (p14 : s 309 6 ≠ 0 ∨ s 309 7 = r0 309 7) : z_T (fX12_addsSign_J26 fu s 309 a1 a2 a3) (P_X12_addsSign_309T r0 a1 a2) := by
  refine T_of (fX12_addsSign_J26.eq_1 ..) ?_
  have u1 := CI_b c (k := 309) (j := 3) bd_309_3
  have u2 := CI_b c (k := 309) (j := 4) bd_309_4
  have u3 := CI_b c (k := 309) (j := 6) bd_309_6
  have u4 := CI_b c (k := 309) (j := 7) bd_309_7
  have u5 := CI_b c (k := 329) (j := 0) bd_329_0
  have u6 := CI_b c (k := 329) (j := 1) bd_329_1
  have u7 := CI_b c (k := 329) (j := 2) bd_329_2
  have t8 : s 309 3 = r0 309 3 := f 309 3 (by decide)
  refine T_if1 (by decide +kernel) ?_
  refine T_useI (sf_X12_fine_309 hfu s c) (fun v14 s9 hq => ?_)
  obtain ⟨c10, f11, ⟨x13, rfl, b15, b16, o17⟩⟩ := hq
  refine T_vI ?_
  have q18 := z_Fr.eq (fun a b h => h) f11
  subst q18
  refine T_ite (fun h19 => ?_) (fun h19 => ?_)
  · have r20 : y_RW r0 s a3 := y_RW.of p11
    refine T_if1 (by decide +kernel) ?_
    refine T_let 330 (by decide +kernel) ?_
    refine T_if1 (z_ixl (n := 14) (by decide +kernel) (by omega) (by omega)) ?_
    refine T_let 344 (by decide +kernel) ?_
    refine T_if1 (by decide +kernel) ?_
    refine T_let 311 (by decide +kernel) ?_
    refine T_if1 (by decide +kernel) ?_
    refine T_leq (fun x21 e22 => ?_)
    have u23 := CI_b c (k := 309) (j := 4) bd_309_4
    refine T_if1 (z_ixl (n := 300) (by decide +kernel) (by omega) (by omega)) ?_
    refine T_leq (fun x24 e25 => ?_)
    have u26 := CI_b c (k := 311) (j := x21) (bdr_311 x21)
    refine T_if1 (z_ixl (n := 200) (by decide +kernel) (by omega) (by omega)) ?_
    refine T_upg c (bdr_344 a3) (by omega) (fun s27 c28 g30 g31 e32 => ?_)
    have f29 := z_Fr.up (R := R_X12_addsSign_309) f g30 (fun _ => (Or.inr (Or.inl (⟨by decide, by decide⟩))))
    have t33 : s27 309 3 = s 309 3 := g30 309 3 (by decide)
    have t34 : s27 309 4 = x21 := (g30 309 4 (by decide)).trans e22
    have t35 : s27 309 6 = s 309 6 := g30 309 6 (by decide)
    have t36 : s27 309 7 = s 309 7 := g30 309 7 (by decide)
    have t37 : s27 329 0 = s 329 0 := g30 329 0 (by decide)
    have t38 : s27 329 1 = s 329 1 := g30 329 1 (by decide)
    have t39 : s27 329 2 = s 329 2 := g30 329 2 (by decide)
    have r40 := y_D.fr p4 (fun b => g30 359 b (by decide)) (fun b => g30 374 b (by decide))
    have r41 := y_GS.fr p12 (fun b => g30 404 b (by decide)) (fun a b h => g30 a b (by omega))
    have t42 : s27 311 x21 = x24 := by first | exact (g30 311 x21 (by omega)).trans e25 | exact (g31 x21 (by omega)).trans e25
    have r43 := y_RW.st r20 (fun b h => g31 b (by omega)) (fun b h => g30 359 b (by decide)) (fun b h => g30 374 b (by decide)) (fun b h => g30 389 b (by decide))
    refine T_if1 (by decide +kernel) ?_
    refine T_let 345 (by decide +kernel) ?_
    refine T_if1 (z_ixl (n := 14) (by decide +kernel) (by omega) (by omega)) ?_
    refine T_let 359 (by decide +kernel) ?_
    refine T_if1 (z_ixl (n := 200) (by decide +kernel) (by omega) (by omega)) ?_
    refine T_upg c28 (bdr_359 a3) (by omega) (fun s44 c45 g47 g48 e49 => ?_)
    have f46 := z_Fr.up (R := R_X12_addsSign_309) f29 g47 (fun _ => (Or.inr (Or.inr (Or.inl (⟨by decide, by decide⟩)))))
    have t50 : s44 309 3 = s 309 3 := (g47 309 3 (by decide)).trans t33
    have t51 : s44 309 4 = x21 := (g47 309 4 (by decide)).trans t34
    have t52 : s44 309 6 = s 309 6 := (g47 309 6 (by decide)).trans t35
    have t53 : s44 309 7 = s 309 7 := (g47 309 7 (by decide)).trans t36
    have t54 : s44 329 0 = s 329 0 := (g47 329 0 (by decide)).trans t37
    have t55 : s44 329 1 = s 329 1 := (g47 329 1 (by decide)).trans t38
    have t56 : s44 329 2 = s 329 2 := (g47 329 2 (by decide)).trans t39
    have r57 := y_GS.fr r41 (fun b => g47 404 b (by decide)) (fun a b h => g47 a b (by omega))
    have t58 : s44 311 x21 = x24 := by first | exact (g47 311 x21 (by omega)).trans t42 | exact (g48 x21 (by omega)).trans t42
    have t59 : s44 344 a3 = x24 := by first | exact (g47 344 a3 (by omega)).trans e32 | exact (g48 a3 (by omega)).trans e32
    have r60 := y_RW.st r43 (fun b h => g47 344 b (by decide)) (fun b h => g48 b (by omega)) (fun b h => g47 374 b (by decide)) (fun b h => g47 389 b (by decide))
    have r61 := y_D.st r40 (fun b h => g48 b (by omega)) (fun b h => g47 374 b (by decide))
    clear t33
    clear t34
    clear t35
    clear t36
    clear t37
    clear t38
    clear t39
    clear t42
    refine T_if1 (by decide +kernel) ?_
    refine T_let 360 (by decide +kernel) ?_
    refine T_if1 (z_ixl (n := 14) (by decide +kernel) (by omega) (by omega)) ?_
    refine T_let 374 (by decide +kernel) ?_
    refine T_if1 (z_ixl (n := 200) (by decide +kernel) (by omega) (by omega)) ?_
    refine T_upg c45 (bdr_374 a3) (by omega) (fun s62 c63 g65 g66 e67 => ?_)
    have f64 := z_Fr.up (R := R_X12_addsSign_309) f46 g65 (fun _ => (Or.inr (Or.inr (Or.inr (Or.inl (⟨by decide, by decide⟩))))))
    have t68 : s62 309 3 = s 309 3 := (g65 309 3 (by decide)).trans t50
    have t69 : s62 309 4 = x21 := (g65 309 4 (by decide)).trans t51
    have t70 : s62 309 6 = s 309 6 := (g65 309 6 (by decide)).trans t52
    have t71 : s62 309 7 = s 309 7 := (g65 309 7 (by decide)).trans t53
    have t72 : s62 329 0 = s 329 0 := (g65 329 0 (by decide)).trans t54
    have t73 : s62 329 1 = s 329 1 := (g65 329 1 (by decide)).trans t55
    have t74 : s62 329 2 = s 329 2 := (g65 329 2 (by decide)).trans t56
    have r75 := y_GS.fr r57 (fun b => g65 404 b (by decide)) (fun a b h => g65 a b (by omega))
    have t76 : s62 311 x21 = x24 := by first | exact (g65 311 x21 (by omega)).trans t58 | exact (g66 x21 (by omega)).trans t58
    have t77 : s62 344 a3 = x24 := by first | exact (g65 344 a3 (by omega)).trans t59 | exact (g66 a3 (by omega)).trans t59
    have t78 : s62 359 a3 = a1 := by first | exact (g65 359 a3 (by omega)).trans e49 | exact (g66 a3 (by omega)).trans e49
    have r79 := y_RW.st r60 (fun b h => g65 344 b (by decide)) (fun b h => g65 359 b (by decide)) (fun b h => g66 b (by omega)) (fun b h => g65 389 b (by decide))
    have r80 : y_D s62 a3 := y_D.cg (y_D.st r61 (fun b h => g65 359 b (by decide)) (fun b h => g66 b (by omega))) (by omega)
    have r81 : y_D s62 (a3 + 1) := y_D.ex r80 (by omega) rfl
    have r82 : y_VA r0 s62 a3 a1 a2 := y_VA.mk (n := a3) (fun b => (f46 311 b (by unfold R_X12_addsSign_309; omega))) (by omega) (by assumption) (by omega) (by omega) e67
    clear t50
    clear t51
    clear t52
    clear t53
    clear t54
    clear t55
    clear t56
    clear t58
    clear t59
    refine T_if1 (by decide +kernel) ?_
    refine T_let 375 (by decide +kernel) ?_
    refine T_if1 (z_ixl (n := 14) (by decide +kernel) (by omega) (by omega)) ?_
    refine T_let 389 (by decide +kernel) ?_
    refine T_ite (fun h83 => ?_) (fun h83 => ?_)
    · exact sj_X12_addsSign_309T_J90 hfu r0 s62 c63 f64 a3 a1 a2 (by omega) (by omega) (by omega) (by omega) (by omega) (by first | exact y_D.cg r81 (by omega) | exact y_D.cg r80 (by omega) | exact y_D.z (by omega) | exact y_D.ex r81 (by omega) (by omega) | exact y_D.ex r80 (by omega) (by omega)) (by omega) (by omega) (by omega) (by omega) (by omega) r75 (by first | exact y_RW.cg r79 (by omega)) (by first | exact y_VA.cg r82 (by omega) (by omega) (by omega)) (by omega) (by omega)
    · refine T_ite (fun h84 => ?_) (fun h84 => ?_)
      · exact sj_X12_addsSign_309T_J103 hfu r0 s62 c63 f64 a3 0 a1 a2 (by omega) (by omega) (by omega) (by omega) (by omega) (by omega) (by first | exact y_D.cg r81 (by omega) | exact y_D.cg r80 (by omega) | exact y_D.z (by omega) | exact y_D.ex r81 (by omega) (by omega) | exact y_D.ex r80 (by omega) (by omega)) (by omega) (by omega) (by omega) (by omega) (by omega) r75 (by first | exact y_RW.cg r79 (by omega)) (by first | exact y_VA.cg r82 (by omega) (by omega) (by omega)) (by omega) (by omega)
      · exact sj_X12_addsSign_309T_J90 hfu r0 s62 c63 f64 a3 a1 a2 (by omega) (by omega) (by omega) (by omega) (by omega) (by first | exact y_D.cg r81 (by omega) | exact y_D.cg r80 (by omega) | exact y_D.z (by omega) | exact y_D.ex r81 (by omega) (by omega) | exact y_D.ex r80 (by omega) (by omega)) (by omega) (by omega) (by omega) (by omega) (by omega) r75 (by first | exact y_RW.cg r79 (by omega)) (by first | exact y_VA.cg r82 (by omega) (by omega) (by omega)) (by omega) (by omega)
  · exact T_ret ⟨c, f, (by first | exact y_D.cg p4 (by omega) | exact y_D.z (by omega) | exact y_D.ex p4 (by omega) (by omega)), (by omega), (by omega), (by omega), (by omega), (by omega), (by omega), (by first | exact y_AS.no p11 p12 (by omega) (by omega) (by omega)), (by omega), (by omega), rfl⟩
theorem nr_X12_wrong_309__344 (b : Int) : ¬ R_X12_wrong_309 344 b := by
  unfold R_X12_wrong_309; omega
theorem nr_X12_wrong_309__389 (b : Int) : ¬ R_X12_wrong_309 389 b := by
  unfold R_X12_wrong_309; omega
theorem nr_X12_wrong_309__404 (b : Int) : ¬ R_X12_wrong_309 404 b := by
  unfold R_X12_wrong_309; omega
theorem nz_X12_wrong_309__3020_3219 (a b : Int) (h : 3020 ≤ a ∧ a ≤ 3219) : ¬ R_X12_wrong_309 a b := by
  unfold R_X12_wrong_309; omega
theorem sf_X12_addsSign_309T {fu : Nat} (hfu : 8589934592 ≤ fu) (r0 : z_M) (c0 : z_CI r0) (a1 : Int) (a2 : Int) (b1 : -2147483648 ≤ a1 ∧ a1 ≤ 2147483647) (b2 : (-1) ≤ a2 ∧ a2 ≤ 200) (p0 : y_D r0 (r0 329 0)) (p1 : r0 329 1 ≤ r0 329 0) (p2 : r0 309 6 ≠ 0 ∨ r0 309 4 < r0 309 3) (p3 : a1 ≠ 7 ∨ 0 ≤ a2) (p4 : a2 ≤ r0 329 0) : z_T (fX12_addsSign fu r0 309 a1 a2) (P_X12_addsSign_309T r0 a1 a2) := by
  refine T_of (fX12_addsSign.eq_1 ..) ?_
  have u1 := CI_b c0 (k := 309) (j := 3) bd_309_3
  have u2 := CI_b c0 (k := 309) (j := 4) bd_309_4
  have u3 := CI_b c0 (k := 309) (j := 6) bd_309_6
  have u4 := CI_b c0 (k := 309) (j := 7) bd_309_7
  have u5 := CI_b c0 (k := 329) (j := 0) bd_329_0
  have u6 := CI_b c0 (k := 329) (j := 1) bd_329_1
  have u7 := CI_b c0 (k := 329) (j := 2) bd_329_2
  have r8 : y_SD r0 r0 := y_SD.rf
  have r9 : y_GS r0 r0 := y_GS.rf
  refine T_if1 (by decide +kernel) ?_
  refine T_let 315 (by decide +kernel) ?_
  refine T_if1 (z_ixl (n := 14) (by decide +kernel) (by omega) (by omega)) ?_
  refine T_let 329 (by decide +kernel) ?_
  refine T_if1 (z_ixl (n := 3) (by decide +kernel) (by omega) (by omega)) ?_
  refine T_leq (fun x10 e11 => ?_)
  have u12 := CI_b c0 (k := 329) (j := 0) bd_329_0
  refine T_ite (fun h13 => ?_) (fun h13 => ?_)
  · exact sj_X12_addsSign_309T_J26 hfu r0 r0 c0 z_Fr.rf a1 a2 x10 (by omega) (by omega) (by omega) (by omega) (by omega) (by omega) (by omega) (by first | exact y_D.cg p0 (by omega) | exact y_D.z (by omega) | exact y_D.ex p0 (by omega) (by omega)) (by omega) (by omega) (by omega) (by omega) (by omega) (by omega) r8 r9 (by omega) (by omega)
  · refine T_if1 (by decide +kernel) ?_
    refine T_leq (fun x14 e15 => ?_)
    have u16 := CI_b c0 (k := 309) (j := 4) bd_309_4
    refine T_if1 (by decide +kernel) ?_
    refine T_useN (sf_X12_wrong_309T hfu r0 c0 2 x14 (by omega) (by omega) (by omega)) (fun v22 s17 hq => ?_)
    obtain ⟨c18, f19, o23, o24, rfl⟩ := hq
    refine T_vN ?_
    have f20 := z_Fr.tr (R := R_X12_addsSign_309) z_Fr.rf f19 rs_X12_wrong_309__X12_addsSign_309
    have t27 : s17 309 3 = r0 309 3 := f19 309 3 (by decide)
    have t28 : s17 309 4 = x14 := (f19 309 4 (by decide)).trans e15
    have t29 : s17 329 0 = r0 329 0 := f19 329 0 (by decide)
    have t30 : s17 329 1 = r0 329 1 := f19 329 1 (by decide)
    have t31 : s17 329 2 = r0 329 2 := f19 329 2 (by decide)
    have u32 := CI_b c18 (k := 309) (j := 6) bd_309_6
    have u33 := CI_b c18 (k := 309) (j := 7) bd_309_7
    have r34 := y_D.fr p0 (fun b => f19 359 b (nr_X12_wrong_309__359 b)) (fun b => f19 374 b (nr_X12_wrong_309__374 b))
    have r35 := y_SD.fr r8 (f19 329 0 (by decide)) (f19 329 2 (by decide)) (fun b => f19 344 b (nr_X12_wrong_309__344 b)) (fun b => f19 359 b (nr_X12_wrong_309__359 b)) (fun b => f19 374 b (nr_X12_wrong_309__374 b)) (fun b => f19 389 b (nr_X12_wrong_309__389 b))
    have r36 := y_GS.fr r9 (fun b => f19 404 b (nr_X12_wrong_309__404 b)) (fun a b h => f19 a b (nz_X12_wrong_309__3020_3219 a b h))
    exact sj_X12_addsSign_309T_J26 hfu r0 s17 c18 f20 a1 a2 x10 (by omega) (by omega) (by omega) (by omega) (by omega) (by omega) (by omega) (by first | exact y_D.cg r34 (by omega) | exact y_D.z (by omega) | exact y_D.ex r34 (by omega) (by omega)) (by omega) (by omega) (by omega) (by omega) (by omega) (by omega) r35 r36 (by omega) (by omega)
abbrev P_X12_readsReading_309T (r0 : z_M) (a2 : Int) : z_V → z_M → Prop := fun v s' => z_CI s' ∧ z_Fr R_X12_readsReading_309 r0 s' ∧ (s' 309 4 ≤ s' 309 3) ∧ (r0 309 4 + 1 ≤ s' 309 4) ∧ (y_PR r0 s' a2) ∧ (s' 309 6 ≠ 0 ∨ s' 309 7 = r0 309 7) ∧ (s' 309 6 = 0 ∨ s' 309 6 = 1 ∨ s' 309 6 = 2) ∧ (v = vN)
theorem sj_X12_readsReading_309T_J83 {fu : Nat} (hfu : 8589934592 ≤ fu) (r0 s : z_M) (c : z_CI s) (f : z_Fr R_X12_readsReading_309 r0 s) (a2 : Int) (a3 : Int) (b2 : 0 ≤ a2 ∧ a2 ≤ 1) (b3 : 3020 ≤ a3 ∧ a3 ≤ 3219) (p0 : s 309 4 ≤ s 309 3) (p1 : r0 309 4 + 1 ≤ s 309 4) (p2 : y_RC s a3 a2) (p3 : s 309 4 < s 309 3) (p4 : y_RL r0 s a3 a2) (p5 : a3 = 3019 + r0 329 1) (p6 : s 309 6 ≠ 0 ∨ (97 ≤ y_hr s ∧ y_hr s ≤ 122)) (p7 : s 309 6 ≠ 0 ∨ s 309 7 = r0 309 7) (p8 : s 309 6 = 0 ∨ s 309 6 = 1 ∨ s 309 6 = 2) (M : Int) (pm : 303 - s 309 4 ≤ M) {r : z_M → z_O} {k : z_M → z_O} (hr : ∀ (s' : z_M), z_CI s' → z_Fr R_X12_readsReading_309 r0 s' → (s' 309 4 ≤ s' 309 3) → (r0 309 4 + 1 ≤ s' 309 4) → (y_RL r0 s' a3 a2) → (a3 = 3019 + r0 329 1) → (s' 309 6 ≠ 0 ∨ s' 309 7 = r0 309 7) → (s' 309 6 = 0 ∨ s' 309 6 = 1 ∨ s' 309 6 = 2) → (303 - s' 309 4 < M) → z_T (r s') (P_X12_readsReading_309T r0 a2)) (hk : ∀ (s' : z_M), z_CI s' → z_Fr R_X12_readsReading_309 r0 s' → (s' 309 4 ≤ s' 309 3) → (r0 309 4 + 1 ≤ s' 309 4) → (y_PR r0 s' a2) → (s' 309 6 ≠ 0 ∨ s' 309 7 = r0 309 7) → (s' 309 6 = 0 ∨ s' 309 6 = 1 ∨ s' 309 6 = 2) → z_T (k s') (P_X12_readsReading_309T r0 a2)) : z_T (fX12_readsReading_J83 fu s 309 a2 a3 r k) (P_X12_readsReading_309T r0 a2) := by
  refine T_of (fX12_readsReading_J83.eq_1 ..) ?_
  have u1 := CI_b c (k := 309) (j := 3) bd_309_3
  have u2 := CI_b c (k := 309) (j := 4) bd_309_4
  have u3 := CI_b c (k := 309) (j := 6) bd_309_6
  have u4 := CI_b c (k := 309) (j := 7) bd_309_7
  have u5 := CI_b c (k := 329) (j := 0) bd_329_0
  have u6 := CI_b c (k := 329) (j := 1) bd_329_1
  have u7 := CI_b c (k := 329) (j := 2) bd_329_2
  have t8 : s 309 3 = r0 309 3 := f 309 3 (by decide)
  have t9 : s 329 0 = r0 329 0 := f 329 0 (by decide)
  have t10 : s 329 1 = r0 329 1 := f 329 1 (by decide)
  have t11 : s 329 2 = r0 329 2 := f 329 2 (by decide)
  refine T_if1 (by decide +kernel) ?_
  refine T_useI (sf_X12_fine_309 hfu s c) (fun v17 s12 hq => ?_)
  obtain ⟨c13, f14, ⟨x16, rfl, b18, b19, o20⟩⟩ := hq
  refine T_vI ?_
  have q21 := z_Fr.eq (fun a b h => h) f14
  subst q21
  refine T_ite (fun h22 => ?_) (fun h22 => ?_)
  · have hcs91 := c
    have hRL := p4
    have hk1 : ∀ b, s 311 b = r0 311 b := (fun b => f 311 b (by unfold R_X12_readsReading_309; omega))
    have hs0 : y_sml (y_hr s) := by unfold y_sml; omega
    have hl0 : s 309 4 < s 309 3 := by omega
    have hf0 : s 309 6 = 0 := by omega
    have h329 : s 329 0 = s 329 0 := rfl
    refine T_leq (fun x23 e24 => ?_)
    first | (have w25 := z_wx e24 (by omega)) | (have w25 := z_wr e24)
    refine T_if1 (z_ixs (sh_L13 (by omega)) (by omega) (by omega) (by omega)) ?_
    refine T_leq (fun x26 e27 => ?_)
    have u28 := CI_b c (k := a3) (j := x23) (bd0x (by omega) (by omega))
    have n29 := y_RC.to p2 (v := x26) (by omega) (by assumption) (by omega)
    refine T_leq (fun x30 e31 => ?_)
    first | (have w32 := z_wx e31 (by omega)) | (have w32 := z_wr e31)
    refine T_if1 (z_ixs (sh_L13 (by omega)) (by omega) (by omega) (by omega)) ?_
    refine T_upg c (bd0x (by omega) (by omega)) (by omega) (fun s33 c34 g36 g37 e38 => ?_)
    have f35 := z_Fr.up (R := R_X12_readsReading_309) f g36 (fun b => by unfold R_X12_readsReading_309; omega)
    have t39 : s33 309 3 = s 309 3 := g36 309 3 (by omega)
    have t40 : s33 309 4 = s 309 4 := g36 309 4 (by omega)
    have t41 : s33 309 6 = s 309 6 := g36 309 6 (by omega)
    have t42 : s33 309 7 = s 309 7 := g36 309 7 (by omega)
    have t43 : s33 329 0 = s 329 0 := g36 329 0 (by omega)
    have t44 : s33 329 1 = s 329 1 := g36 329 1 (by omega)
    have t45 : s33 329 2 = s 329 2 := g36 329 2 (by omega)
    have hg1 := g36
    have hp1 := g37
    have he1 := e38
    refine T_leq (fun x46 e47 => ?_)
    have q48 : x23 = x46 := e24.symm.trans e47
    subst q48
    refine T_leq (fun x49 e50 => ?_)
    have q51 : x23 = x49 := e24.symm.trans e50
    subst q51
    refine T_if1 (z_ixs (sh_L13 (by omega)) (by omega) (by omega) (by omega)) ?_
    refine T_leq (fun x52 e53 => ?_)
    have u54 := CI_b c34 (k := a3) (j := x23) (bd0x (by omega) (by omega))
    refine T_leq (fun x55 e56 => ?_)
    first | (have w57 := z_wx e56 (by omega)) | (have w57 := z_wr e56)
    refine T_if1 (by decide +kernel) ?_
    refine T_let 311 (by decide +kernel) ?_
    refine T_if1 (by decide +kernel) ?_
    refine T_leq (fun x58 e59 => ?_)
    have u60 := CI_b c34 (k := 309) (j := 4) bd_309_4
    refine T_if1 (z_ixl (n := 300) (by decide +kernel) (by omega) (by omega)) ?_
    refine T_leq (fun x61 e62 => ?_)
    have u63 := CI_b c34 (k := 311) (j := x58) (bdr_311 x58)
    refine T_if1 (z_ixs (sh_L13 (by omega)) (by omega) (by omega) (by omega)) ?_
    refine T_upg c34 (bd0y (by omega) (by omega)) (by omega) (fun s64 c65 g67 g68 e69 => ?_)
    have f66 := z_Fr.up (R := R_X12_readsReading_309) f35 g67 (fun b => by unfold R_X12_readsReading_309; omega)
    have t70 : s64 309 3 = s 309 3 := (g67 309 3 (by omega)).trans t39
    have t71 : s64 309 4 = x58 := (g67 309 4 (by omega)).trans e59
    have t72 : s64 309 6 = s 309 6 := (g67 309 6 (by omega)).trans t41
    have t73 : s64 309 7 = s 309 7 := (g67 309 7 (by omega)).trans t42
    have t74 : s64 329 0 = s 329 0 := (g67 329 0 (by omega)).trans t43
    have t75 : s64 329 1 = s 329 1 := (g67 329 1 (by omega)).trans t44
    have t76 : s64 329 2 = s 329 2 := (g67 329 2 (by omega)).trans t45
    have hq2 := g68
    have hg2 := g67
    have hp2 := g68 x23 (by omega)
    clear t39
    clear t41
    clear t42
    clear t43
    clear t44
    clear t45
    refine T_if1 (by decide +kernel) ?_
    refine T_leq (fun x77 e78 => ?_)
    have q79 : x58 = x77 := t71.symm.trans e78
    subst q79
    refine T_leq (fun x80 e81 => ?_)
    first | (have w82 := z_wx e81 (by omega)) | (have w82 := z_wr e81)
    refine T_if1 (by decide +kernel) ?_
    refine T_upg c65 bd_309_4 (by omega) (fun s83 c84 g86 g87 e88 => ?_)
    have f85 := z_Fr.upf (R := R_X12_readsReading_309) f66 g86 g87 (Or.inr (⟨rfl, by decide⟩))
    have t89 : s83 309 3 = s 309 3 := (g87 3 (by decide)).trans t70
    have t90 : s83 309 6 = s 309 6 := (g87 6 (by decide)).trans t72
    have t91 : s83 309 7 = s 309 7 := (g87 7 (by decide)).trans t73
    have t92 : s83 329 0 = s 329 0 := (g86 329 0 (by decide)).trans t74
    have t93 : s83 329 1 = s 329 1 := (g86 329 1 (by decide)).trans t75
    have t94 : s83 329 2 = s 329 2 := (g86 329 2 (by decide)).trans t76
    have u95 := CI_b c84 (k := 309) (j := 4) bd_309_4
    have hp3 := g86 a3 x23 (by omega)
    have r96 : y_RL r0 s83 a3 a2 := y_RL.let hRL hf0 (by omega) hs0 (i := x23) (by omega) (by omega) (by omega) (by omega) hl0 hk1 ⟨by omega, by omega, fun b => (g86 344 b (by omega)).trans ((hg2 344 b (by omega)).trans (hg1 344 b (by omega))), fun b => (g86 359 b (by omega)).trans ((hg2 359 b (by omega)).trans (hg1 359 b (by omega))), fun b => (g86 374 b (by omega)).trans ((hg2 374 b (by omega)).trans (hg1 374 b (by omega))), fun b => (g86 389 b (by omega)).trans ((hg2 389 b (by omega)).trans (hg1 389 b (by omega)))⟩ (by omega) hcs91 (by omega) (y_GV.let hg1 hp1 hg2 hq2 g86 (by omega) (by omega))
    clear t70
    clear t72
    clear t73
    clear t74
    clear t75
    clear t76
    exact hr s83 c84 f85 (by omega) (by omega) (by first | exact y_RL.cg r96 (by omega) (by omega)) (by omega) (by omega) (by omega) (by omega)
  · exact T_ret ⟨c, f, (by omega), (by omega), (by first | exact y_PR.f p4 (by omega) (by omega) | exact y_PR.n p4 (by omega) (by omega) (by omega)), (by omega), (by omega), rfl⟩
theorem sl_X12_readsReading_309T_L46 {fu : Nat} (hfu : 8589934592 ≤ fu) (r0 : z_M) (a2 : Int) (a3 : Int) (b2 : 0 ≤ a2 ∧ a2 ≤ 1) (b3 : 3020 ≤ a3 ∧ a3 ≤ 3219) {k : z_M → z_O} (hk : ∀ (s' : z_M), z_CI s' → z_Fr R_X12_readsReading_309 r0 s' → (s' 309 4 ≤ s' 309 3) → (r0 309 4 + 1 ≤ s' 309 4) → (y_PR r0 s' a2) → (s' 309 6 ≠ 0 ∨ s' 309 7 = r0 309 7) → (s' 309 6 = 0 ∨ s' 309 6 = 1 ∨ s' 309 6 = 2) → z_T (k s') (P_X12_readsReading_309T r0 a2)) : ∀ (F : Nat) (s : z_M), z_CI s → z_Fr R_X12_readsReading_309 r0 s → (s 309 4 ≤ s 309 3) → (r0 309 4 + 1 ≤ s 309 4) → (y_RL r0 s a3 a2) → (a3 = 3019 + r0 329 1) → (s 309 6 ≠ 0 ∨ s 309 7 = r0 309 7) → (s 309 6 = 0 ∨ s 309 6 = 1 ∨ s 309 6 = 2) → (303 - s 309 4 < (F : Int)) → z_T (fX12_readsReading_L46 fu 309 a2 a3 F s k) (P_X12_readsReading_309T r0 a2) := by
  intro F
  induction F with
  | zero =>
    intro s c f i0 i1 i2 i3 i4 i5 hm
    have u73 := CI_b c (k := 309) (j := 3) bd_309_3
    have u74 := CI_b c (k := 309) (j := 4) bd_309_4
    have u75 := CI_b c (k := 309) (j := 6) bd_309_6
    have u76 := CI_b c (k := 309) (j := 7) bd_309_7
    have u77 := CI_b c (k := 329) (j := 0) bd_329_0
    have u78 := CI_b c (k := 329) (j := 1) bd_329_1
    have u79 := CI_b c (k := 329) (j := 2) bd_329_2
    exfalso; omega
  | succ F ih =>
    intro s c f i0 i1 i2 i3 i4 i5 hm
    refine T_of (fX12_readsReading_L46.eq_2 ..) ?_
    have u1 := CI_b c (k := 309) (j := 3) bd_309_3
    have u2 := CI_b c (k := 309) (j := 4) bd_309_4
    have u3 := CI_b c (k := 309) (j := 6) bd_309_6
    have u4 := CI_b c (k := 309) (j := 7) bd_309_7
    have u5 := CI_b c (k := 329) (j := 0) bd_329_0
    have u6 := CI_b c (k := 329) (j := 1) bd_329_1
    have u7 := CI_b c (k := 329) (j := 2) bd_329_2
    have t8 : s 309 3 = r0 309 3 := f 309 3 (by decide)
    have t9 : s 329 0 = r0 329 0 := f 329 0 (by decide)
    have t10 : s 329 1 = r0 329 1 := f 329 1 (by decide)
    have t11 : s 329 2 = r0 329 2 := f 329 2 (by decide)
    refine T_if1 (by decide +kernel) ?_
    refine T_useI (sf_X12_fine_309 hfu s c) (fun v17 s12 hq => ?_)
    obtain ⟨c13, f14, ⟨x16, rfl, b18, b19, o20⟩⟩ := hq
    refine T_vI ?_
    have q21 := z_Fr.eq (fun a b h => h) f14
    subst q21
    refine T_ite (fun h22 => ?_) (fun h22 => ?_)
    · exact hk s c f (by omega) (by omega) (by first | exact y_PR.f i2 (by omega) (by omega) | exact y_PR.n i2 (by omega) (by omega) (by omega)) (by omega) (by omega)
    · refine T_if1 (by decide +kernel) ?_
      refine T_useI (sf_X12_here_309 hfu s c) (fun v28 s23 hq => ?_)
      obtain ⟨c24, f25, ⟨x27, rfl, b29, b30, o31⟩⟩ := hq
      refine T_vI ?_
      have q32 := z_Fr.eq (fun a b h => h) f25
      subst q32
      refine T_useI (sf_X12_isSmall hfu s c x27 (by omega)) (fun v38 s33 hq => ?_)
      obtain ⟨c34, f35, ⟨x37, rfl, b39, b40, o41⟩⟩ := hq
      refine T_vI ?_
      have q42 := z_Fr.eq (fun a b h => h) f35
      subst q42
      refine T_ite (fun h43 => ?_) (fun h43 => ?_)
      · exact hk s c f (by omega) (by omega) (by first | exact y_PR.f i2 (by omega) (by omega) | exact y_PR.n i2 (by omega) (by omega) (by omega)) (by omega) (by omega)
      · have n44 := y_hr_lt s
        refine T_leq (fun x45 e46 => ?_)
        first | (have w47 := z_wx e46 (by omega)) | (have w47 := z_wr e46)
        refine T_if1 (z_ixs (sh_L13 (by omega)) (by omega) (by omega) (by omega)) ?_
        refine T_leq (fun x48 e49 => ?_)
        have u50 := CI_b c (k := a3) (j := x45) (bd0x (by omega) (by omega))
        refine T_ite (fun h51 => ?_) (fun h51 => ?_)
        · exact sj_X12_readsReading_309T_J83 hfu r0 s c f a2 a3 (by omega) (by omega) (by omega) (by omega) (by first | exact Or.inl (by omega) | exact y_RC.mk (by assumption) (by omega) (by omega)) (by omega) (by first | exact y_RL.cg i2 (by omega) (by omega)) (by omega) (by omega) (by omega) (by omega) (303 - s 309 4) (by omega) (fun s'  c' f' z0 z1 z2 z3 z4 z5 pg => ih s'  c' f' z0 z1 z2 z3 z4 z5 (by omega)) hk
        · refine T_if1 (by decide +kernel) ?_
          refine T_leq (fun x52 e53 => ?_)
          have u54 := CI_b c (k := 309) (j := 4) bd_309_4
          refine T_if1 (by decide +kernel) ?_
          refine T_useN (sf_X12_wrong_309T hfu s c 1 x52 (by omega) (by omega) (by omega)) (fun v60 s55 hq => ?_)
          obtain ⟨c56, f57, o61, o62, rfl⟩ := hq
          refine T_vN ?_
          have f58 := z_Fr.tr (R := R_X12_readsReading_309) f f57 rs_X12_wrong_309__X12_readsReading_309
          have t65 : s55 309 3 = s 309 3 := f57 309 3 (by decide)
          have t66 : s55 309 4 = x52 := (f57 309 4 (by decide)).trans e53
          have t67 : s55 329 0 = s 329 0 := f57 329 0 (by decide)
          have t68 : s55 329 1 = s 329 1 := f57 329 1 (by decide)
          have t69 : s55 329 2 = s 329 2 := f57 329 2 (by decide)
          have u70 := CI_b c56 (k := 309) (j := 6) bd_309_6
          have u71 := CI_b c56 (k := 309) (j := 7) bd_309_7
          have r72 : y_RL r0 s55 a3 a2 := y_RL.w9 i2 (by omega) (by unfold y_sml; omega) (i := x45) (by omega) (by omega) (by omega) (by omega) (by omega) (fun b => f 311 b (by unfold R_X12_readsReading_309; omega)) (by omega) rfl
          exact sj_X12_readsReading_309T_J83 hfu r0 s55 c56 f58 a2 a3 (by omega) (by omega) (by omega) (by omega) (by first | exact Or.inl (by omega) | exact y_RC.mk (by assumption) (by omega) (by omega)) (by omega) (by first | exact y_RL.cg r72 (by omega) (by omega)) (by omega) (by omega) (by omega) (by omega) (303 - s 309 4) (by omega) (fun s'  c' f' z0 z1 z2 z3 z4 z5 pg => ih s'  c' f' z0 z1 z2 z3 z4 z5 (by omega)) hk
theorem sj_X12_readsReading_309T_J136 {fu : Nat} (hfu : 8589934592 ≤ fu) (r0 s : z_M) (c : z_CI s) (f : z_Fr R_X12_readsReading_309 r0 s) (a2 : Int) (p0 : s 309 4 ≤ s 309 3) (p1 : r0 309 4 + 1 ≤ s 309 4) (p2 : y_PR r0 s a2) (p3 : s 309 6 ≠ 0 ∨ s 309 7 = r0 309 7) (p4 : s 309 6 = 0 ∨ s 309 6 = 1 ∨ s 309 6 = 2) : z_T (fX12_readsReading_J136 fu s) (P_X12_readsReading_309T r0 a2) := by
  refine T_of (fX12_readsReading_J136.eq_1 ..) ?_
  have u1 := CI_b c (k := 309) (j := 3) bd_309_3
  have u2 := CI_b c (k := 309) (j := 4) bd_309_4
  have u3 := CI_b c (k := 309) (j := 6) bd_309_6
  have u4 := CI_b c (k := 309) (j := 7) bd_309_7
  have u5 := CI_b c (k := 329) (j := 0) bd_329_0
  have u6 := CI_b c (k := 329) (j := 1) bd_329_1
  have u7 := CI_b c (k := 329) (j := 2) bd_329_2
  have t8 : s 309 3 = r0 309 3 := f 309 3 (by decide)
  have t9 : s 329 0 = r0 329 0 := f 329 0 (by decide)
  have t10 : s 329 1 = r0 329 1 := f 329 1 (by decide)
  have t11 : s 329 2 = r0 329 2 := f 329 2 (by decide)
  exact T_ret ⟨c, f, (by omega), (by omega), (by first | exact y_PR.cg p2 (by omega)), (by omega), (by omega), rfl⟩
theorem sf_X12_readsReading_309T {fu : Nat} (hfu : 8589934592 ≤ fu) (r0 : z_M) (c0 : z_CI r0) (a1 : Int) (a2 : Int) (b1 : 0 ≤ a1 ∧ a1 ≤ 199) (b2 : 0 ≤ a2 ∧ a2 ≤ 1) (p0 : r0 309 4 < r0 309 3) (p1 : r0 309 6 = 0) (p2 : y_hr r0 = 124) (p3 : a1 + 1 = r0 329 1) : z_T (fX12_readsReading fu r0 309 a1 a2) (P_X12_readsReading_309T r0 a2) := by
  refine T_of (fX12_readsReading.eq_1 ..) ?_
  have u1 := CI_b c0 (k := 309) (j := 3) bd_309_3
  have u2 := CI_b c0 (k := 309) (j := 4) bd_309_4
  have u3 := CI_b c0 (k := 309) (j := 6) bd_309_6
  have u4 := CI_b c0 (k := 309) (j := 7) bd_309_7
  have u5 := CI_b c0 (k := 329) (j := 0) bd_329_0
  have u6 := CI_b c0 (k := 329) (j := 1) bd_329_1
  have u7 := CI_b c0 (k := 329) (j := 2) bd_329_2
  have r8 : y_SD r0 r0 := y_SD.rf
  have n9 := y_hr_lt r0
  have n10 := y_hr_at (s := r0) (by omega)
  refine T_if1 (by decide +kernel) ?_
  refine T_let 405 (by decide +kernel) ?_
  refine T_if1 (z_ixl (n := 14) (by decide +kernel) (by omega) (by omega)) ?_
  refine T_let 3019 (by decide +kernel) ?_
  refine T_if1 (z_ixl (n := 200) (by decide +kernel) (by omega) (by omega)) ?_
  refine T_let (3020 + a1) (gr_3019 a1) ?_
  refine T_leq (fun x11 e12 => ?_)
  first | (have w13 := z_wx e12 (by omega)) | (have w13 := z_wr e12)
  refine T_if1 (z_ixs (sh_L13 (by omega)) (by omega) (by omega) (by omega)) ?_
  refine T_upg c0 (bd0x (by omega) (by omega)) (by omega) (fun s14 c15 g17 g18 e19 => ?_)
  have f16 := z_Fr.up (R := R_X12_readsReading_309) z_Fr.rf g17 (fun b => by unfold R_X12_readsReading_309; omega)
  have t20 : s14 309 3 = r0 309 3 := g17 309 3 (by omega)
  have t21 : s14 309 4 = r0 309 4 := g17 309 4 (by omega)
  have t22 : s14 309 6 = r0 309 6 := g17 309 6 (by omega)
  have t23 : s14 309 7 = r0 309 7 := g17 309 7 (by omega)
  have t24 : s14 329 0 = r0 329 0 := g17 329 0 (by omega)
  have t25 : s14 329 1 = r0 329 1 := g17 329 1 (by omega)
  have t26 : s14 329 2 = r0 329 2 := g17 329 2 (by omega)
  have r27 := y_SD.fr r8 (g17 329 0 (by omega)) (g17 329 2 (by omega)) (fun b => g17 344 b (by omega)) (fun b => g17 359 b (by omega)) (fun b => g17 374 b (by omega)) (fun b => g17 389 b (by omega))
  have hg16 := g17
  have hp16 := g18
  have he16 := e19
  refine T_if1 (by decide +kernel) ?_
  refine T_leq (fun x28 e29 => ?_)
  have u30 := CI_b c15 (k := 309) (j := 4) bd_309_4
  refine T_leq (fun x31 e32 => ?_)
  first | (have w33 := z_wx e32 (by omega)) | (have w33 := z_wr e32)
  refine T_if1 (by decide +kernel) ?_
  refine T_upg c15 bd_309_4 (by omega) (fun s34 c35 g37 g38 e39 => ?_)
  have f36 := z_Fr.upf (R := R_X12_readsReading_309) f16 g37 g38 (Or.inr (⟨rfl, by decide⟩))
  have t40 : s34 309 3 = r0 309 3 := (g38 3 (by decide)).trans t20
  have t41 : s34 309 6 = r0 309 6 := (g38 6 (by decide)).trans t22
  have t42 : s34 309 7 = r0 309 7 := (g38 7 (by decide)).trans t23
  have t43 : s34 329 0 = r0 329 0 := (g37 329 0 (by decide)).trans t24
  have t44 : s34 329 1 = r0 329 1 := (g37 329 1 (by decide)).trans t25
  have t45 : s34 329 2 = r0 329 2 := (g37 329 2 (by decide)).trans t26
  have u46 := CI_b c35 (k := 309) (j := 4) bd_309_4
  have r47 := y_SD.fr r27 (g37 329 0 (by decide)) (g37 329 2 (by decide)) (fun b => g37 344 b (by decide)) (fun b => g37 359 b (by decide)) (fun b => g37 374 b (by decide)) (fun b => g37 389 b (by decide))
  have t48 : s34 (3020 + a1) x11 = 0 := by first | exact (g37 (3020 + a1) x11 (by omega)).trans e19 | exact (g38 x11 (by omega)).trans e19
  have r49 : y_R1 r0 s34 a2 := y_R1.mk r47 (by omega) (by omega) (by omega) (y_GV.mk (a := a1) hg16 hp16 he16 (by omega) (by omega) g37 (by omega))
  clear t20
  clear t22
  clear t23
  clear t24
  clear t25
  clear t26
  refine T_if1 (by decide +kernel) ?_
  refine T_useI (sf_X12_here_309 hfu s34 c35) (fun v55 s50 hq => ?_)
  obtain ⟨c51, f52, ⟨x54, rfl, b56, b57, o58⟩⟩ := hq
  refine T_vI ?_
  have q59 := z_Fr.eq (fun a b h => h) f52
  subst q59
  refine T_useI (sf_X12_isSmall hfu s34 c35 x54 (by omega)) (fun v65 s60 hq => ?_)
  obtain ⟨c61, f62, ⟨x64, rfl, b66, b67, o68⟩⟩ := hq
  refine T_vI ?_
  have q69 := z_Fr.eq (fun a b h => h) f62
  subst q69
  have hR1 := r49
  have hl1 : s34 309 4 ≤ s34 309 3 := by omega
  refine T_ite (fun h70 => ?_) (fun h70 => ?_)
  · refine sl_X12_readsReading_309T_L46 hfu r0 a2 (3020 + a1) (by omega) (by omega) (fun s71 c72 f73 g74 g75 g76 g77 g78 => ?_) fu s34 c35 f36 (by omega) (by omega) (by first | exact y_RL.s r49 (by omega) (by assumption) (by assumption) (by unfold y_sml; omega)) (by omega) (by omega) (by omega) (by omega)
    have u79 := CI_b c72 (k := 309) (j := 3) bd_309_3
    have u80 := CI_b c72 (k := 309) (j := 4) bd_309_4
    have u81 := CI_b c72 (k := 309) (j := 6) bd_309_6
    have u82 := CI_b c72 (k := 309) (j := 7) bd_309_7
    have u83 := CI_b c72 (k := 329) (j := 0) bd_329_0
    have u84 := CI_b c72 (k := 329) (j := 1) bd_329_1
    have u85 := CI_b c72 (k := 329) (j := 2) bd_329_2
    have t86 : s71 309 3 = r0 309 3 := f73 309 3 (by decide)
    have t87 : s71 329 0 = r0 329 0 := f73 329 0 (by decide)
    have t88 : s71 329 1 = r0 329 1 := f73 329 1 (by decide)
    have t89 : s71 329 2 = r0 329 2 := f73 329 2 (by decide)
    exact sj_X12_readsReading_309T_J136 hfu r0 s71 c72 f73 a2 (by omega) (by omega) (by first | exact y_PR.cg g76 (by omega)) (by omega) (by omega)
  · refine T_if1 (by decide +kernel) ?_
    refine T_leq (fun x90 e91 => ?_)
    have u92 := CI_b c35 (k := 309) (j := 4) bd_309_4
    refine T_if1 (by decide +kernel) ?_
    refine T_useN (sf_X12_wrong_309T hfu s34 c35 1 x90 (by omega) (by omega) (by omega)) (fun v98 s93 hq => ?_)
    obtain ⟨c94, f95, o99, o100, rfl⟩ := hq
    refine T_vN ?_
    have f96 := z_Fr.tr (R := R_X12_readsReading_309) f36 f95 rs_X12_wrong_309__X12_readsReading_309
    have t103 : s93 309 3 = r0 309 3 := (f95 309 3 (by decide)).trans t40
    have t104 : s93 309 4 = x90 := (f95 309 4 (by decide)).trans e91
    have t105 : s93 329 0 = r0 329 0 := (f95 329 0 (by decide)).trans t43
    have t106 : s93 329 1 = r0 329 1 := (f95 329 1 (by decide)).trans t44
    have t107 : s93 329 2 = r0 329 2 := (f95 329 2 (by decide)).trans t45
    have u108 := CI_b c94 (k := 309) (j := 6) bd_309_6
    have u109 := CI_b c94 (k := 309) (j := 7) bd_309_7
    have r110 := y_SD.fr r47 (f95 329 0 (by decide)) (f95 329 2 (by decide)) (fun b => f95 344 b (nr_X12_wrong_309__344 b)) (fun b => f95 359 b (nr_X12_wrong_309__359 b)) (fun b => f95 374 b (nr_X12_wrong_309__374 b)) (fun b => f95 389 b (nr_X12_wrong_309__389 b))
    have t111 : s93 (3020 + a1) x11 = 0 := by first | exact (f95 (3020 + a1) x11 (by unfold R_X12_wrong_309; omega)).trans t48
    have r112 : y_RL r0 s93 (3020 + a1) a2 := y_RL.w r49 (by unfold y_sml; omega) (by omega) (by omega) (by omega) (by omega) (fun b => f36 311 b (by unfold R_X12_readsReading_309; omega))
    clear t40
    clear t43
    clear t44
    clear t45
    clear t48
    refine sl_X12_readsReading_309T_L46 hfu r0 a2 (3020 + a1) (by omega) (by omega) (fun s113 c114 f115 g116 g117 g118 g119 g120 => ?_) fu s93 c94 f96 (by omega) (by omega) (by first | exact y_RL.cg r112 (by omega) (by omega)) (by omega) (by omega) (by omega) (by omega)
    have u121 := CI_b c114 (k := 309) (j := 3) bd_309_3
    have u122 := CI_b c114 (k := 309) (j := 4) bd_309_4
    have u123 := CI_b c114 (k := 309) (j := 6) bd_309_6
    have u124 := CI_b c114 (k := 309) (j := 7) bd_309_7
    have u125 := CI_b c114 (k := 329) (j := 0) bd_329_0
    have u126 := CI_b c114 (k := 329) (j := 1) bd_329_1
    have u127 := CI_b c114 (k := 329) (j := 2) bd_329_2
    have t128 : s113 309 3 = r0 309 3 := f115 309 3 (by decide)
    have t129 : s113 329 0 = r0 329 0 := f115 329 0 (by decide)
    have t130 : s113 329 1 = r0 329 1 := f115 329 1 (by decide)
    have t131 : s113 329 2 = r0 329 2 := f115 329 2 (by decide)
    exact sj_X12_readsReading_309T_J136 hfu r0 s113 c114 f115 a2 (by omega) (by omega) (by first | exact y_PR.cg g118 (by omega)) (by omega) (by omega)
abbrev P_X12_readsBase_309T (r0 : z_M) (a1 : Int) : z_V → z_M → Prop := fun v s' => z_CI s' ∧ z_Fr R_X12_readsBase_309 r0 s' ∧ (y_D s' (s' 329 0)) ∧ (s' 329 1 ≤ s' 329 0) ∧ (s' 309 4 ≤ s' 309 3) ∧ (r0 309 4 ≤ s' 309 4) ∧ (r0 329 1 ≤ s' 329 1) ∧ (y_PB r0 s' a1) ∧ (s' 309 6 ≠ 0 ∨ s' 309 7 = r0 309 7) ∧ (s' 309 6 = 0 ∨ s' 309 6 = 1 ∨ s' 309 6 = 2) ∧ (v = vN)
theorem sj_X12_readsBase_309T_J62 {fu : Nat} (hfu : 8589934592 ≤ fu) (r0 s : z_M) (c : z_CI s) (f : z_Fr R_X12_readsBase_309 r0 s) (a1 : Int) (a2 : Int) (a3 : Int) (b1 : 0 ≤ a1 ∧ a1 ≤ 200) (b2 : 0 ≤ a2 ∧ a2 ≤ 200) (b3 : 0 ≤ a3 ∧ a3 ≤ 3) (p0 : y_D s (s 329 0)) (p1 : s 329 1 ≤ s 329 0) (p2 : s 309 4 ≤ s 309 3) (p3 : r0 309 4 ≤ s 309 4) (p4 : r0 329 1 ≤ s 329 1) (p5 : s 309 6 ≠ 0 ∨ a3 ≤ 2) (p6 : a3 ≤ 3) (p7 : s 309 6 ≠ 0 ∨ s 309 4 < s 309 3) (p8 : s 329 1 = a2) (p9 : s 309 6 ≠ 0 ∨ a2 + a3 ≤ s 329 0) (p10 : y_BLp r0 s a2 a3) (p11 : s 309 6 ≠ 0 ∨ (65 ≤ y_hr s ∧ y_hr s ≤ 90)) (p12 : s 309 6 ≠ 0 ∨ s 309 7 = r0 309 7) (p13 : s 309 6 = 0 ∨ s 309 6 = 1 ∨ s 309 6 = 2) (M : Int) (pm : 5 - a3 ≤ M) {r : z_M → Int → z_O} {k : z_M → z_O} (hr : ∀ (s' : z_M) (v3 : Int), z_CI s' → z_Fr R_X12_readsBase_309 r0 s' → (0 ≤ v3 ∧ v3 ≤ 4) → (y_D s' (s' 329 0)) → (s' 329 1 ≤ s' 329 0) → (s' 309 4 ≤ s' 309 3) → (r0 309 4 ≤ s' 309 4) → (r0 329 1 ≤ s' 329 1) → (v3 ≤ 3 ∨ s' 309 6 ≠ 0) → (s' 329 1 = a2) → (s' 309 6 ≠ 0 ∨ a2 + v3 ≤ s' 329 0) → (s' 309 6 ≠ 0 ∨ 1 ≤ v3 ∨ (65 ≤ y_hr s' ∧ y_hr s' ≤ 90)) → (y_BLp r0 s' a2 v3) → (s' 309 6 ≠ 0 ∨ s' 309 7 = r0 309 7) → (s' 309 6 = 0 ∨ s' 309 6 = 1 ∨ s' 309 6 = 2) → (5 - v3 < M) → z_T (r s' v3) (P_X12_readsBase_309T r0 a1)) (hk : ∀ (s' : z_M), z_CI s' → z_Fr R_X12_readsBase_309 r0 s' → (y_D s' (s' 329 0)) → (s' 329 1 ≤ s' 329 0) → (s' 309 4 ≤ s' 309 3) → (r0 309 4 ≤ s' 309 4) → (r0 329 1 ≤ s' 329 1) → (s' 329 1 = a2) → (s' 309 6 ≠ 0 ∨ a2 + 1 ≤ s' 329 0) → (y_BMp r0 s' a2) → (s' 309 6 ≠ 0 ∨ s' 309 7 = r0 309 7) → (s' 309 6 = 0 ∨ s' 309 6 = 1 ∨ s' 309 6 = 2) → z_T (k s') (P_X12_readsBase_309T r0 a1)) : z_T (fX12_readsBase_J62 fu s 309 a1 a2 a3 r k) (P_X12_readsBase_309T r0 a1) := by
  refine T_of (fX12_readsBase_J62.eq_1 ..) ?_
  have u1 := CI_b c (k := 309) (j := 3) bd_309_3
  have u2 := CI_b c (k := 309) (j := 4) bd_309_4
  have u3 := CI_b c (k := 309) (j := 6) bd_309_6
  have u4 := CI_b c (k := 309) (j := 7) bd_309_7
  have u5 := CI_b c (k := 329) (j := 0) bd_329_0
  have u6 := CI_b c (k := 329) (j := 1) bd_329_1
  have u7 := CI_b c (k := 329) (j := 2) bd_329_2
  have t8 : s 309 3 = r0 309 3 := f 309 3 (by decide)
  refine T_if1 (by decide +kernel) ?_
  refine T_useN (sf_X12_addsSign_309T hfu s c 7 a2 (by omega) (by omega) (by first | exact y_D.cg p0 (by omega) | exact y_D.z (by omega) | exact y_D.ex p0 (by omega) (by omega)) (by omega) (by omega) (by omega) (by omega)) (fun v14 s9 hq => ?_)
  obtain ⟨c10, f11, o15, o16, o17, o18, o19, o20, o21, o22, o23, o24, rfl⟩ := hq
  refine T_vN ?_
  have f12 := z_Fr.tr (R := R_X12_readsBase_309) f f11 rs_X12_addsSign_309__X12_readsBase_309
  have t27 : s9 309 3 = s 309 3 := f11 309 3 (by decide)
  have u28 := CI_b c10 (k := 309) (j := 4) bd_309_4
  have u29 := CI_b c10 (k := 309) (j := 6) bd_309_6
  have u30 := CI_b c10 (k := 309) (j := 7) bd_309_7
  have u31 := CI_b c10 (k := 329) (j := 0) bd_329_0
  have u32 := CI_b c10 (k := 329) (j := 1) bd_329_1
  have u33 := CI_b c10 (k := 329) (j := 2) bd_329_2
  have r34 : y_BLp r0 s9 a2 (a3 + 1) := y_BLp.add p10 o22 c (fun b => f 311 b (by unfold R_X12_readsBase_309; omega)) (by omega) rfl (by omega) (by omega) (by unfold y_big; omega) (by omega) (by omega) (by omega)
  refine T_leq (fun x35 e36 => ?_)
  first | (have w37 := z_wx e36 (by omega)) | (have w37 := z_wr e36)
  exact hr s9 x35 c10 f12 (by omega) (by first | exact y_D.cg o15 (by omega) | exact y_D.z (by omega) | exact y_D.ex o15 (by omega) (by omega)) (by omega) (by omega) (by omega) (by omega) (by omega) (by omega) (by omega) (by omega) (by first | exact y_BLp.cg r34 (by omega) (by omega) | exact y_BLp.z (by omega) (by omega)) (by omega) (by omega) (by omega)
theorem sl_X12_readsBase_309T_L31 {fu : Nat} (hfu : 8589934592 ≤ fu) (r0 : z_M) (a1 : Int) (a2 : Int) (b1 : 0 ≤ a1 ∧ a1 ≤ 200) (b2 : 0 ≤ a2 ∧ a2 ≤ 200) (q0 : a1 ≤ a2) {k : z_M → z_O} (hk : ∀ (s' : z_M), z_CI s' → z_Fr R_X12_readsBase_309 r0 s' → (y_D s' (s' 329 0)) → (s' 329 1 ≤ s' 329 0) → (s' 309 4 ≤ s' 309 3) → (r0 309 4 ≤ s' 309 4) → (r0 329 1 ≤ s' 329 1) → (s' 329 1 = a2) → (s' 309 6 ≠ 0 ∨ a2 + 1 ≤ s' 329 0) → (y_BMp r0 s' a2) → (s' 309 6 ≠ 0 ∨ s' 309 7 = r0 309 7) → (s' 309 6 = 0 ∨ s' 309 6 = 1 ∨ s' 309 6 = 2) → z_T (k s') (P_X12_readsBase_309T r0 a1)) : ∀ (F : Nat) (s : z_M) (a3 : Int), z_CI s → z_Fr R_X12_readsBase_309 r0 s → (0 ≤ a3 ∧ a3 ≤ 4) → (y_D s (s 329 0)) → (s 329 1 ≤ s 329 0) → (s 309 4 ≤ s 309 3) → (r0 309 4 ≤ s 309 4) → (r0 329 1 ≤ s 329 1) → (a3 ≤ 3 ∨ s 309 6 ≠ 0) → (s 329 1 = a2) → (s 309 6 ≠ 0 ∨ a2 + a3 ≤ s 329 0) → (s 309 6 ≠ 0 ∨ 1 ≤ a3 ∨ (65 ≤ y_hr s ∧ y_hr s ≤ 90)) → (y_BLp r0 s a2 a3) → (s 309 6 ≠ 0 ∨ s 309 7 = r0 309 7) → (s 309 6 = 0 ∨ s 309 6 = 1 ∨ s 309 6 = 2) → (5 - a3 < (F : Int)) → z_T (fX12_readsBase_L31 fu 309 a1 a2 F s a3 k) (P_X12_readsBase_309T r0 a1) := by
  intro F
  induction F with
  | zero =>
    intro s a3 c f b3 i0 i1 i2 i3 i4 i5 i6 i7 i8 i9 i10 i11 hm
    have u65 := CI_b c (k := 309) (j := 3) bd_309_3
    have u66 := CI_b c (k := 309) (j := 4) bd_309_4
    have u67 := CI_b c (k := 309) (j := 6) bd_309_6
    have u68 := CI_b c (k := 309) (j := 7) bd_309_7
    have u69 := CI_b c (k := 329) (j := 0) bd_329_0
    have u70 := CI_b c (k := 329) (j := 1) bd_329_1
    have u71 := CI_b c (k := 329) (j := 2) bd_329_2
    exfalso; omega
  | succ F ih =>
    intro s a3 c f b3 i0 i1 i2 i3 i4 i5 i6 i7 i8 i9 i10 i11 hm
    refine T_of (fX12_readsBase_L31.eq_2 ..) ?_
    have u1 := CI_b c (k := 309) (j := 3) bd_309_3
    have u2 := CI_b c (k := 309) (j := 4) bd_309_4
    have u3 := CI_b c (k := 309) (j := 6) bd_309_6
    have u4 := CI_b c (k := 309) (j := 7) bd_309_7
    have u5 := CI_b c (k := 329) (j := 0) bd_329_0
    have u6 := CI_b c (k := 329) (j := 1) bd_329_1
    have u7 := CI_b c (k := 329) (j := 2) bd_329_2
    have t8 : s 309 3 = r0 309 3 := f 309 3 (by decide)
    refine T_if1 (by decide +kernel) ?_
    refine T_useI (sf_X12_fine_309 hfu s c) (fun v14 s9 hq => ?_)
    obtain ⟨c10, f11, ⟨x13, rfl, b15, b16, o17⟩⟩ := hq
    refine T_vI ?_
    have q18 := z_Fr.eq (fun a b h => h) f11
    subst q18
    refine T_ite (fun h19 => ?_) (fun h19 => ?_)
    · exact hk s c f (by first | exact y_D.cg i0 (by omega) | exact y_D.z (by omega) | exact y_D.ex i0 (by omega) (by omega)) (by omega) (by omega) (by omega) (by omega) (by omega) (by omega) (by first | exact y_BMp.f i9 (by omega) (by omega) | exact y_BMp.n i9 (by omega) (by omega) (by omega) (by omega)) (by omega) (by omega)
    · refine T_if1 (by decide +kernel) ?_
      refine T_useI (sf_X12_here_309 hfu s c) (fun v25 s20 hq => ?_)
      obtain ⟨c21, f22, ⟨x24, rfl, b26, b27, o28⟩⟩ := hq
      refine T_vI ?_
      have q29 := z_Fr.eq (fun a b h => h) f22
      subst q29
      refine T_useI (sf_X12_isBig hfu s c x24 (by omega)) (fun v35 s30 hq => ?_)
      obtain ⟨c31, f32, ⟨x34, rfl, b36, b37, o38⟩⟩ := hq
      refine T_vI ?_
      have q39 := z_Fr.eq (fun a b h => h) f32
      subst q39
      refine T_ite (fun h40 => ?_) (fun h40 => ?_)
      · exact hk s c f (by first | exact y_D.cg i0 (by omega) | exact y_D.z (by omega) | exact y_D.ex i0 (by omega) (by omega)) (by omega) (by omega) (by omega) (by omega) (by omega) (by omega) (by first | exact y_BMp.f i9 (by omega) (by omega) | exact y_BMp.n i9 (by omega) (by omega) (by omega) (by omega)) (by omega) (by omega)
      · have n41 := y_hr_lt s
        refine T_ite (fun h42 => ?_) (fun h42 => ?_)
        · exact sj_X12_readsBase_309T_J62 hfu r0 s c f a1 a2 a3 (by omega) (by omega) (by omega) (by first | exact y_D.cg i0 (by omega) | exact y_D.z (by omega) | exact y_D.ex i0 (by omega) (by omega)) (by omega) (by omega) (by omega) (by omega) (by omega) (by omega) (by omega) (by omega) (by omega) (by first | exact y_BLp.cg i9 (by omega) (by omega) | exact y_BLp.z (by omega) (by omega)) (by omega) (by omega) (by omega) (5 - a3) (by omega) (fun s' v3 c' f' w3 z0 z1 z2 z3 z4 z5 z6 z7 z8 z9 z10 z11 pg => ih s' v3 c' f' w3 z0 z1 z2 z3 z4 z5 z6 z7 z8 z9 z10 z11 (by omega)) hk
        · refine T_if1 (by decide +kernel) ?_
          refine T_leq (fun x43 e44 => ?_)
          have u45 := CI_b c (k := 309) (j := 4) bd_309_4
          refine T_if1 (by decide +kernel) ?_
          refine T_useN (sf_X12_wrong_309T hfu s c 1 x43 (by omega) (by omega) (by omega)) (fun v51 s46 hq => ?_)
          obtain ⟨c47, f48, o52, o53, rfl⟩ := hq
          refine T_vN ?_
          have f49 := z_Fr.tr (R := R_X12_readsBase_309) f f48 rs_X12_wrong_309__X12_readsBase_309
          have t56 : s46 309 3 = s 309 3 := f48 309 3 (by decide)
          have t57 : s46 309 4 = x43 := (f48 309 4 (by decide)).trans e44
          have t58 : s46 329 0 = s 329 0 := f48 329 0 (by decide)
          have t59 : s46 329 1 = s 329 1 := f48 329 1 (by decide)
          have t60 : s46 329 2 = s 329 2 := f48 329 2 (by decide)
          have u61 := CI_b c47 (k := 309) (j := 6) bd_309_6
          have u62 := CI_b c47 (k := 309) (j := 7) bd_309_7
          have r63 := y_D.fr i0 (fun b => f48 359 b (nr_X12_wrong_309__359 b)) (fun b => f48 374 b (nr_X12_wrong_309__374 b))
          have r64 : y_BLp r0 s46 a2 a3 := y_BLp.w3 i9 (by omega) (by omega) (by unfold y_big; omega) (fun b => f 311 b (by unfold R_X12_readsBase_309; omega)) (by omega) (by omega) (by omega) (by omega)
          exact sj_X12_readsBase_309T_J62 hfu r0 s46 c47 f49 a1 a2 a3 (by omega) (by omega) (by omega) (by first | exact y_D.cg r63 (by omega) | exact y_D.z (by omega) | exact y_D.ex r63 (by omega) (by omega)) (by omega) (by omega) (by omega) (by omega) (by omega) (by omega) (by omega) (by omega) (by omega) (by first | exact y_BLp.cg r64 (by omega) (by omega) | exact y_BLp.z (by omega) (by omega)) (by omega) (by omega) (by omega) (5 - a3) (by omega) (fun s' v3 c' f' w3 z0 z1 z2 z3 z4 z5 z6 z7 z8 z9 z10 z11 pg => ih s' v3 c' f' w3 z0 z1 z2 z3 z4 z5 z6 z7 z8 z9 z10 z11 (by omega)) hk
theorem sj_X12_readsBase_309T_J172 {fu : Nat} (hfu : 8589934592 ≤ fu) (r0 s : z_M) (c : z_CI s) (f : z_Fr R_X12_readsBase_309 r0 s) (a1 : Int) (p0 : y_D s (s 329 0)) (p1 : s 329 1 ≤ s 329 0) (p2 : s 309 4 ≤ s 309 3) (p3 : r0 309 4 ≤ s 309 4) (p4 : r0 329 1 ≤ s 329 1) (p5 : y_PB r0 s a1) (p6 : s 309 6 ≠ 0 ∨ s 309 7 = r0 309 7) (p7 : s 309 6 = 0 ∨ s 309 6 = 1 ∨ s 309 6 = 2) : z_T (fX12_readsBase_J172 fu s) (P_X12_readsBase_309T r0 a1) := by
  refine T_of (fX12_readsBase_J172.eq_1 ..) ?_
  have u1 := CI_b c (k := 309) (j := 3) bd_309_3
  have u2 := CI_b c (k := 309) (j := 4) bd_309_4
  have u3 := CI_b c (k := 309) (j := 6) bd_309_6
  have u4 := CI_b c (k := 309) (j := 7) bd_309_7
  have u5 := CI_b c (k := 329) (j := 0) bd_329_0
  have u6 := CI_b c (k := 329) (j := 1) bd_329_1
  have u7 := CI_b c (k := 329) (j := 2) bd_329_2
  have t8 : s 309 3 = r0 309 3 := f 309 3 (by decide)
  exact T_ret ⟨c, f, (by first | exact y_D.cg p0 (by omega) | exact y_D.z (by omega) | exact y_D.ex p0 (by omega) (by omega)), (by omega), (by omega), (by omega), (by omega), (by first | exact y_PB.cg p5 (by omega)), (by omega), (by omega), rfl⟩
set_option maxHeartbeats 4000000 in
theorem sj_X12_readsBase_309T_J100 {fu : Nat} (hfu : 8589934592 ≤ fu) (r0 s : z_M) (c : z_CI s) (f : z_Fr R_X12_readsBase_309 r0 s) (a1 : Int) (a2 : Int) (b1 : 0 ≤ a1 ∧ a1 ≤ 200) (b2 : 0 ≤ a2 ∧ a2 ≤ 200) (p0 : y_D s (s 329 0)) (p1 : s 329 1 ≤ s 329 0) (p2 : s 309 4 ≤ s 309 3) (p3 : r0 309 4 ≤ s 309 4) (p4 : r0 329 1 ≤ s 329 1) (p5 : s 329 1 = a2) (p6 : s 309 6 ≠ 0 ∨ a2 + 1 ≤ s 329 0) (p7 : a1 ≤ a2) (p8 : s 309 6 ≠ 0 ∨ s 309 4 < s 309 3) (p9 : y_BNp r0 s a2) (p10 : s 309 6 ≠ 0 ∨ y_hr s = 124) (p11 : s 309 6 ≠ 0 ∨ s 309 7 = r0 309 7) (p12 : s 309 6 = 0 ∨ s 309 6 = 1 ∨ s 309 6 = 2) : z_T (fX12_readsBase_J100 fu s 309 a1 a2) (P_X12_readsBase_309T r0 a1) := by
  refine T_of (fX12_readsBase_J100.eq_1 ..) ?_
  have u1 := CI_b c (k := 309) (j := 3) bd_309_3
  have u2 := CI_b c (k := 309) (j := 4) bd_309_4
  have u3 := CI_b c (k := 309) (j := 6) bd_309_6
  have u4 := CI_b c (k := 309) (j := 7) bd_309_7
  have u5 := CI_b c (k := 329) (j := 0) bd_329_0
  have u6 := CI_b c (k := 329) (j := 1) bd_329_1
  have u7 := CI_b c (k := 329) (j := 2) bd_329_2
  have t8 : s 309 3 = r0 309 3 := f 309 3 (by decide)
  refine T_if1 (by decide +kernel) ?_
  refine T_useI (sf_X12_fine_309 hfu s c) (fun v14 s9 hq => ?_)
  obtain ⟨c10, f11, ⟨x13, rfl, b15, b16, o17⟩⟩ := hq
  refine T_vI ?_
  have q18 := z_Fr.eq (fun a b h => h) f11
  subst q18
  refine T_ite (fun h19 => ?_) (fun h19 => ?_)
  · have hBN := p9
    have hf0 : s 309 6 = 0 := by omega
    have hk1 : ∀ b, s 311 b = r0 311 b := (fun b => f 311 b (by unfold R_X12_readsBase_309; omega))
    have hy0 : y_hr s = 124 := by omega
    refine T_if1 (by decide +kernel) ?_
    refine T_let 390 (by decide +kernel) ?_
    refine T_if1 (z_ixl (n := 14) (by decide +kernel) (by omega) (by omega)) ?_
    refine T_let 404 (by decide +kernel) ?_
    refine T_if1 (z_ixl (n := 200) (by decide +kernel) (by omega) (by omega)) ?_
    refine T_upg c (bdg (c := 404) (by omega) (by omega)) (by omega) (fun s20 c21 g23 g24 e25 => ?_)
    have f22 := z_Fr.up (R := R_X12_readsBase_309) f g23 (fun _ => (Or.inr (Or.inr (Or.inr (Or.inr (Or.inr (Or.inl (⟨by decide, by decide⟩))))))))
    have t26 : s20 309 3 = s 309 3 := g23 309 3 (by decide)
    have t27 : s20 309 4 = s 309 4 := g23 309 4 (by decide)
    have t28 : s20 309 6 = s 309 6 := g23 309 6 (by decide)
    have t29 : s20 309 7 = s 309 7 := g23 309 7 (by decide)
    have t30 : s20 329 0 = s 329 0 := g23 329 0 (by decide)
    have t31 : s20 329 1 = s 329 1 := g23 329 1 (by decide)
    have t32 : s20 329 2 = s 329 2 := g23 329 2 (by decide)
    have r33 := y_D.fr p0 (fun b => g23 359 b (by decide)) (fun b => g23 374 b (by decide))
    have hg1 := g23
    have hp1 := g24
    have he1 := e25
    refine T_if1 (by decide +kernel) ?_
    refine T_let 405 (by decide +kernel) ?_
    refine T_if1 (z_ixl (n := 14) (by decide +kernel) (by omega) (by omega)) ?_
    refine T_let 3019 (by decide +kernel) ?_
    refine T_if1 (z_ixl (n := 200) (by decide +kernel) (by omega) (by omega)) ?_
    refine T_let (3020 + a2) (gr_3019 a2) ?_
    refine T_if1 (z_ixs (sh_L13 (by omega)) (by omega) (by omega) (by omega)) ?_
    refine T_upg c21 (bds_L13_10 (by omega)) (by omega) (fun s34 c35 g37 g38 e39 => ?_)
    have f36 := z_Fr.up (R := R_X12_readsBase_309) f22 g37 (fun b => by unfold R_X12_readsBase_309; omega)
    have t40 : s34 309 3 = s 309 3 := (g37 309 3 (by omega)).trans t26
    have t41 : s34 309 4 = s 309 4 := (g37 309 4 (by omega)).trans t27
    have t42 : s34 309 6 = s 309 6 := (g37 309 6 (by omega)).trans t28
    have t43 : s34 309 7 = s 309 7 := (g37 309 7 (by omega)).trans t29
    have t44 : s34 329 0 = s 329 0 := (g37 329 0 (by omega)).trans t30
    have t45 : s34 329 1 = s 329 1 := (g37 329 1 (by omega)).trans t31
    have t46 : s34 329 2 = s 329 2 := (g37 329 2 (by omega)).trans t32
    have r47 := y_D.fr r33 (fun b => g37 359 b (by omega)) (fun b => g37 374 b (by omega))
    have hg2 := g37
    have he2 := e39
    clear t26
    clear t27
    clear t28
    clear t29
    clear t30
    clear t31
    clear t32
    refine T_if1 (by decide +kernel) ?_
    refine T_let 315 (by decide +kernel) ?_
    refine T_if1 (z_ixl (n := 14) (by decide +kernel) (by omega) (by omega)) ?_
    refine T_let 329 (by decide +kernel) ?_
    refine T_if1 (z_ixl (n := 3) (by decide +kernel) (by omega) (by omega)) ?_
    refine T_leq (fun x48 e49 => ?_)
    have u50 := CI_b c35 (k := 329) (j := 1) bd_329_1
    refine T_leq (fun x51 e52 => ?_)
    first | (have w53 := z_wx e52 (by omega)) | (have w53 := z_wr e52)
    refine T_if1 (z_ixl (n := 3) (by decide +kernel) (by omega) (by omega)) ?_
    refine T_upg c35 bd_329_1 (by omega) (fun s54 c55 g57 g58 e59 => ?_)
    have f56 := z_Fr.up (R := R_X12_readsBase_309) f36 g57 (fun _ => (Or.inl (⟨by decide, by decide⟩)))
    have t60 : s54 309 3 = s 309 3 := (g57 309 3 (by decide)).trans t40
    have t61 : s54 309 4 = s 309 4 := (g57 309 4 (by decide)).trans t41
    have t62 : s54 309 6 = s 309 6 := (g57 309 6 (by decide)).trans t42
    have t63 : s54 309 7 = s 309 7 := (g57 309 7 (by decide)).trans t43
    have t64 : s54 329 0 = s 329 0 := (g58 0 (by decide)).trans t44
    have t65 : s54 329 2 = s 329 2 := (g58 2 (by decide)).trans t46
    have u66 := CI_b c55 (k := 329) (j := 1) bd_329_1
    have r67 := y_D.fr r47 (fun b => g57 359 b (by decide)) (fun b => g57 374 b (by decide))
    have hSD : y_SD _ s54 := ⟨by omega, by omega, fun b => (((g57 344 b (by omega))).trans (hg2 344 b (by omega))).trans (hg1 344 b (by omega)), fun b => (((g57 359 b (by omega))).trans (hg2 359 b (by omega))).trans (hg1 359 b (by omega)), fun b => (((g57 374 b (by omega))).trans (hg2 374 b (by omega))).trans (hg1 374 b (by omega)), fun b => (((g57 389 b (by omega))).trans (hg2 389 b (by omega))).trans (hg1 389 b (by omega))⟩
    have hk4 : ∀ b, s54 311 b = r0 311 b := fun b => ((g57 311 b (by omega)).trans ((hg2 311 b (by omega)).trans (hg1 311 b (by omega)))).trans (hk1 b)
    have hGJ := y_GJ.mk hg1 hp1 he1 hg2 he2 g57 (by omega)
    have hy4 := y_hr_cg (fun b => (hk4 b).trans (hk1 b).symm) (show s54 309 4 = _ by omega) (show s54 309 3 = _ by omega)
    clear t40
    clear t41
    clear t42
    clear t43
    clear t44
    clear t46
    refine T_if1 (by decide +kernel) ?_
    refine T_useN (sf_X12_readsReading_309T hfu s54 c55 a2 0 (by omega) (by omega) (by omega) (by omega) (by omega) (by omega)) (fun v73 s68 hq => ?_)
    obtain ⟨c69, f70, o74, o75, o76, o77, o78, rfl⟩ := hq
    refine T_vN ?_
    have f71 := z_Fr.tr (R := R_X12_readsBase_309) f56 f70 rs_X12_readsReading_309__X12_readsBase_309
    have t81 : s68 309 3 = s 309 3 := (f70 309 3 (by decide)).trans t60
    have t82 : s68 329 0 = s 329 0 := (f70 329 0 (by decide)).trans t64
    have t83 : s68 329 1 = s54 329 1 := f70 329 1 (by decide)
    have t84 : s68 329 2 = s 329 2 := (f70 329 2 (by decide)).trans t65
    have u85 := CI_b c69 (k := 309) (j := 4) bd_309_4
    have u86 := CI_b c69 (k := 309) (j := 6) bd_309_6
    have u87 := CI_b c69 (k := 309) (j := 7) bd_309_7
    have r88 := y_D.fr r67 (fun b => f70 359 b (nr_X12_readsReading_309__359 b)) (fun b => f70 374 b (nr_X12_readsReading_309__374 b))
    have r89 : y_Q1 r0 s68 a1 := y_Q1.mk hBN hf0 o76 hSD (by omega) (by omega) (by omega) hk4 hGJ
    clear t60
    clear t64
    clear t65
    refine T_if1 (by decide +kernel) ?_
    refine T_useI (sf_X12_fine_309 hfu s68 c69) (fun v95 s90 hq => ?_)
    obtain ⟨c91, f92, ⟨x94, rfl, b96, b97, o98⟩⟩ := hq
    refine T_vI ?_
    have q99 := z_Fr.eq (fun a b h => h) f92
    subst q99
    refine T_ite (fun h100 => ?_) (fun h100 => ?_)
    · exact sj_X12_readsBase_309T_J172 hfu r0 s68 c69 f71 a1 (by first | exact y_D.cg r88 (by omega) | exact y_D.z (by omega) | exact y_D.ex r88 (by omega) (by omega)) (by omega) (by omega) (by omega) (by omega) (by first | exact y_PB.f1 r89 (by omega) (by omega) | exact y_PB.n1 r89 (by omega) (by omega) (by omega)) (by omega) (by omega)
    · refine T_if1 (by decide +kernel) ?_
      refine T_useI (sf_X12_here_309 hfu s68 c69) (fun v106 s101 hq => ?_)
      obtain ⟨c102, f103, ⟨x105, rfl, b107, b108, o109⟩⟩ := hq
      refine T_vI ?_
      have q110 := z_Fr.eq (fun a b h => h) f103
      subst q110
      have n111 := y_hr_lt s68
      refine T_ite (fun h112 => ?_) (fun h112 => ?_)
      · exact sj_X12_readsBase_309T_J172 hfu r0 s68 c69 f71 a1 (by first | exact y_D.cg r88 (by omega) | exact y_D.z (by omega) | exact y_D.ex r88 (by omega) (by omega)) (by omega) (by omega) (by omega) (by omega) (by first | exact y_PB.f1 r89 (by omega) (by omega) | exact y_PB.n1 r89 (by omega) (by omega) (by omega)) (by omega) (by omega)
      · refine T_if1 (by decide +kernel) ?_
        refine T_useN (sf_X12_readsReading_309T hfu s68 c69 a2 1 (by omega) (by omega) (by omega) (by omega) (by omega) (by omega)) (fun v118 s113 hq => ?_)
        obtain ⟨c114, f115, o119, o120, o121, o122, o123, rfl⟩ := hq
        refine T_vN ?_
        have f116 := z_Fr.tr (R := R_X12_readsBase_309) f71 f115 rs_X12_readsReading_309__X12_readsBase_309
        have t126 : s113 309 3 = s 309 3 := (f115 309 3 (by decide)).trans t81
        have t127 : s113 329 0 = s 329 0 := (f115 329 0 (by decide)).trans t82
        have t128 : s113 329 1 = s54 329 1 := (f115 329 1 (by decide)).trans t83
        have t129 : s113 329 2 = s 329 2 := (f115 329 2 (by decide)).trans t84
        have u130 := CI_b c114 (k := 309) (j := 4) bd_309_4
        have u131 := CI_b c114 (k := 309) (j := 6) bd_309_6
        have u132 := CI_b c114 (k := 309) (j := 7) bd_309_7
        have r133 := y_D.fr r88 (fun b => f115 359 b (nr_X12_readsReading_309__359 b)) (fun b => f115 374 b (nr_X12_readsReading_309__374 b))
        have r134 : y_PB r0 s113 a1 := y_PB.two r89 (by omega) o121 (by omega) (fun b => f71 311 b (by unfold R_X12_readsBase_309; omega))
        clear t81
        clear t82
        clear t83
        clear t84
        exact sj_X12_readsBase_309T_J172 hfu r0 s113 c114 f116 a1 (by first | exact y_D.cg r133 (by omega) | exact y_D.z (by omega) | exact y_D.ex r133 (by omega) (by omega)) (by omega) (by omega) (by omega) (by omega) (by first | exact y_PB.cg r134 (by omega)) (by omega) (by omega)
  · exact T_ret ⟨c, f, (by first | exact y_D.cg p0 (by omega) | exact y_D.z (by omega) | exact y_D.ex p0 (by omega) (by omega)), (by omega), (by omega), (by omega), (by omega), (by first | exact y_PB.f0 p9 (by omega)), (by omega), (by omega), rfl⟩
theorem sj_X12_readsBase_309T_J75 {fu : Nat} (hfu : 8589934592 ≤ fu) (r0 s : z_M) (c : z_CI s) (f : z_Fr R_X12_readsBase_309 r0 s) (a1 : Int) (a2 : Int) (b1 : 0 ≤ a1 ∧ a1 ≤ 200) (b2 : 0 ≤ a2 ∧ a2 ≤ 200) (p0 : y_D s (s 329 0)) (p1 : s 329 1 ≤ s 329 0) (p2 : s 309 4 ≤ s 309 3) (p3 : r0 309 4 ≤ s 309 4) (p4 : r0 329 1 ≤ s 329 1) (p5 : s 329 1 = a2) (p6 : s 309 6 ≠ 0 ∨ a2 + 1 ≤ s 329 0) (p7 : a1 ≤ a2) (p8 : y_BMp r0 s a2) (p9 : s 309 6 ≠ 0 ∨ s 309 7 = r0 309 7) (p10 : s 309 6 = 0 ∨ s 309 6 = 1 ∨ s 309 6 = 2) : z_T (fX12_readsBase_J75 fu s 309 a1 a2) (P_X12_readsBase_309T r0 a1) := by
  refine T_of (fX12_readsBase_J75.eq_1 ..) ?_
  have u1 := CI_b c (k := 309) (j := 3) bd_309_3
  have u2 := CI_b c (k := 309) (j := 4) bd_309_4
  have u3 := CI_b c (k := 309) (j := 6) bd_309_6
  have u4 := CI_b c (k := 309) (j := 7) bd_309_7
  have u5 := CI_b c (k := 329) (j := 0) bd_329_0
  have u6 := CI_b c (k := 329) (j := 1) bd_329_1
  have u7 := CI_b c (k := 329) (j := 2) bd_329_2
  have t8 : s 309 3 = r0 309 3 := f 309 3 (by decide)
  refine T_if1 (by decide +kernel) ?_
  refine T_useI (sf_X12_fine_309 hfu s c) (fun v14 s9 hq => ?_)
  obtain ⟨c10, f11, ⟨x13, rfl, b15, b16, o17⟩⟩ := hq
  refine T_vI ?_
  have q18 := z_Fr.eq (fun a b h => h) f11
  subst q18
  refine T_ite (fun h19 => ?_) (fun h19 => ?_)
  · exact sj_X12_readsBase_309T_J100 hfu r0 s c f a1 a2 (by omega) (by omega) (by first | exact y_D.cg p0 (by omega) | exact y_D.z (by omega) | exact y_D.ex p0 (by omega) (by omega)) (by omega) (by omega) (by omega) (by omega) (by omega) (by omega) (by omega) (by omega) (by first | exact y_BNp.m p8 (by omega)) (by omega) (by omega) (by omega)
  · refine T_if1 (by decide +kernel) ?_
    refine T_useI (sf_X12_here_309 hfu s c) (fun v25 s20 hq => ?_)
    obtain ⟨c21, f22, ⟨x24, rfl, b26, b27, o28⟩⟩ := hq
    refine T_vI ?_
    have q29 := z_Fr.eq (fun a b h => h) f22
    subst q29
    have n30 := y_hr_lt s
    refine T_ite (fun h31 => ?_) (fun h31 => ?_)
    · exact sj_X12_readsBase_309T_J100 hfu r0 s c f a1 a2 (by omega) (by omega) (by first | exact y_D.cg p0 (by omega) | exact y_D.z (by omega) | exact y_D.ex p0 (by omega) (by omega)) (by omega) (by omega) (by omega) (by omega) (by omega) (by omega) (by omega) (by omega) (by first | exact y_BNp.m p8 (by omega)) (by omega) (by omega) (by omega)
    · refine T_if1 (by decide +kernel) ?_
      refine T_leq (fun x32 e33 => ?_)
      have u34 := CI_b c (k := 309) (j := 4) bd_309_4
      refine T_if1 (by decide +kernel) ?_
      refine T_useN (sf_X12_wrong_309T hfu s c 1 x32 (by omega) (by omega) (by omega)) (fun v40 s35 hq => ?_)
      obtain ⟨c36, f37, o41, o42, rfl⟩ := hq
      refine T_vN ?_
      have f38 := z_Fr.tr (R := R_X12_readsBase_309) f f37 rs_X12_wrong_309__X12_readsBase_309
      have t45 : s35 309 3 = s 309 3 := f37 309 3 (by decide)
      have t46 : s35 309 4 = x32 := (f37 309 4 (by decide)).trans e33
      have t47 : s35 329 0 = s 329 0 := f37 329 0 (by decide)
      have t48 : s35 329 1 = s 329 1 := f37 329 1 (by decide)
      have t49 : s35 329 2 = s 329 2 := f37 329 2 (by decide)
      have u50 := CI_b c36 (k := 309) (j := 6) bd_309_6
      have u51 := CI_b c36 (k := 309) (j := 7) bd_309_7
      have r52 := y_D.fr p0 (fun b => f37 359 b (nr_X12_wrong_309__359 b)) (fun b => f37 374 b (nr_X12_wrong_309__374 b))
      have r53 : y_BNp r0 s35 a2 := y_BNp.w p8 (by omega) (by omega) (fun b => f 311 b (by unfold R_X12_readsBase_309; omega)) (by omega) (by omega) (by omega) (by omega)
      exact sj_X12_readsBase_309T_J100 hfu r0 s35 c36 f38 a1 a2 (by omega) (by omega) (by first | exact y_D.cg r52 (by omega) | exact y_D.z (by omega) | exact y_D.ex r52 (by omega) (by omega)) (by omega) (by omega) (by omega) (by omega) (by omega) (by omega) (by omega) (by omega) (by first | exact y_BNp.cg r53 (by omega)) (by omega) (by omega) (by omega)
theorem sf_X12_readsBase_309T {fu : Nat} (hfu : 8589934592 ≤ fu) (r0 : z_M) (c0 : z_CI r0) (a1 : Int) (b1 : 0 ≤ a1 ∧ a1 ≤ 200) (p0 : y_D r0 (r0 329 0)) (p1 : r0 329 1 ≤ r0 329 0) (p2 : r0 309 4 ≤ r0 309 3) (p3 : a1 ≤ r0 329 1) (p4 : r0 309 6 = 0) : z_T (fX12_readsBase fu r0 309 a1) (P_X12_readsBase_309T r0 a1) := by
  refine T_of (fX12_readsBase.eq_1 ..) ?_
  have u1 := CI_b c0 (k := 309) (j := 3) bd_309_3
  have u2 := CI_b c0 (k := 309) (j := 4) bd_309_4
  have u3 := CI_b c0 (k := 309) (j := 6) bd_309_6
  have u4 := CI_b c0 (k := 309) (j := 7) bd_309_7
  have u5 := CI_b c0 (k := 329) (j := 0) bd_329_0
  have u6 := CI_b c0 (k := 329) (j := 1) bd_329_1
  have u7 := CI_b c0 (k := 329) (j := 2) bd_329_2
  refine T_if1 (by decide +kernel) ?_
  refine T_let 315 (by decide +kernel) ?_
  refine T_if1 (z_ixl (n := 14) (by decide +kernel) (by omega) (by omega)) ?_
  refine T_let 329 (by decide +kernel) ?_
  refine T_if1 (z_ixl (n := 3) (by decide +kernel) (by omega) (by omega)) ?_
  refine T_leq (fun x8 e9 => ?_)
  have u10 := CI_b c0 (k := 329) (j := 1) bd_329_1
  refine T_if1 (by decide +kernel) ?_
  refine T_useI (sf_X12_here_309 hfu r0 c0) (fun v16 s11 hq => ?_)
  obtain ⟨c12, f13, ⟨x15, rfl, b17, b18, o19⟩⟩ := hq
  refine T_vI ?_
  have q20 := z_Fr.eq (fun a b h => h) f13
  subst q20
  refine T_useI (sf_X12_isBig hfu r0 c0 x15 (by omega)) (fun v26 s21 hq => ?_)
  obtain ⟨c22, f23, ⟨x25, rfl, b27, b28, o29⟩⟩ := hq
  refine T_vI ?_
  have q30 := z_Fr.eq (fun a b h => h) f23
  subst q30
  refine T_ite (fun h31 => ?_) (fun h31 => ?_)
  · refine sl_X12_readsBase_309T_L31 hfu r0 a1 x8 (by omega) (by omega) (by omega) (fun s32 c33 f34 g35 g36 g37 g38 g39 g40 g41 g42 g43 g44 => ?_) fu r0 0 c0 z_Fr.rf (by omega) (by first | exact y_D.cg p0 (by omega) | exact y_D.z (by omega) | exact y_D.ex p0 (by omega) (by omega)) (by omega) (by omega) (by omega) (by omega) (by omega) (by omega) (by omega) (by omega) (by first | exact y_BLp.z (by omega) (by omega)) (by omega) (by omega) (by omega)
    have u45 := CI_b c33 (k := 309) (j := 3) bd_309_3
    have u46 := CI_b c33 (k := 309) (j := 4) bd_309_4
    have u47 := CI_b c33 (k := 309) (j := 6) bd_309_6
    have u48 := CI_b c33 (k := 309) (j := 7) bd_309_7
    have u49 := CI_b c33 (k := 329) (j := 0) bd_329_0
    have u50 := CI_b c33 (k := 329) (j := 1) bd_329_1
    have u51 := CI_b c33 (k := 329) (j := 2) bd_329_2
    have t52 : s32 309 3 = r0 309 3 := f34 309 3 (by decide)
    exact sj_X12_readsBase_309T_J75 hfu r0 s32 c33 f34 a1 x8 (by omega) (by omega) (by first | exact y_D.cg g35 (by omega) | exact y_D.z (by omega) | exact y_D.ex g35 (by omega) (by omega)) (by omega) (by omega) (by omega) (by omega) (by omega) (by omega) (by omega) (by first | exact y_BMp.cg g42 (by omega)) (by omega) (by omega)
  · refine T_if1 (by decide +kernel) ?_
    refine T_leq (fun x53 e54 => ?_)
    have u55 := CI_b c0 (k := 309) (j := 4) bd_309_4
    refine T_if1 (by decide +kernel) ?_
    refine T_useN (sf_X12_wrong_309T hfu r0 c0 1 x53 (by omega) (by omega) (by omega)) (fun v61 s56 hq => ?_)
    obtain ⟨c57, f58, o62, o63, rfl⟩ := hq
    refine T_vN ?_
    have f59 := z_Fr.tr (R := R_X12_readsBase_309) z_Fr.rf f58 rs_X12_wrong_309__X12_readsBase_309
    have t66 : s56 309 3 = r0 309 3 := f58 309 3 (by decide)
    have t67 : s56 309 4 = x53 := (f58 309 4 (by decide)).trans e54
    have t68 : s56 329 0 = r0 329 0 := f58 329 0 (by decide)
    have t69 : s56 329 1 = r0 329 1 := f58 329 1 (by decide)
    have t70 : s56 329 2 = r0 329 2 := f58 329 2 (by decide)
    have u71 := CI_b c57 (k := 309) (j := 6) bd_309_6
    have u72 := CI_b c57 (k := 309) (j := 7) bd_309_7
    have r73 := y_D.fr p0 (fun b => f58 359 b (nr_X12_wrong_309__359 b)) (fun b => f58 374 b (nr_X12_wrong_309__374 b))
    have r74 : y_BLp r0 s56 x8 0 := y_BLp.w (by unfold y_big; omega) (by omega) (by omega) (by omega)
    refine sl_X12_readsBase_309T_L31 hfu r0 a1 x8 (by omega) (by omega) (by omega) (fun s75 c76 f77 g78 g79 g80 g81 g82 g83 g84 g85 g86 g87 => ?_) fu s56 0 c57 f59 (by omega) (by first | exact y_D.cg r73 (by omega) | exact y_D.z (by omega) | exact y_D.ex r73 (by omega) (by omega)) (by omega) (by omega) (by omega) (by omega) (by omega) (by omega) (by omega) (by omega) (by first | exact y_BLp.cg r74 (by omega) (by omega) | exact y_BLp.z (by omega) (by omega)) (by omega) (by omega) (by omega)
    have u88 := CI_b c76 (k := 309) (j := 3) bd_309_3
    have u89 := CI_b c76 (k := 309) (j := 4) bd_309_4
    have u90 := CI_b c76 (k := 309) (j := 6) bd_309_6
    have u91 := CI_b c76 (k := 309) (j := 7) bd_309_7
    have u92 := CI_b c76 (k := 329) (j := 0) bd_329_0
    have u93 := CI_b c76 (k := 329) (j := 1) bd_329_1
    have u94 := CI_b c76 (k := 329) (j := 2) bd_329_2
    have t95 : s75 309 3 = r0 309 3 := f77 309 3 (by decide)
    exact sj_X12_readsBase_309T_J75 hfu r0 s75 c76 f77 a1 x8 (by omega) (by omega) (by first | exact y_D.cg g78 (by omega) | exact y_D.z (by omega) | exact y_D.ex g78 (by omega) (by omega)) (by omega) (by omega) (by omega) (by omega) (by omega) (by omega) (by omega) (by first | exact y_BMp.cg g85 (by omega)) (by omega) (by omega)
abbrev P_X12_readsGroup_309T (r0 : z_M) : z_V → z_M → Prop := fun v s' => z_CI s' ∧ z_Fr R_X12_readsGroup_309 r0 s' ∧ (y_D s' (s' 329 0)) ∧ (s' 329 1 ≤ s' 329 0) ∧ (r0 309 4 + 1 ≤ s' 309 4) ∧ (s' 309 4 ≤ s' 309 3 + 1) ∧ (y_PO r0 s') ∧ (s' 309 6 ≠ 0 ∨ s' 309 7 = r0 309 7) ∧ (s' 309 6 ≠ 0 ∨ s' 309 4 ≤ s' 309 3) ∧ (s' 309 6 = 0 ∨ s' 309 6 = 1 ∨ s' 309 6 = 2) ∧ (v = vN)
theorem sj_X12_readsGroup_309T_J76 {fu : Nat} (hfu : 8589934592 ≤ fu) (r0 s : z_M) (c : z_CI s) (f : z_Fr R_X12_readsGroup_309 r0 s) (a1 : Int) (a2 : Int) (b1 : 0 ≤ a1 ∧ a1 ≤ 200) (b2 : 1 ≤ a2 ∧ a2 ≤ 5) (p0 : y_D s (s 329 0)) (p1 : s 329 1 ≤ s 329 0) (p2 : r0 309 4 + 1 ≤ s 309 4) (p3 : s 309 4 ≤ s 309 3) (p4 : a1 ≤ s 329 1) (p5 : s 309 6 ≠ 0 ∨ a2 ≤ 3) (p6 : a2 ≤ 4) (p7 : y_GL r0 s (a2 + 1)) (p8 : a1 = y_gd r0) (p9 : s 309 6 ≠ 0 ∨ s 309 7 = r0 309 7) (p10 : s 309 6 = 0 ∨ s 309 6 = 1 ∨ s 309 6 = 2) (M : Int) (pm : 303 - s 309 4 < M) {r : z_M → Int → z_O} {k : z_M → z_O} (hr : ∀ (s' : z_M) (v2 : Int), z_CI s' → z_Fr R_X12_readsGroup_309 r0 s' → (1 ≤ v2 ∧ v2 ≤ 5) → (y_D s' (s' 329 0)) → (s' 329 1 ≤ s' 329 0) → (r0 309 4 + 1 ≤ s' 309 4) → (s' 309 4 ≤ s' 309 3) → (a1 ≤ s' 329 1) → (v2 ≤ 4 ∨ s' 309 6 ≠ 0) → (y_GL r0 s' v2) → (a1 = y_gd r0) → (s' 309 6 ≠ 0 ∨ s' 309 7 = r0 309 7) → (s' 309 6 = 0 ∨ s' 309 6 = 1 ∨ s' 309 6 = 2) → (303 - s' 309 4 < M) → z_T (r s' v2) (P_X12_readsGroup_309T r0)) (hk : ∀ (s' : z_M), z_CI s' → z_Fr R_X12_readsGroup_309 r0 s' → (y_D s' (s' 329 0)) → (s' 329 1 ≤ s' 329 0) → (r0 309 4 + 1 ≤ s' 309 4) → (s' 309 4 ≤ s' 309 3) → (y_G2 r0 s') → (s' 309 6 ≠ 0 ∨ s' 309 7 = r0 309 7) → (s' 309 6 = 0 ∨ s' 309 6 = 1 ∨ s' 309 6 = 2) → z_T (k s') (P_X12_readsGroup_309T r0)) : z_T (fX12_readsGroup_J76 fu s 309 a1 a2 r k) (P_X12_readsGroup_309T r0) := by
  refine T_of (fX12_readsGroup_J76.eq_1 ..) ?_
  have u1 := CI_b c (k := 309) (j := 3) bd_309_3
  have u2 := CI_b c (k := 309) (j := 4) bd_309_4
  have u3 := CI_b c (k := 309) (j := 6) bd_309_6
  have u4 := CI_b c (k := 309) (j := 7) bd_309_7
  have u5 := CI_b c (k := 329) (j := 0) bd_329_0
  have u6 := CI_b c (k := 329) (j := 1) bd_329_1
  have u7 := CI_b c (k := 329) (j := 2) bd_329_2
  have t8 : s 309 3 = r0 309 3 := f 309 3 (by decide)
  refine T_leq (fun x9 e10 => ?_)
  first | (have w11 := z_wx e10 (by omega)) | (have w11 := z_wr e10)
  exact hr s x9 c f (by omega) (by first | exact y_D.cg p0 (by omega) | exact y_D.z (by omega) | exact y_D.ex p0 (by omega) (by omega)) (by omega) (by omega) (by omega) (by omega) (by omega) (by first | exact y_GL.cg p7 (by omega)) (by first | assumption | omega | exact y_gd_1 (by assumption) (by omega) (by assumption) (by omega) (by omega) | exact y_gd_0 (by omega) (by omega)) (by omega) (by omega) (by omega)
theorem sj_X12_readsGroup_309T_J64 {fu : Nat} (hfu : 8589934592 ≤ fu) (r0 s : z_M) (c : z_CI s) (f : z_Fr R_X12_readsGroup_309 r0 s) (a1 : Int) (a2 : Int) (b1 : 0 ≤ a1 ∧ a1 ≤ 200) (b2 : 1 ≤ a2 ∧ a2 ≤ 5) (p0 : y_D s (s 329 0)) (p1 : s 329 1 ≤ s 329 0) (p2 : r0 309 4 + 1 ≤ s 309 4) (p3 : s 309 4 ≤ s 309 3) (p4 : a1 ≤ s 329 1) (p5 : s 309 6 ≠ 0 ∨ a2 ≤ 3) (p6 : a2 ≤ 4) (p7 : y_GD r0 s a2) (p8 : a1 = y_gd r0) (p9 : s 309 6 ≠ 0 ∨ s 309 7 = r0 309 7) (p10 : s 309 6 = 0 ∨ s 309 6 = 1 ∨ s 309 6 = 2) (M : Int) (pm : 303 - s 309 4 < M) {r : z_M → Int → z_O} {k : z_M → z_O} (hr : ∀ (s' : z_M) (v2 : Int), z_CI s' → z_Fr R_X12_readsGroup_309 r0 s' → (1 ≤ v2 ∧ v2 ≤ 5) → (y_D s' (s' 329 0)) → (s' 329 1 ≤ s' 329 0) → (r0 309 4 + 1 ≤ s' 309 4) → (s' 309 4 ≤ s' 309 3) → (a1 ≤ s' 329 1) → (v2 ≤ 4 ∨ s' 309 6 ≠ 0) → (y_GL r0 s' v2) → (a1 = y_gd r0) → (s' 309 6 ≠ 0 ∨ s' 309 7 = r0 309 7) → (s' 309 6 = 0 ∨ s' 309 6 = 1 ∨ s' 309 6 = 2) → (303 - s' 309 4 < M) → z_T (r s' v2) (P_X12_readsGroup_309T r0)) (hk : ∀ (s' : z_M), z_CI s' → z_Fr R_X12_readsGroup_309 r0 s' → (y_D s' (s' 329 0)) → (s' 329 1 ≤ s' 329 0) → (r0 309 4 + 1 ≤ s' 309 4) → (s' 309 4 ≤ s' 309 3) → (y_G2 r0 s') → (s' 309 6 ≠ 0 ∨ s' 309 7 = r0 309 7) → (s' 309 6 = 0 ∨ s' 309 6 = 1 ∨ s' 309 6 = 2) → z_T (k s') (P_X12_readsGroup_309T r0)) : z_T (fX12_readsGroup_J64 fu s 309 a1 a2 r k) (P_X12_readsGroup_309T r0) := by
  refine T_of (fX12_readsGroup_J64.eq_1 ..) ?_
  have u1 := CI_b c (k := 309) (j := 3) bd_309_3
  have u2 := CI_b c (k := 309) (j := 4) bd_309_4
  have u3 := CI_b c (k := 309) (j := 6) bd_309_6
  have u4 := CI_b c (k := 309) (j := 7) bd_309_7
  have u5 := CI_b c (k := 329) (j := 0) bd_329_0
  have u6 := CI_b c (k := 329) (j := 1) bd_329_1
  have u7 := CI_b c (k := 329) (j := 2) bd_329_2
  have t8 : s 309 3 = r0 309 3 := f 309 3 (by decide)
  refine T_if1 (by decide +kernel) ?_
  refine T_useI (sf_X12_fine_309 hfu s c) (fun v14 s9 hq => ?_)
  obtain ⟨c10, f11, ⟨x13, rfl, b15, b16, o17⟩⟩ := hq
  refine T_vI ?_
  have q18 := z_Fr.eq (fun a b h => h) f11
  subst q18
  refine T_ite (fun h19 => ?_) (fun h19 => ?_)
  · exact sj_X12_readsGroup_309T_J76 hfu r0 s c f a1 a2 (by omega) (by omega) (by first | exact y_D.cg p0 (by omega) | exact y_D.z (by omega) | exact y_D.ex p0 (by omega) (by omega)) (by omega) (by omega) (by omega) (by omega) (by omega) (by omega) (by first | exact y_GL.f p7 (by omega)) (by omega) (by omega) (by omega) M (by omega) (fun s' v2 c' f' w2 z0 z1 z2 z3 z4 z5 z6 z7 z8 z9 pg => hr s' v2 c' f' w2 z0 z1 z2 z3 z4 z5 z6 z7 z8 z9 (by omega)) hk
  · refine T_if1 (by decide +kernel) ?_
    refine T_useN (sf_X12_readsBase_309T hfu s c a1 (by omega) (by first | exact y_D.cg p0 (by omega) | exact y_D.z (by omega) | exact y_D.ex p0 (by omega) (by omega)) (by omega) (by omega) (by omega) (by omega)) (fun v25 s20 hq => ?_)
    obtain ⟨c21, f22, o26, o27, o28, o29, o30, o31, o32, o33, rfl⟩ := hq
    refine T_vN ?_
    have f23 := z_Fr.tr (R := R_X12_readsGroup_309) f f22 rs_X12_readsBase_309__X12_readsGroup_309
    have t36 : s20 309 3 = s 309 3 := f22 309 3 (by decide)
    have u37 := CI_b c21 (k := 309) (j := 4) bd_309_4
    have u38 := CI_b c21 (k := 309) (j := 6) bd_309_6
    have u39 := CI_b c21 (k := 309) (j := 7) bd_309_7
    have u40 := CI_b c21 (k := 329) (j := 0) bd_329_0
    have u41 := CI_b c21 (k := 329) (j := 1) bd_329_1
    have u42 := CI_b c21 (k := 329) (j := 2) bd_329_2
    have r43 : y_GL r0 s20 (a2 + 1) := y_GL.d p7 (by omega) o31 (by omega) (by omega) (by omega) (fun b => f 311 b (by unfold R_X12_readsGroup_309; omega)) rfl
    exact sj_X12_readsGroup_309T_J76 hfu r0 s20 c21 f23 a1 a2 (by omega) (by omega) (by first | exact y_D.cg o26 (by omega) | exact y_D.z (by omega) | exact y_D.ex o26 (by omega) (by omega)) (by omega) (by omega) (by omega) (by omega) (by omega) (by omega) (by first | exact y_GL.cg r43 (by omega)) (by omega) (by omega) (by omega) M (by omega) (fun s' v2 c' f' w2 z0 z1 z2 z3 z4 z5 z6 z7 z8 z9 pg => hr s' v2 c' f' w2 z0 z1 z2 z3 z4 z5 z6 z7 z8 z9 (by omega)) hk
theorem sl_X12_readsGroup_309T_L24 {fu : Nat} (hfu : 8589934592 ≤ fu) (r0 : z_M) (a1 : Int) (b1 : 0 ≤ a1 ∧ a1 ≤ 200) {k : z_M → z_O} (hk : ∀ (s' : z_M), z_CI s' → z_Fr R_X12_readsGroup_309 r0 s' → (y_D s' (s' 329 0)) → (s' 329 1 ≤ s' 329 0) → (r0 309 4 + 1 ≤ s' 309 4) → (s' 309 4 ≤ s' 309 3) → (y_G2 r0 s') → (s' 309 6 ≠ 0 ∨ s' 309 7 = r0 309 7) → (s' 309 6 = 0 ∨ s' 309 6 = 1 ∨ s' 309 6 = 2) → z_T (k s') (P_X12_readsGroup_309T r0)) : ∀ (F : Nat) (s : z_M) (a2 : Int), z_CI s → z_Fr R_X12_readsGroup_309 r0 s → (1 ≤ a2 ∧ a2 ≤ 5) → (y_D s (s 329 0)) → (s 329 1 ≤ s 329 0) → (r0 309 4 + 1 ≤ s 309 4) → (s 309 4 ≤ s 309 3) → (a1 ≤ s 329 1) → (a2 ≤ 4 ∨ s 309 6 ≠ 0) → (y_GL r0 s a2) → (a1 = y_gd r0) → (s 309 6 ≠ 0 ∨ s 309 7 = r0 309 7) → (s 309 6 = 0 ∨ s 309 6 = 1 ∨ s 309 6 = 2) → (303 - s 309 4 < (F : Int)) → z_T (fX12_readsGroup_L24 fu 309 a1 F s a2 k) (P_X12_readsGroup_309T r0) := by
  intro F
  induction F with
  | zero =>
    intro s a2 c f b2 i0 i1 i2 i3 i4 i5 i6 i7 i8 i9 hm
    have u76 := CI_b c (k := 309) (j := 3) bd_309_3
    have u77 := CI_b c (k := 309) (j := 4) bd_309_4
    have u78 := CI_b c (k := 309) (j := 6) bd_309_6
    have u79 := CI_b c (k := 309) (j := 7) bd_309_7
    have u80 := CI_b c (k := 329) (j := 0) bd_329_0
    have u81 := CI_b c (k := 329) (j := 1) bd_329_1
    have u82 := CI_b c (k := 329) (j := 2) bd_329_2
    exfalso; omega
  | succ F ih =>
    intro s a2 c f b2 i0 i1 i2 i3 i4 i5 i6 i7 i8 i9 hm
    refine T_of (fX12_readsGroup_L24.eq_2 ..) ?_
    have u1 := CI_b c (k := 309) (j := 3) bd_309_3
    have u2 := CI_b c (k := 309) (j := 4) bd_309_4
    have u3 := CI_b c (k := 309) (j := 6) bd_309_6
    have u4 := CI_b c (k := 309) (j := 7) bd_309_7
    have u5 := CI_b c (k := 329) (j := 0) bd_329_0
    have u6 := CI_b c (k := 329) (j := 1) bd_329_1
    have u7 := CI_b c (k := 329) (j := 2) bd_329_2
    have t8 : s 309 3 = r0 309 3 := f 309 3 (by decide)
    refine T_if1 (by decide +kernel) ?_
    refine T_useI (sf_X12_fine_309 hfu s c) (fun v14 s9 hq => ?_)
    obtain ⟨c10, f11, ⟨x13, rfl, b15, b16, o17⟩⟩ := hq
    refine T_vI ?_
    have q18 := z_Fr.eq (fun a b h => h) f11
    subst q18
    refine T_ite (fun h19 => ?_) (fun h19 => ?_)
    · exact hk s c f (by first | exact y_D.cg i0 (by omega) | exact y_D.z (by omega) | exact y_D.ex i0 (by omega) (by omega)) (by omega) (by omega) (by omega) (by first | exact y_G2.mk i6 (by omega)) (by omega) (by omega)
    · refine T_if1 (by decide +kernel) ?_
      refine T_useI (sf_X12_here_309 hfu s c) (fun v25 s20 hq => ?_)
      obtain ⟨c21, f22, ⟨x24, rfl, b26, b27, o28⟩⟩ := hq
      refine T_vI ?_
      have q29 := z_Fr.eq (fun a b h => h) f22
      subst q29
      refine T_ite (fun h30 => ?_) (fun h30 => ?_)
      · exact hk s c f (by first | exact y_D.cg i0 (by omega) | exact y_D.z (by omega) | exact y_D.ex i0 (by omega) (by omega)) (by omega) (by omega) (by omega) (by first | exact y_G2.mk i6 (by omega)) (by omega) (by omega)
      · have n31 := y_hr_lt s
        refine T_if1 (by decide +kernel) ?_
        refine T_leq (fun x32 e33 => ?_)
        have u34 := CI_b c (k := 309) (j := 4) bd_309_4
        refine T_leq (fun x35 e36 => ?_)
        first | (have w37 := z_wx e36 (by omega)) | (have w37 := z_wr e36)
        refine T_if1 (by decide +kernel) ?_
        refine T_upg c bd_309_4 (by omega) (fun s38 c39 g41 g42 e43 => ?_)
        have f40 := z_Fr.upf (R := R_X12_readsGroup_309) f g41 g42 (Or.inr (Or.inr (Or.inr (Or.inr (Or.inr (Or.inr (Or.inr (⟨rfl, by decide⟩))))))))
        have t44 : s38 309 3 = s 309 3 := g42 3 (by decide)
        have t45 : s38 309 6 = s 309 6 := g42 6 (by decide)
        have t46 : s38 309 7 = s 309 7 := g42 7 (by decide)
        have t47 : s38 329 0 = s 329 0 := g41 329 0 (by decide)
        have t48 : s38 329 1 = s 329 1 := g41 329 1 (by decide)
        have t49 : s38 329 2 = s 329 2 := g41 329 2 (by decide)
        have u50 := CI_b c39 (k := 309) (j := 4) bd_309_4
        have r51 := y_D.fr i0 (fun b => g41 359 b (by decide)) (fun b => g41 374 b (by decide))
        have r52 : y_GD r0 s38 a2 := y_GD.mk i6 (by omega) (by omega) (by omega) (by omega) (fun b => f 311 b (by unfold R_X12_readsGroup_309; omega)) (by omega) ⟨by omega, by omega, fun b => g41 344 b (by decide), fun b => g41 359 b (by decide), fun b => g41 374 b (by decide), fun b => g41 389 b (by decide)⟩ ⟨fun b => g41 404 b (by decide), fun c b p q => g41 c b (by omega)⟩ (by omega) (by omega)
        refine T_ite (fun h53 => ?_) (fun h53 => ?_)
        · exact sj_X12_readsGroup_309T_J64 hfu r0 s38 c39 f40 a1 a2 (by omega) (by omega) (by first | exact y_D.cg r51 (by omega) | exact y_D.z (by omega) | exact y_D.ex r51 (by omega) (by omega)) (by omega) (by omega) (by omega) (by omega) (by omega) (by omega) (by first | exact y_GD.cg r52 (by omega)) (by omega) (by omega) (by omega) (303 - s 309 4) (by omega) (fun s' v2 c' f' w2 z0 z1 z2 z3 z4 z5 z6 z7 z8 z9 pg => ih s' v2 c' f' w2 z0 z1 z2 z3 z4 z5 z6 z7 z8 z9 (by omega)) hk
        · refine T_if1 (by decide +kernel) ?_
          refine T_leq (fun x54 e55 => ?_)
          have u56 := CI_b c39 (k := 309) (j := 4) bd_309_4
          refine T_if1 (by decide +kernel) ?_
          refine T_useN (sf_X12_wrong_309T hfu s38 c39 1 x54 (by omega) (by omega) (by omega)) (fun v62 s57 hq => ?_)
          obtain ⟨c58, f59, o63, o64, rfl⟩ := hq
          refine T_vN ?_
          have f60 := z_Fr.tr (R := R_X12_readsGroup_309) f40 f59 rs_X12_wrong_309__X12_readsGroup_309
          have t67 : s57 309 3 = s 309 3 := (f59 309 3 (by decide)).trans t44
          have t68 : s57 309 4 = x54 := (f59 309 4 (by decide)).trans e55
          have t69 : s57 329 0 = s 329 0 := (f59 329 0 (by decide)).trans t47
          have t70 : s57 329 1 = s 329 1 := (f59 329 1 (by decide)).trans t48
          have t71 : s57 329 2 = s 329 2 := (f59 329 2 (by decide)).trans t49
          have u72 := CI_b c58 (k := 309) (j := 6) bd_309_6
          have u73 := CI_b c58 (k := 309) (j := 7) bd_309_7
          have r74 := y_D.fr r51 (fun b => f59 359 b (nr_X12_wrong_309__359 b)) (fun b => f59 374 b (nr_X12_wrong_309__374 b))
          have r75 : y_GD r0 s57 a2 := y_GD.w4 r52 (by omega) (by omega) (fun b => f40 311 b (by unfold R_X12_readsGroup_309; omega)) (by omega) (by omega) (by omega) (by omega)
          clear t44
          clear t47
          clear t48
          clear t49
          exact sj_X12_readsGroup_309T_J64 hfu r0 s57 c58 f60 a1 a2 (by omega) (by omega) (by first | exact y_D.cg r74 (by omega) | exact y_D.z (by omega) | exact y_D.ex r74 (by omega) (by omega)) (by omega) (by omega) (by omega) (by omega) (by omega) (by omega) (by first | exact y_GD.cg r75 (by omega)) (by omega) (by omega) (by omega) (303 - s 309 4) (by omega) (fun s' v2 c' f' w2 z0 z1 z2 z3 z4 z5 z6 z7 z8 z9 pg => ih s' v2 c' f' w2 z0 z1 z2 z3 z4 z5 z6 z7 z8 z9 (by omega)) hk
theorem sj_X12_readsGroup_309T_J107 {fu : Nat} (hfu : 8589934592 ≤ fu) (r0 s : z_M) (c : z_CI s) (f : z_Fr R_X12_readsGroup_309 r0 s) (p0 : y_D s (s 329 0)) (p1 : s 329 1 ≤ s 329 0) (p2 : r0 309 4 + 1 ≤ s 309 4) (p3 : s 309 4 ≤ s 309 3) (p4 : y_GE r0 s) (p5 : s 309 6 ≠ 0 ∨ s 309 4 < s 309 3) (p6 : s 309 6 ≠ 0 ∨ s 309 7 = r0 309 7) (p7 : s 309 6 = 0 ∨ s 309 6 = 1 ∨ s 309 6 = 2) : z_T (fX12_readsGroup_J107 fu s 309) (P_X12_readsGroup_309T r0) := by
  refine T_of (fX12_readsGroup_J107.eq_1 ..) ?_
  have u1 := CI_b c (k := 309) (j := 3) bd_309_3
  have u2 := CI_b c (k := 309) (j := 4) bd_309_4
  have u3 := CI_b c (k := 309) (j := 6) bd_309_6
  have u4 := CI_b c (k := 309) (j := 7) bd_309_7
  have u5 := CI_b c (k := 329) (j := 0) bd_329_0
  have u6 := CI_b c (k := 329) (j := 1) bd_329_1
  have u7 := CI_b c (k := 329) (j := 2) bd_329_2
  have t8 : s 309 3 = r0 309 3 := f 309 3 (by decide)
  refine T_if1 (by decide +kernel) ?_
  refine T_leq (fun x9 e10 => ?_)
  have u11 := CI_b c (k := 309) (j := 4) bd_309_4
  refine T_leq (fun x12 e13 => ?_)
  first | (have w14 := z_wx e13 (by omega)) | (have w14 := z_wr e13)
  refine T_if1 (by decide +kernel) ?_
  refine T_upg c bd_309_4 (by omega) (fun s15 c16 g18 g19 e20 => ?_)
  have f17 := z_Fr.upf (R := R_X12_readsGroup_309) f g18 g19 (Or.inr (Or.inr (Or.inr (Or.inr (Or.inr (Or.inr (Or.inr (⟨rfl, by decide⟩))))))))
  have t21 : s15 309 3 = s 309 3 := g19 3 (by decide)
  have t22 : s15 309 6 = s 309 6 := g19 6 (by decide)
  have t23 : s15 309 7 = s 309 7 := g19 7 (by decide)
  have t24 : s15 329 0 = s 329 0 := g18 329 0 (by decide)
  have t25 : s15 329 1 = s 329 1 := g18 329 1 (by decide)
  have t26 : s15 329 2 = s 329 2 := g18 329 2 (by decide)
  have u27 := CI_b c16 (k := 309) (j := 4) bd_309_4
  have r28 := y_D.fr p0 (fun b => g18 359 b (by decide)) (fun b => g18 374 b (by decide))
  have r29 : y_PO r0 s15 := y_PO.e p4 (by omega) (by omega) (fun b => f 311 b (by unfold R_X12_readsGroup_309; omega)) (by omega) ⟨by omega, by omega, fun b => g18 344 b (by decide), fun b => g18 359 b (by decide), fun b => g18 374 b (by decide), fun b => g18 389 b (by decide)⟩ ⟨fun b => g18 404 b (by decide), fun c b p q => g18 c b (by omega)⟩ (by omega) (by omega)
  exact T_ret ⟨c16, f17, (by first | exact y_D.cg r28 (by omega) | exact y_D.z (by omega) | exact y_D.ex r28 (by omega) (by omega)), (by omega), (by omega), (by omega), r29, (by omega), (by omega), (by omega), rfl⟩
theorem sj_X12_readsGroup_309T_J82 {fu : Nat} (hfu : 8589934592 ≤ fu) (r0 s : z_M) (c : z_CI s) (f : z_Fr R_X12_readsGroup_309 r0 s) (p0 : y_D s (s 329 0)) (p1 : s 329 1 ≤ s 329 0) (p2 : r0 309 4 + 1 ≤ s 309 4) (p3 : s 309 4 ≤ s 309 3) (p4 : y_G2 r0 s) (p5 : s 309 6 ≠ 0 ∨ s 309 7 = r0 309 7) (p6 : s 309 6 = 0 ∨ s 309 6 = 1 ∨ s 309 6 = 2) : z_T (fX12_readsGroup_J82 fu s 309) (P_X12_readsGroup_309T r0) := by
  refine T_of (fX12_readsGroup_J82.eq_1 ..) ?_
  have u1 := CI_b c (k := 309) (j := 3) bd_309_3
  have u2 := CI_b c (k := 309) (j := 4) bd_309_4
  have u3 := CI_b c (k := 309) (j := 6) bd_309_6
  have u4 := CI_b c (k := 309) (j := 7) bd_309_7
  have u5 := CI_b c (k := 329) (j := 0) bd_329_0
  have u6 := CI_b c (k := 329) (j := 1) bd_329_1
  have u7 := CI_b c (k := 329) (j := 2) bd_329_2
  have t8 : s 309 3 = r0 309 3 := f 309 3 (by decide)
  refine T_if1 (by decide +kernel) ?_
  refine T_useI (sf_X12_fine_309 hfu s c) (fun v14 s9 hq => ?_)
  obtain ⟨c10, f11, ⟨x13, rfl, b15, b16, o17⟩⟩ := hq
  refine T_vI ?_
  have q18 := z_Fr.eq (fun a b h => h) f11
  subst q18
  refine T_ite (fun h19 => ?_) (fun h19 => ?_)
  · exact sj_X12_readsGroup_309T_J107 hfu r0 s c f (by first | exact y_D.cg p0 (by omega) | exact y_D.z (by omega) | exact y_D.ex p0 (by omega) (by omega)) (by omega) (by omega) (by omega) (by first | exact y_G2.f p4 (by omega) | exact y_G2.y p4 (by omega) (by omega) (by omega)) (by omega) (by omega) (by omega)
  · refine T_if1 (by decide +kernel) ?_
    refine T_useI (sf_X12_here_309 hfu s c) (fun v25 s20 hq => ?_)
    obtain ⟨c21, f22, ⟨x24, rfl, b26, b27, o28⟩⟩ := hq
    refine T_vI ?_
    have q29 := z_Fr.eq (fun a b h => h) f22
    subst q29
    have n30 := y_hr_lt s
    refine T_ite (fun h31 => ?_) (fun h31 => ?_)
    · exact sj_X12_readsGroup_309T_J107 hfu r0 s c f (by first | exact y_D.cg p0 (by omega) | exact y_D.z (by omega) | exact y_D.ex p0 (by omega) (by omega)) (by omega) (by omega) (by omega) (by first | exact y_G2.f p4 (by omega) | exact y_G2.y p4 (by omega) (by omega) (by omega)) (by omega) (by omega) (by omega)
    · refine T_if1 (by decide +kernel) ?_
      refine T_leq (fun x32 e33 => ?_)
      have u34 := CI_b c (k := 309) (j := 4) bd_309_4
      refine T_if1 (by decide +kernel) ?_
      refine T_useN (sf_X12_wrong_309T hfu s c 1 x32 (by omega) (by omega) (by omega)) (fun v40 s35 hq => ?_)
      obtain ⟨c36, f37, o41, o42, rfl⟩ := hq
      refine T_vN ?_
      have f38 := z_Fr.tr (R := R_X12_readsGroup_309) f f37 rs_X12_wrong_309__X12_readsGroup_309
      have t45 : s35 309 3 = s 309 3 := f37 309 3 (by decide)
      have t46 : s35 309 4 = x32 := (f37 309 4 (by decide)).trans e33
      have t47 : s35 329 0 = s 329 0 := f37 329 0 (by decide)
      have t48 : s35 329 1 = s 329 1 := f37 329 1 (by decide)
      have t49 : s35 329 2 = s 329 2 := f37 329 2 (by decide)
      have u50 := CI_b c36 (k := 309) (j := 6) bd_309_6
      have u51 := CI_b c36 (k := 309) (j := 7) bd_309_7
      have r52 := y_D.fr p0 (fun b => f37 359 b (nr_X12_wrong_309__359 b)) (fun b => f37 374 b (nr_X12_wrong_309__374 b))
      have r53 : y_GE r0 s35 := y_G2.w p4 (by omega) (by omega) (fun b => f 311 b (by unfold R_X12_readsGroup_309; omega)) (by omega) (by omega) (by omega) (by omega)
      exact sj_X12_readsGroup_309T_J107 hfu r0 s35 c36 f38 (by first | exact y_D.cg r52 (by omega) | exact y_D.z (by omega) | exact y_D.ex r52 (by omega) (by omega)) (by omega) (by omega) (by omega) r53 (by omega) (by omega) (by omega)
set_option maxHeartbeats 4000000 in
theorem sf_X12_readsGroup_309T {fu : Nat} (hfu : 8589934592 ≤ fu) (r0 : z_M) (c0 : z_CI r0) (p0 : y_D r0 (r0 329 0)) (p1 : r0 329 1 ≤ r0 329 0) (p2 : r0 309 4 < r0 309 3) (p3 : r0 309 6 = 0) (p4 : y_hr r0 = 123) : z_T (fX12_readsGroup fu r0 309) (P_X12_readsGroup_309T r0) := by
  refine T_of (fX12_readsGroup.eq_1 ..) ?_
  have u1 := CI_b c0 (k := 309) (j := 3) bd_309_3
  have u2 := CI_b c0 (k := 309) (j := 4) bd_309_4
  have u3 := CI_b c0 (k := 309) (j := 6) bd_309_6
  have u4 := CI_b c0 (k := 309) (j := 7) bd_309_7
  have u5 := CI_b c0 (k := 329) (j := 0) bd_329_0
  have u6 := CI_b c0 (k := 329) (j := 1) bd_329_1
  have u7 := CI_b c0 (k := 329) (j := 2) bd_329_2
  have n8 := y_hr_lt r0
  have n9 := y_hr_at (s := r0) (by omega)
  refine T_if1 (by decide +kernel) ?_
  refine T_bI ?_
  refine T_of (fX12_groupsOf.eq_1 ..) ?_
  refine T_if1 (by decide +kernel) ?_
  refine T_let 315 (by decide +kernel) ?_
  refine T_if1 (z_ixl (n := 14) (by decide +kernel) (by omega) (by omega)) ?_
  refine T_let 329 (by decide +kernel) ?_
  refine T_if1 (z_ixl (n := 3) (by decide +kernel) (by omega) (by omega)) ?_
  refine T_leq (fun x10 e11 => ?_)
  have u12 := CI_b c0 (k := 329) (j := 1) bd_329_1
  refine T_ite (fun h13 => ?_) (fun h13 => ?_)
  · refine T_if1 (by decide +kernel) ?_
    refine T_let 390 (by decide +kernel) ?_
    refine T_if1 (z_ixl (n := 14) (by decide +kernel) (by omega) (by omega)) ?_
    refine T_let 404 (by decide +kernel) ?_
    refine T_if1 (by decide +kernel) ?_
    refine T_let 315 (by decide +kernel) ?_
    refine T_if1 (z_ixl (n := 14) (by decide +kernel) (by omega) (by omega)) ?_
    refine T_let 329 (by decide +kernel) ?_
    refine T_if1 (z_ixl (n := 3) (by decide +kernel) (by omega) (by omega)) ?_
    refine T_leq (fun x14 e15 => ?_)
    have q16 : x10 = x14 := e11.symm.trans e15
    subst q16
    refine T_leq (fun x17 e18 => ?_)
    first | (have w19 := z_wx e18 (by omega)) | (have w19 := z_wr e18)
    refine T_if1 (z_ixl (n := 200) (by decide +kernel) (by omega) (by omega)) ?_
    refine T_leq (fun x20 e21 => ?_)
    have u22 := CI_b c0 (k := 404) (j := x17) (bdg (c := 404) (by omega) (by omega))
    refine T_leq (fun x23 e24 => ?_)
    first | (have w25 := z_wx e24 (by omega)) | (have w25 := z_wr e24)
    refine T_of (fX12_groupsOf_J34.eq_1 ..) ?_
    refine T_rI ?_
    refine T_if1 (by decide +kernel) ?_
    refine T_leq (fun x26 e27 => ?_)
    have u28 := CI_b c0 (k := 309) (j := 4) bd_309_4
    refine T_leq (fun x29 e30 => ?_)
    first | (have w31 := z_wx e30 (by omega)) | (have w31 := z_wr e30)
    refine T_if1 (by decide +kernel) ?_
    refine T_upg c0 bd_309_4 (by omega) (fun s32 c33 g35 g36 e37 => ?_)
    have f34 := z_Fr.upf (R := R_X12_readsGroup_309) z_Fr.rf g35 g36 (Or.inr (Or.inr (Or.inr (Or.inr (Or.inr (Or.inr (Or.inr (⟨rfl, by decide⟩))))))))
    have t38 : s32 309 3 = r0 309 3 := g36 3 (by decide)
    have t39 : s32 309 6 = r0 309 6 := g36 6 (by decide)
    have t40 : s32 309 7 = r0 309 7 := g36 7 (by decide)
    have t41 : s32 329 0 = r0 329 0 := g35 329 0 (by decide)
    have t42 : s32 329 1 = r0 329 1 := g35 329 1 (by decide)
    have t43 : s32 329 2 = r0 329 2 := g35 329 2 (by decide)
    have u44 := CI_b c33 (k := 309) (j := 4) bd_309_4
    have r45 := y_D.fr p0 (fun b => g35 359 b (by decide)) (fun b => g35 374 b (by decide))
    have hs1 : y_SD r0 s32 := ⟨by omega, by omega, fun b => g35 344 b (by decide), fun b => g35 359 b (by decide), fun b => g35 374 b (by decide), fun b => g35 389 b (by decide)⟩
    have hk1 : ∀ b, s32 311 b = r0 311 b := fun b => g35 311 b (by decide)
    have hgs : y_GS r0 s32 := ⟨fun b => g35 404 b (by decide), fun c b p q => g35 c b (by omega)⟩
    refine T_if1 (by decide +kernel) ?_
    refine T_useN (sf_X12_readsBase_309T hfu s32 c33 x23 (by omega) (by first | exact y_D.cg r45 (by omega) | exact y_D.z (by omega) | exact y_D.ex r45 (by omega) (by omega)) (by omega) (by omega) (by omega) (by omega)) (fun v51 s46 hq => ?_)
    obtain ⟨c47, f48, o52, o53, o54, o55, o56, o57, o58, o59, rfl⟩ := hq
    refine T_vN ?_
    have f49 := z_Fr.tr (R := R_X12_readsGroup_309) f34 f48 rs_X12_readsBase_309__X12_readsGroup_309
    have t62 : s46 309 3 = r0 309 3 := (f48 309 3 (by decide)).trans t38
    have u63 := CI_b c47 (k := 309) (j := 4) bd_309_4
    have u64 := CI_b c47 (k := 309) (j := 6) bd_309_6
    have u65 := CI_b c47 (k := 309) (j := 7) bd_309_7
    have u66 := CI_b c47 (k := 329) (j := 0) bd_329_0
    have u67 := CI_b c47 (k := 329) (j := 1) bd_329_1
    have u68 := CI_b c47 (k := 329) (j := 2) bd_329_2
    have r69 : y_GL r0 s46 1 := y_GL.b c0 o57 (by first | assumption | omega | exact y_gd_1 (by assumption) (by omega) (by assumption) (by omega) (by omega) | exact y_gd_0 (by omega) (by omega)) (by omega) hs1 hgs (by omega) (by omega) (by omega) hk1 rfl
    clear t38
    refine sl_X12_readsGroup_309T_L24 hfu r0 x23 (by omega) (fun s70 c71 f72 g73 g74 g75 g76 g77 g78 g79 => ?_) fu s46 1 c47 f49 (by omega) (by first | exact y_D.cg o52 (by omega) | exact y_D.z (by omega) | exact y_D.ex o52 (by omega) (by omega)) (by omega) (by omega) (by omega) (by omega) (by omega) (by first | exact y_GL.cg r69 (by omega)) (by first | assumption | omega | exact y_gd_1 (by assumption) (by omega) (by assumption) (by omega) (by omega) | exact y_gd_0 (by omega) (by omega)) (by omega) (by omega) (by omega)
    have u80 := CI_b c71 (k := 309) (j := 3) bd_309_3
    have u81 := CI_b c71 (k := 309) (j := 4) bd_309_4
    have u82 := CI_b c71 (k := 309) (j := 6) bd_309_6
    have u83 := CI_b c71 (k := 309) (j := 7) bd_309_7
    have u84 := CI_b c71 (k := 329) (j := 0) bd_329_0
    have u85 := CI_b c71 (k := 329) (j := 1) bd_329_1
    have u86 := CI_b c71 (k := 329) (j := 2) bd_329_2
    have t87 : s70 309 3 = r0 309 3 := f72 309 3 (by decide)
    exact sj_X12_readsGroup_309T_J82 hfu r0 s70 c71 f72 (by first | exact y_D.cg g73 (by omega) | exact y_D.z (by omega) | exact y_D.ex g73 (by omega) (by omega)) (by omega) (by omega) (by omega) g77 (by omega) (by omega)
  · refine T_of (fX12_groupsOf_J34.eq_1 ..) ?_
    refine T_rI ?_
    refine T_if1 (by decide +kernel) ?_
    refine T_leq (fun x88 e89 => ?_)
    have u90 := CI_b c0 (k := 309) (j := 4) bd_309_4
    refine T_leq (fun x91 e92 => ?_)
    first | (have w93 := z_wx e92 (by omega)) | (have w93 := z_wr e92)
    refine T_if1 (by decide +kernel) ?_
    refine T_upg c0 bd_309_4 (by omega) (fun s94 c95 g97 g98 e99 => ?_)
    have f96 := z_Fr.upf (R := R_X12_readsGroup_309) z_Fr.rf g97 g98 (Or.inr (Or.inr (Or.inr (Or.inr (Or.inr (Or.inr (Or.inr (⟨rfl, by decide⟩))))))))
    have t100 : s94 309 3 = r0 309 3 := g98 3 (by decide)
    have t101 : s94 309 6 = r0 309 6 := g98 6 (by decide)
    have t102 : s94 309 7 = r0 309 7 := g98 7 (by decide)
    have t103 : s94 329 0 = r0 329 0 := g97 329 0 (by decide)
    have t104 : s94 329 1 = r0 329 1 := g97 329 1 (by decide)
    have t105 : s94 329 2 = r0 329 2 := g97 329 2 (by decide)
    have u106 := CI_b c95 (k := 309) (j := 4) bd_309_4
    have r107 := y_D.fr p0 (fun b => g97 359 b (by decide)) (fun b => g97 374 b (by decide))
    have hs1 : y_SD r0 s94 := ⟨by omega, by omega, fun b => g97 344 b (by decide), fun b => g97 359 b (by decide), fun b => g97 374 b (by decide), fun b => g97 389 b (by decide)⟩
    have hk1 : ∀ b, s94 311 b = r0 311 b := fun b => g97 311 b (by decide)
    have hgs : y_GS r0 s94 := ⟨fun b => g97 404 b (by decide), fun c b p q => g97 c b (by omega)⟩
    refine T_if1 (by decide +kernel) ?_
    refine T_useN (sf_X12_readsBase_309T hfu s94 c95 0 (by omega) (by first | exact y_D.cg r107 (by omega) | exact y_D.z (by omega) | exact y_D.ex r107 (by omega) (by omega)) (by omega) (by omega) (by omega) (by omega)) (fun v113 s108 hq => ?_)
    obtain ⟨c109, f110, o114, o115, o116, o117, o118, o119, o120, o121, rfl⟩ := hq
    refine T_vN ?_
    have f111 := z_Fr.tr (R := R_X12_readsGroup_309) f96 f110 rs_X12_readsBase_309__X12_readsGroup_309
    have t124 : s108 309 3 = r0 309 3 := (f110 309 3 (by decide)).trans t100
    have u125 := CI_b c109 (k := 309) (j := 4) bd_309_4
    have u126 := CI_b c109 (k := 309) (j := 6) bd_309_6
    have u127 := CI_b c109 (k := 309) (j := 7) bd_309_7
    have u128 := CI_b c109 (k := 329) (j := 0) bd_329_0
    have u129 := CI_b c109 (k := 329) (j := 1) bd_329_1
    have u130 := CI_b c109 (k := 329) (j := 2) bd_329_2
    have r131 : y_GL r0 s108 1 := y_GL.b c0 o119 (by first | assumption | omega | exact y_gd_1 (by assumption) (by omega) (by assumption) (by omega) (by omega) | exact y_gd_0 (by omega) (by omega)) (by omega) hs1 hgs (by omega) (by omega) (by omega) hk1 rfl
    clear t100
    refine sl_X12_readsGroup_309T_L24 hfu r0 0 (by omega) (fun s132 c133 f134 g135 g136 g137 g138 g139 g140 g141 => ?_) fu s108 1 c109 f111 (by omega) (by first | exact y_D.cg o114 (by omega) | exact y_D.z (by omega) | exact y_D.ex o114 (by omega) (by omega)) (by omega) (by omega) (by omega) (by omega) (by omega) (by first | exact y_GL.cg r131 (by omega)) (by first | assumption | omega | exact y_gd_1 (by assumption) (by omega) (by assumption) (by omega) (by omega) | exact y_gd_0 (by omega) (by omega)) (by omega) (by omega) (by omega)
    have u142 := CI_b c133 (k := 309) (j := 3) bd_309_3
    have u143 := CI_b c133 (k := 309) (j := 4) bd_309_4
    have u144 := CI_b c133 (k := 309) (j := 6) bd_309_6
    have u145 := CI_b c133 (k := 309) (j := 7) bd_309_7
    have u146 := CI_b c133 (k := 329) (j := 0) bd_329_0
    have u147 := CI_b c133 (k := 329) (j := 1) bd_329_1
    have u148 := CI_b c133 (k := 329) (j := 2) bd_329_2
    have t149 : s132 309 3 = r0 309 3 := f134 309 3 (by decide)
    exact sj_X12_readsGroup_309T_J82 hfu r0 s132 c133 f134 (by first | exact y_D.cg g135 (by omega) | exact y_D.z (by omega) | exact y_D.ex g135 (by omega) (by omega)) (by omega) (by omega) (by omega) g139 (by omega) (by omega)
abbrev P_X12_plainKindT (r0 : z_M) (a0 : Int) : z_V → z_M → Prop := fun v s' => z_CI s' ∧ z_Fr R_X12_plainKind r0 s' ∧ (∃ x, v = vI x ∧ (-1) ≤ x ∧ x ≤ 6 ∧ (x = y_ki a0))
theorem sj_X12_plainKindT_J80 {fu : Nat} (hfu : 8589934592 ≤ fu) (r0 s : z_M) (c : z_CI s) (f : z_Fr R_X12_plainKind r0 s) (t0 : Int) (a0 : Int) (d0 : (-1) ≤ t0 ∧ t0 ≤ 6) (p0 : t0 = y_ki a0) : z_T (fX12_plainKind_J80 fu s t0) (P_X12_plainKindT r0 a0) := by
  have qf := z_Fr.eq (fun a b h => h) f
  subst qf
  refine T_of (fX12_plainKind_J80.eq_1 ..) ?_
  exact T_ret ⟨c, f, ⟨t0, rfl, by omega, by omega, (by first | assumption | (unfold y_ki y_big y_sml; repeat (first | rw [if_pos (by omega)] | rw [if_neg (by omega)])))⟩⟩
theorem sj_X12_plainKindT_J44 {fu : Nat} (hfu : 8589934592 ≤ fu) (r0 s : z_M) (c : z_CI s) (f : z_Fr R_X12_plainKind r0 s) (a0 : Int) (p0 : a0 = 46 ∨ a0 = 44) : z_T (fX12_plainKind_J44 fu s) (P_X12_plainKindT r0 a0) := by
  have qf := z_Fr.eq (fun a b h => h) f
  subst qf
  refine T_of (fX12_plainKind_J44.eq_1 ..) ?_
  exact sj_X12_plainKindT_J80 hfu r0 r0 c f 3 a0 (by omega) (by first | assumption | (unfold y_ki y_big y_sml; repeat (first | rw [if_pos (by omega)] | rw [if_neg (by omega)])))
theorem sj_X12_plainKindT_J32 {fu : Nat} (hfu : 8589934592 ≤ fu) (r0 s : z_M) (c : z_CI s) (f : z_Fr R_X12_plainKind r0 s) (a0 : Int) (b0 : -2147483648 ≤ a0 ∧ a0 ≤ 2147483647) (p0 : ¬ (65 ≤ a0 ∧ a0 ≤ 90) ∧ ¬ (97 ≤ a0 ∧ a0 ≤ 122) ∧ ¬ (48 ≤ a0 ∧ a0 ≤ 57)) : z_T (fX12_plainKind_J32 fu s a0) (P_X12_plainKindT r0 a0) := by
  have qf := z_Fr.eq (fun a b h => h) f
  subst qf
  refine T_of (fX12_plainKind_J32.eq_1 ..) ?_
  refine T_ite (fun h1 => ?_) (fun h1 => ?_)
  · exact sj_X12_plainKindT_J44 hfu r0 r0 c f a0 (by omega)
  · refine T_ite (fun h2 => ?_) (fun h2 => ?_)
    · refine T_ite (fun h3 => ?_) (fun h3 => ?_)
      · refine T_ite (fun h4 => ?_) (fun h4 => ?_)
        · refine T_ite (fun h5 => ?_) (fun h5 => ?_)
          · exact sj_X12_plainKindT_J80 hfu r0 r0 c f (-1) a0 (by omega) (by first | assumption | (unfold y_ki y_big y_sml; repeat (first | rw [if_pos (by omega)] | rw [if_neg (by omega)])))
          · exact sj_X12_plainKindT_J80 hfu r0 r0 c f 6 a0 (by omega) (by first | assumption | (unfold y_ki y_big y_sml; repeat (first | rw [if_pos (by omega)] | rw [if_neg (by omega)])))
        · exact sj_X12_plainKindT_J80 hfu r0 r0 c f 5 a0 (by omega) (by first | assumption | (unfold y_ki y_big y_sml; repeat (first | rw [if_pos (by omega)] | rw [if_neg (by omega)])))
      · exact sj_X12_plainKindT_J80 hfu r0 r0 c f 4 a0 (by omega) (by first | assumption | (unfold y_ki y_big y_sml; repeat (first | rw [if_pos (by omega)] | rw [if_neg (by omega)])))
    · exact sj_X12_plainKindT_J44 hfu r0 r0 c f a0 (by omega)
theorem sf_X12_plainKindT {fu : Nat} (hfu : 8589934592 ≤ fu) (r0 : z_M) (c0 : z_CI r0) (a0 : Int) (b0 : -2147483648 ≤ a0 ∧ a0 ≤ 2147483647) : z_T (fX12_plainKind fu r0 a0) (P_X12_plainKindT r0 a0) := by
  refine T_of (fX12_plainKind.eq_1 ..) ?_
  refine T_useI (sf_X12_isBig hfu r0 c0 a0 (by omega)) (fun v6 s1 hq => ?_)
  obtain ⟨c2, f3, ⟨x5, rfl, b7, b8, o9⟩⟩ := hq
  refine T_vI ?_
  have q10 := z_Fr.eq (fun a b h => h) f3
  subst q10
  refine T_ite (fun h11 => ?_) (fun h11 => ?_)
  · refine T_useI (sf_X12_isSmall hfu r0 c0 a0 (by omega)) (fun v17 s12 hq => ?_)
    obtain ⟨c13, f14, ⟨x16, rfl, b18, b19, o20⟩⟩ := hq
    refine T_vI ?_
    have q21 := z_Fr.eq (fun a b h => h) f14
    subst q21
    refine T_ite (fun h22 => ?_) (fun h22 => ?_)
    · refine T_ite (fun h23 => ?_) (fun h23 => ?_)
      · exact sj_X12_plainKindT_J32 hfu r0 r0 c0 z_Fr.rf a0 (by omega) (by omega)
      · refine T_ite (fun h24 => ?_) (fun h24 => ?_)
        · exact sj_X12_plainKindT_J32 hfu r0 r0 c0 z_Fr.rf a0 (by omega) (by omega)
        · exact T_ret ⟨c0, z_Fr.rf, ⟨2, rfl, by omega, by omega, (by first | assumption | (unfold y_ki y_big y_sml; repeat (first | rw [if_pos (by omega)] | rw [if_neg (by omega)])))⟩⟩
    · exact T_ret ⟨c0, z_Fr.rf, ⟨1, rfl, by omega, by omega, (by first | assumption | (unfold y_ki y_big y_sml; repeat (first | rw [if_pos (by omega)] | rw [if_neg (by omega)])))⟩⟩
  · exact T_ret ⟨c0, z_Fr.rf, ⟨0, rfl, by omega, by omega, (by first | assumption | (unfold y_ki y_big y_sml; repeat (first | rw [if_pos (by omega)] | rw [if_neg (by omega)])))⟩⟩
abbrev P_X12_readsPart_309T (r0 : z_M) : z_V → z_M → Prop := fun v s' => z_CI s' ∧ z_Fr R_X12_readsPart_309 r0 s' ∧ (y_D s' (s' 329 0)) ∧ (s' 329 1 ≤ s' 329 0) ∧ (s' 309 4 ≤ s' 309 3 + 1) ∧ (r0 309 4 ≤ s' 309 4) ∧ (s' 309 6 ≠ 0 ∨ r0 309 4 + 1 ≤ s' 309 4) ∧ (y_PO r0 s') ∧ (s' 309 6 ≠ 0 ∨ s' 309 7 = r0 309 7) ∧ (s' 309 6 ≠ 0 ∨ s' 309 4 ≤ s' 309 3) ∧ (s' 309 6 = 0 ∨ s' 309 6 = 1 ∨ s' 309 6 = 2) ∧ (v = vN)
theorem sj_X12_readsPart_309T_J94 {fu : Nat} (hfu : 8589934592 ≤ fu) (r0 s : z_M) (c : z_CI s) (f : z_Fr R_X12_readsPart_309 r0 s) (p0 : y_D s (s 329 0)) (p1 : s 329 1 ≤ s 329 0) (p2 : s 309 4 ≤ s 309 3 + 1) (p3 : r0 309 4 ≤ s 309 4) (p4 : s 309 6 ≠ 0 ∨ r0 309 4 + 1 ≤ s 309 4) (p5 : y_PO r0 s) (p6 : s 309 6 ≠ 0 ∨ s 309 7 = r0 309 7) (p7 : s 309 6 ≠ 0 ∨ s 309 4 ≤ s 309 3) (p8 : s 309 6 = 0 ∨ s 309 6 = 1 ∨ s 309 6 = 2) : z_T (fX12_readsPart_J94 fu s) (P_X12_readsPart_309T r0) := by
  refine T_of (fX12_readsPart_J94.eq_1 ..) ?_
  have u1 := CI_b c (k := 309) (j := 3) bd_309_3
  have u2 := CI_b c (k := 309) (j := 4) bd_309_4
  have u3 := CI_b c (k := 309) (j := 6) bd_309_6
  have u4 := CI_b c (k := 309) (j := 7) bd_309_7
  have u5 := CI_b c (k := 329) (j := 0) bd_329_0
  have u6 := CI_b c (k := 329) (j := 1) bd_329_1
  have u7 := CI_b c (k := 329) (j := 2) bd_329_2
  have t8 : s 309 3 = r0 309 3 := f 309 3 (by decide)
  exact T_ret ⟨c, f, (by first | exact y_D.cg p0 (by omega) | exact y_D.z (by omega) | exact y_D.ex p0 (by omega) (by omega)), (by omega), (by omega), (by omega), (by omega), p5, (by omega), (by omega), (by omega), rfl⟩
theorem sj_X12_readsPart_309T_J57 {fu : Nat} (hfu : 8589934592 ≤ fu) (r0 s : z_M) (c : z_CI s) (f : z_Fr R_X12_readsPart_309 r0 s) (t1 : Int) (t2 : Int) (t3 : Int) (d1 : 2 ≤ t1 ∧ t1 ≤ 2) (d2 : -2147483648 ≤ t2 ∧ t2 ≤ 2147483647) (d3 : 1 ≤ t3 ∧ t3 ≤ 2) (p0 : y_D s (s 329 0)) (p1 : s 329 1 ≤ s 329 0) (p2 : s 309 4 < s 309 3) (p3 : s 309 4 = r0 309 4) (p4 : s 309 6 = 0) (p5 : s 309 6 = r0 309 6) (p6 : s 329 0 = r0 329 0) (p7 : s 329 1 = r0 329 1) (p8 : s 329 2 = r0 329 2) (p9 : y_SD r0 s) (p10 : y_GS r0 s) (p11 : (y_hr r0 = 42 ∧ t3 = 1) ∨ (y_hr r0 = 95 ∧ t3 = 2)) (p12 : t2 = r0 329 2) (p13 : s 309 7 = r0 309 7) (p14 : s 309 6 ≠ 0 ∨ s 309 7 = r0 309 7) (p15 : s 309 6 ≠ 0 ∨ s 309 4 ≤ s 309 3) (p16 : s 309 6 = 0 ∨ s 309 6 = 1 ∨ s 309 6 = 2) : z_T (fX12_readsPart_J57 fu s 309 329 t1 t2 t3) (P_X12_readsPart_309T r0) := by
  refine T_of (fX12_readsPart_J57.eq_1 ..) ?_
  have u1 := CI_b c (k := 309) (j := 3) bd_309_3
  have u2 := CI_b c (k := 309) (j := 4) bd_309_4
  have u3 := CI_b c (k := 309) (j := 6) bd_309_6
  have u4 := CI_b c (k := 309) (j := 7) bd_309_7
  have u5 := CI_b c (k := 329) (j := 0) bd_329_0
  have u6 := CI_b c (k := 329) (j := 1) bd_329_1
  have u7 := CI_b c (k := 329) (j := 2) bd_329_2
  have t8 : s 309 3 = r0 309 3 := f 309 3 (by decide)
  refine T_leq (fun x9 e10 => ?_)
  have w11 : -2147483648 ≤ x9 ∧ x9 ≤ 2147483647 := by rw [← e10]; exact z_i32b _
  refine T_if1 (z_ixl (n := 3) (by decide +kernel) (by omega) (by omega)) ?_
  refine T_upg c (bd329 (by omega)) (by omega) (fun s12 c13 g15 g16 e17 => ?_)
  have f14 := z_Fr.up (R := R_X12_readsPart_309) f g15 (fun _ => (Or.inl (⟨by decide, by decide⟩)))
  have t18 : s12 309 3 = s 309 3 := g15 309 3 (by decide)
  have t19 : s12 309 4 = s 309 4 := g15 309 4 (by decide)
  have t20 : s12 309 6 = s 309 6 := g15 309 6 (by decide)
  have t21 : s12 309 7 = s 309 7 := g15 309 7 (by decide)
  have t22 : s12 329 0 = s 329 0 := g16 0 (by omega)
  have t23 : s12 329 1 = s 329 1 := g16 1 (by omega)
  have u24 := CI_b c13 (k := 329) (j := 2) bd_329_2
  have r25 := y_D.fr p0 (fun b => g15 359 b (by decide)) (fun b => g15 374 b (by decide))
  have r26 := y_GS.fr p10 (fun b => g15 404 b (by decide)) (fun a b h => g15 a b (by omega))
  have hSD := p9
  have hz2 := z_pt g16 e17 2
  have hx2 : x9 = z_xor (r0 329 2) t3 := by rw [← (by omega : t2 = r0 329 2)]; exact (e10).symm
  have hgr := g15
  refine T_if1 (by decide +kernel) ?_
  refine T_leq (fun x27 e28 => ?_)
  have u29 := CI_b c13 (k := 309) (j := 4) bd_309_4
  refine T_leq (fun x30 e31 => ?_)
  first | (have w32 := z_wx e31 (by omega)) | (have w32 := z_wr e31)
  refine T_if1 (by decide +kernel) ?_
  refine T_upg c13 bd_309_4 (by omega) (fun s33 c34 g36 g37 e38 => ?_)
  have f35 := z_Fr.upf (R := R_X12_readsPart_309) f14 g36 g37 (Or.inr (Or.inr (Or.inr (Or.inr (Or.inr (Or.inr (Or.inr (⟨rfl, by decide⟩))))))))
  have t39 : s33 309 3 = s 309 3 := (g37 3 (by decide)).trans t18
  have t40 : s33 309 6 = s 309 6 := (g37 6 (by decide)).trans t20
  have t41 : s33 309 7 = s 309 7 := (g37 7 (by decide)).trans t21
  have t42 : s33 329 0 = s 329 0 := (g36 329 0 (by decide)).trans t22
  have t43 : s33 329 1 = s 329 1 := (g36 329 1 (by decide)).trans t23
  have t44 : s33 329 2 = s12 329 2 := g36 329 2 (by decide)
  have u45 := CI_b c34 (k := 309) (j := 4) bd_309_4
  have r46 := y_D.fr r25 (fun b => g36 359 b (by decide)) (fun b => g36 374 b (by decide))
  have r47 := y_GS.fr r26 (fun b => g36 404 b (by decide)) (fun a b h => g36 a b (by omega))
  have hq2 := g36 329 2 (by decide)
  have hq3 : s33 329 2 = z_xor (r0 329 2) t3 := by rw [hq2, ← hx2]; omega
  have r48 : y_PO r0 s33 := y_PO.p (v := t3) (by omega) (by omega) (by omega) (by omega) (by omega) (by omega) hq3 (fun a b h => by rcases h with rfl | rfl | rfl | rfl <;> first | exact (g36 _ b (by decide)).trans ((hgr _ b (by decide)).trans (hSD.2.2.1 b)) | exact (g36 _ b (by decide)).trans ((hgr _ b (by decide)).trans (hSD.2.2.2.1 b)) | exact (g36 _ b (by decide)).trans ((hgr _ b (by decide)).trans (hSD.2.2.2.2.1 b)) | exact (g36 _ b (by decide)).trans ((hgr _ b (by decide)).trans (hSD.2.2.2.2.2 b))) r47 (by omega)
  clear t18
  clear t20
  clear t21
  clear t22
  clear t23
  exact sj_X12_readsPart_309T_J94 hfu r0 s33 c34 f35 (by first | exact y_D.cg r46 (by omega) | exact y_D.z (by omega) | exact y_D.ex r46 (by omega) (by omega)) (by omega) (by omega) (by omega) (by omega) r48 (by omega) (by omega) (by omega)
theorem sj_X12_readsPart_309T_J36 {fu : Nat} (hfu : 8589934592 ≤ fu) (r0 s : z_M) (c : z_CI s) (f : z_Fr R_X12_readsPart_309 r0 s) (a1 : Int) (b1 : -2147483648 ≤ a1 ∧ a1 ≤ 2147483647) (p0 : y_D s (s 329 0)) (p1 : s 329 1 ≤ s 329 0) (p2 : s 309 4 < s 309 3) (p3 : s 309 4 = r0 309 4) (p4 : s 309 6 = 0) (p5 : s 309 6 = r0 309 6) (p6 : s 329 0 = r0 329 0) (p7 : s 329 1 = r0 329 1) (p8 : s 329 2 = r0 329 2) (p9 : y_SD r0 s) (p10 : y_GS r0 s) (p11 : a1 = y_hr r0) (p12 : a1 = 42 ∨ a1 = 95) (p13 : s 309 7 = r0 309 7) (p14 : s 309 6 ≠ 0 ∨ s 309 7 = r0 309 7) (p15 : s 309 6 ≠ 0 ∨ s 309 4 ≤ s 309 3) (p16 : s 309 6 = 0 ∨ s 309 6 = 1 ∨ s 309 6 = 2) : z_T (fX12_readsPart_J36 fu s 309 a1) (P_X12_readsPart_309T r0) := by
  refine T_of (fX12_readsPart_J36.eq_1 ..) ?_
  have u1 := CI_b c (k := 309) (j := 3) bd_309_3
  have u2 := CI_b c (k := 309) (j := 4) bd_309_4
  have u3 := CI_b c (k := 309) (j := 6) bd_309_6
  have u4 := CI_b c (k := 309) (j := 7) bd_309_7
  have u5 := CI_b c (k := 329) (j := 0) bd_329_0
  have u6 := CI_b c (k := 329) (j := 1) bd_329_1
  have u7 := CI_b c (k := 329) (j := 2) bd_329_2
  have t8 : s 309 3 = r0 309 3 := f 309 3 (by decide)
  refine T_if1 (by decide +kernel) ?_
  refine T_let 315 (by decide +kernel) ?_
  refine T_if1 (z_ixl (n := 14) (by decide +kernel) (by omega) (by omega)) ?_
  refine T_let 329 (by decide +kernel) ?_
  refine T_if1 (z_ixl (n := 3) (by decide +kernel) (by omega) (by omega)) ?_
  refine T_leq (fun x9 e10 => ?_)
  have u11 := CI_b c (k := 329) (j := 2) bd_329_2
  refine T_ite (fun h12 => ?_) (fun h12 => ?_)
  · exact sj_X12_readsPart_309T_J57 hfu r0 s c f 2 x9 2 (by omega) (by omega) (by omega) (by first | exact y_D.cg p0 (by omega) | exact y_D.z (by omega) | exact y_D.ex p0 (by omega) (by omega)) (by omega) (by omega) (by omega) (by omega) (by omega) (by omega) (by omega) (by omega) p9 p10 (by omega) (by omega) (by omega) (by omega) (by omega) (by omega)
  · exact sj_X12_readsPart_309T_J57 hfu r0 s c f 2 x9 1 (by omega) (by omega) (by omega) (by first | exact y_D.cg p0 (by omega) | exact y_D.z (by omega) | exact y_D.ex p0 (by omega) (by omega)) (by omega) (by omega) (by omega) (by omega) (by omega) (by omega) (by omega) (by omega) p9 p10 (by omega) (by omega) (by omega) (by omega) (by omega) (by omega)
theorem nr_X12_addsSign_309__404 (b : Int) : ¬ R_X12_addsSign_309 404 b := by
  unfold R_X12_addsSign_309; omega
theorem nz_X12_addsSign_309__3020_3219 (a b : Int) (h : 3020 ≤ a ∧ a ≤ 3219) : ¬ R_X12_addsSign_309 a b := by
  unfold R_X12_addsSign_309; omega
theorem sf_X12_readsPart_309T {fu : Nat} (hfu : 8589934592 ≤ fu) (r0 : z_M) (c0 : z_CI r0) (p0 : y_D r0 (r0 329 0)) (p1 : r0 329 1 ≤ r0 329 0) (p2 : r0 309 4 < r0 309 3) (p3 : r0 309 6 = 0) : z_T (fX12_readsPart fu r0 309) (P_X12_readsPart_309T r0) := by
  refine T_of (fX12_readsPart.eq_1 ..) ?_
  have u1 := CI_b c0 (k := 309) (j := 3) bd_309_3
  have u2 := CI_b c0 (k := 309) (j := 4) bd_309_4
  have u3 := CI_b c0 (k := 309) (j := 6) bd_309_6
  have u4 := CI_b c0 (k := 309) (j := 7) bd_309_7
  have u5 := CI_b c0 (k := 329) (j := 0) bd_329_0
  have u6 := CI_b c0 (k := 329) (j := 1) bd_329_1
  have u7 := CI_b c0 (k := 329) (j := 2) bd_329_2
  have r8 : y_SD r0 r0 := y_SD.rf
  have r9 : y_GS r0 r0 := y_GS.rf
  have n10 := y_hr_lt r0
  refine T_if1 (by decide +kernel) ?_
  refine T_useI (sf_X12_here_309 hfu r0 c0) (fun v16 s11 hq => ?_)
  obtain ⟨c12, f13, ⟨x15, rfl, b17, b18, o19⟩⟩ := hq
  refine T_vI ?_
  have q20 := z_Fr.eq (fun a b h => h) f13
  subst q20
  refine T_useI (sf_X12_plainKindT hfu r0 c0 x15 (by omega)) (fun v26 s21 hq => ?_)
  obtain ⟨c22, f23, ⟨x25, rfl, b27, b28, o29⟩⟩ := hq
  refine T_vI ?_
  have q30 := z_Fr.eq (fun a b h => h) f23
  subst q30
  have n31 := y_ki_cases (y_hr r0)
  have n32 := y_kih (y_hr r0)
  have hk10 : x25 = y_ki (y_hr r0) := by rw [← (by assumption : x15 = y_hr r0)]; assumption
  refine T_ite (fun h33 => ?_) (fun h33 => ?_)
  · refine T_ite (fun h34 => ?_) (fun h34 => ?_)
    · exact sj_X12_readsPart_309T_J36 hfu r0 r0 c0 z_Fr.rf x15 (by omega) (by first | exact y_D.cg p0 (by omega) | exact y_D.z (by omega) | exact y_D.ex p0 (by omega) (by omega)) (by omega) (by omega) (by omega) (by omega) (by omega) (by omega) (by omega) (by omega) r8 r9 (by omega) (by omega) (by omega) (by omega) (by omega) (by omega)
    · refine T_ite (fun h35 => ?_) (fun h35 => ?_)
      · refine T_ite (fun h36 => ?_) (fun h36 => ?_)
        · refine T_if1 (by decide +kernel) ?_
          refine T_leq (fun x37 e38 => ?_)
          have u39 := CI_b c0 (k := 309) (j := 4) bd_309_4
          refine T_if1 (by decide +kernel) ?_
          refine T_useN (sf_X12_wrong_309T hfu r0 c0 1 x37 (by omega) (by omega) (by omega)) (fun v45 s40 hq => ?_)
          obtain ⟨c41, f42, o46, o47, rfl⟩ := hq
          refine T_vN ?_
          have f43 := z_Fr.tr (R := R_X12_readsPart_309) z_Fr.rf f42 rs_X12_wrong_309__X12_readsPart_309
          have t50 : s40 309 3 = r0 309 3 := f42 309 3 (by decide)
          have t51 : s40 309 4 = x37 := (f42 309 4 (by decide)).trans e38
          have t52 : s40 329 0 = r0 329 0 := f42 329 0 (by decide)
          have t53 : s40 329 1 = r0 329 1 := f42 329 1 (by decide)
          have t54 : s40 329 2 = r0 329 2 := f42 329 2 (by decide)
          have u55 := CI_b c41 (k := 309) (j := 6) bd_309_6
          have u56 := CI_b c41 (k := 309) (j := 7) bd_309_7
          have r57 := y_D.fr p0 (fun b => f42 359 b (nr_X12_wrong_309__359 b)) (fun b => f42 374 b (nr_X12_wrong_309__374 b))
          have r58 := y_SD.fr r8 (f42 329 0 (by decide)) (f42 329 2 (by decide)) (fun b => f42 344 b (nr_X12_wrong_309__344 b)) (fun b => f42 359 b (nr_X12_wrong_309__359 b)) (fun b => f42 374 b (nr_X12_wrong_309__374 b)) (fun b => f42 389 b (nr_X12_wrong_309__389 b))
          have r59 := y_GS.fr r9 (fun b => f42 404 b (nr_X12_wrong_309__404 b)) (fun a b h => f42 a b (nz_X12_wrong_309__3020_3219 a b h))
          have r60 : y_PO r0 s40 := y_PO.w (by omega) (by omega) (by omega) (by omega) (by omega)
          exact sj_X12_readsPart_309T_J94 hfu r0 s40 c41 f43 (by first | exact y_D.cg r57 (by omega) | exact y_D.z (by omega) | exact y_D.ex r57 (by omega) (by omega)) (by omega) (by omega) (by omega) (by omega) r60 (by omega) (by omega) (by omega)
        · refine T_if1 (by decide +kernel) ?_
          refine T_useN (sf_X12_readsGroup_309T hfu r0 c0 (by first | exact y_D.cg p0 (by omega) | exact y_D.z (by omega) | exact y_D.ex p0 (by omega) (by omega)) (by omega) (by omega) (by omega) (by omega)) (fun v66 s61 hq => ?_)
          obtain ⟨c62, f63, o67, o68, o69, o70, o71, o72, o73, o74, rfl⟩ := hq
          refine T_vN ?_
          have f64 := z_Fr.tr (R := R_X12_readsPart_309) z_Fr.rf f63 rs_X12_readsGroup_309__X12_readsPart_309
          have t77 : s61 309 3 = r0 309 3 := f63 309 3 (by decide)
          have u78 := CI_b c62 (k := 309) (j := 4) bd_309_4
          have u79 := CI_b c62 (k := 309) (j := 6) bd_309_6
          have u80 := CI_b c62 (k := 309) (j := 7) bd_309_7
          have u81 := CI_b c62 (k := 329) (j := 0) bd_329_0
          have u82 := CI_b c62 (k := 329) (j := 1) bd_329_1
          have u83 := CI_b c62 (k := 329) (j := 2) bd_329_2
          exact sj_X12_readsPart_309T_J94 hfu r0 s61 c62 f64 (by first | exact y_D.cg o67 (by omega) | exact y_D.z (by omega) | exact y_D.ex o67 (by omega) (by omega)) (by omega) (by omega) (by omega) (by omega) o71 (by omega) (by omega) (by omega)
      · exact sj_X12_readsPart_309T_J36 hfu r0 r0 c0 z_Fr.rf x15 (by omega) (by first | exact y_D.cg p0 (by omega) | exact y_D.z (by omega) | exact y_D.ex p0 (by omega) (by omega)) (by omega) (by omega) (by omega) (by omega) (by omega) (by omega) (by omega) (by omega) r8 r9 (by omega) (by omega) (by omega) (by omega) (by omega) (by omega)
  · have n84 := y_ki_cases (y_hr r0)
    refine T_if1 (by decide +kernel) ?_
    refine T_useN (sf_X12_addsSign_309T hfu r0 c0 x25 (-1) (by omega) (by omega) (by first | exact y_D.cg p0 (by omega) | exact y_D.z (by omega) | exact y_D.ex p0 (by omega) (by omega)) (by omega) (by omega) (by omega) (by omega)) (fun v90 s85 hq => ?_)
    obtain ⟨c86, f87, o91, o92, o93, o94, o95, o96, o97, o98, o99, o100, rfl⟩ := hq
    refine T_vN ?_
    have f88 := z_Fr.tr (R := R_X12_readsPart_309) z_Fr.rf f87 rs_X12_addsSign_309__X12_readsPart_309
    have t103 : s85 309 3 = r0 309 3 := f87 309 3 (by decide)
    have u104 := CI_b c86 (k := 309) (j := 4) bd_309_4
    have u105 := CI_b c86 (k := 309) (j := 6) bd_309_6
    have u106 := CI_b c86 (k := 309) (j := 7) bd_309_7
    have u107 := CI_b c86 (k := 329) (j := 0) bd_329_0
    have u108 := CI_b c86 (k := 329) (j := 1) bd_329_1
    have u109 := CI_b c86 (k := 329) (j := 2) bd_329_2
    have r110 := y_GS.fr r9 (fun b => f87 404 b (nr_X12_addsSign_309__404 b)) (fun a b h => f87 a b (nz_X12_addsSign_309__3020_3219 a b h))
    have r111 : y_PO r0 s85 := y_PO.a c0 o98 (by assumption) (by omega) (by omega) (by omega) (by omega) (by omega)
    exact sj_X12_readsPart_309T_J94 hfu r0 s85 c86 f88 (by first | exact y_D.cg o91 (by omega) | exact y_D.z (by omega) | exact y_D.ex o91 (by omega) (by omega)) (by omega) (by omega) (by omega) (by omega) r111 (by omega) (by omega) (by omega)
abbrev P_X12_copies_309T (r0 : z_M) (a1 : Int) (a2 : Int) : z_V → z_M → Prop := fun v s' => z_CI s' ∧ z_Fr R_X12_copies_309 r0 s' ∧ (y_CP r0 s' a1 a2 3 200) ∧ (y_CF r0 s' a1 a2 3 200) ∧ (y_CL r0 s' a1 a2 200) ∧ (v = vN)
theorem sl_X12_copies_309T_L2 {fu : Nat} (hfu : 8589934592 ≤ fu) (r0 : z_M) (a1 : Int) (a2 : Int) (b1 : 0 ≤ a1 ∧ a1 ≤ 13) (b2 : 0 ≤ a2 ∧ a2 ≤ 13) (q0 : a1 ≠ a2) {k : z_M → z_O} (hk : ∀ (s' : z_M), z_CI s' → z_Fr R_X12_copies_309 r0 s' → (y_CP r0 s' a1 a2 3 0) → (y_CF r0 s' a1 a2 3 0) → (y_CL r0 s' a1 a2 0) → z_T (k s') (P_X12_copies_309T r0 a1 a2)) : ∀ (F : Nat) (s : z_M) (a3 : Int), z_CI s → z_Fr R_X12_copies_309 r0 s → (0 ≤ a3 ∧ a3 ≤ 3) → (y_CP r0 s a1 a2 a3 0) → (y_CF r0 s a1 a2 a3 0) → (y_CL r0 s a1 a2 0) → (2147483647 - a3 < (F : Int)) → z_T (fX12_copies_L2 fu 309 a1 a2 F s a3 k) (P_X12_copies_309T r0 a1 a2) := by
  intro F
  induction F with
  | zero =>
    intro s a3 c f b3 i0 i1 i2 hm
    exfalso; omega
  | succ F ih =>
    intro s a3 c f b3 i0 i1 i2 hm
    refine T_of (fX12_copies_L2.eq_2 ..) ?_
    refine T_ite (fun h1 => ?_) (fun h1 => ?_)
    · exact hk s c f (by first | exact y_CP.cg i0 (by omega) (by omega) | exact y_CP.z (by omega) (by omega)) (by first | exact y_CF.cg i1 (by omega) (by omega) | exact y_CF.z (by omega) (by omega)) (by first | exact y_CL.cg i2 (by omega) | exact y_CL.z (by omega))
    · refine T_if1 (by decide +kernel) ?_
      refine T_let 315 (by decide +kernel) ?_
      refine T_if1 (z_ixl (n := 14) (by decide +kernel) (by omega) (by omega)) ?_
      refine T_let (316 + a2) (gr_315 a2) ?_
      refine T_if1 (by decide +kernel) ?_
      refine T_let 315 (by decide +kernel) ?_
      refine T_if1 (z_ixl (n := 14) (by decide +kernel) (by omega) (by omega)) ?_
      refine T_let (316 + a1) (gr_315 a1) ?_
      refine T_if1 (z_ixs (sh_r315 (by omega)) (by omega) (by omega) (by omega)) ?_
      refine T_leq (fun x2 e3 => ?_)
      have u4 := CI_w c (k := (316 + a1)) (j := a3) (by rw [sh_r315 (by omega)]; decide)
      have n5 := (y_CP.src i0 (by omega) (by omega) a3).1
      have n6 := (y_CF.src i1 (by omega) (by omega) a3).1
      refine T_if1 (z_ixs (sh_r315 (by omega)) (by omega) (by omega) (by omega)) ?_
      refine T_upg c (z_bdH (t2 := a1) (by omega) (by omega) (by omega)) (by rw [← (by assumption : s (316 + a1) a3 = x2)]; exact c _ _) (fun s7 c8 g10 g11 e12 => ?_)
      have f9 := z_Fr.up (R := R_X12_copies_309) f g10 (fun b => by unfold R_X12_copies_309; omega)
      have r13 := y_CL.fr (by omega) i2 (fun a b h => g10 a b (by omega)) (fun a b h => g10 a b (by omega))
      have r14 : y_CP r0 s7 a1 a2 (a3 + 1) 0 := y_CP.exn (y_CP.st (by omega) i0 (fun b h => g11 b (by omega)) (fun b h => g10 _ b (by omega)) (fun b h => g10 _ b (by omega)) (fun a b h1 h2 h3 => g10 a b h1)) (by omega) rfl
      have r15 : y_CF r0 s7 a1 a2 (a3 + 1) 0 := y_CF.exn (y_CF.st (by omega) i1 (fun b h => g11 b (by omega)) (fun b h => g10 _ b (by omega)) (fun b h => g10 _ b (by omega)) (fun b h => g10 _ b (by omega)) (fun b h => g10 _ b (by omega)) (fun a b h1 h2 h3 h4 h5 => g10 a b h1)) (by omega) rfl
      refine T_leq (fun x16 e17 => ?_)
      first | (have w18 := z_wx e17 (by omega)) | (have w18 := z_wr e17)
      exact ih s7 x16 c8 f9 (by omega) (by first | exact y_CP.cg r14 (by omega) (by omega) | exact y_CP.z (by omega) (by omega)) (by first | exact y_CF.cg r15 (by omega) (by omega) | exact y_CF.z (by omega) (by omega)) (by first | exact y_CL.cg r13 (by omega) | exact y_CL.z (by omega)) (by omega)
theorem sl_X12_copies_309T_L121 {fu : Nat} (hfu : 8589934592 ≤ fu) (r0 : z_M) (a1 : Int) (a2 : Int) (a3 : Int) (b1 : 0 ≤ a1 ∧ a1 ≤ 13) (b2 : 0 ≤ a2 ∧ a2 ≤ 13) (b3 : 0 ≤ a3 ∧ a3 ≤ 199) (q0 : a1 ≠ a2) {k : z_M → z_O} (hk : ∀ (s' : z_M), z_CI s' → z_Fr R_X12_copies_309 r0 s' → (y_CP r0 s' a1 a2 3 (a3 + 1)) → (y_CF r0 s' a1 a2 3 (a3 + 1)) → (y_CL r0 s' a1 a2 (a3 + 1)) → z_T (k s') (P_X12_copies_309T r0 a1 a2)) : ∀ (F : Nat) (s : z_M) (a4 : Int), z_CI s → z_Fr R_X12_copies_309 r0 s → (0 ≤ a4 ∧ a4 ≤ 20) → (y_CP r0 s a1 a2 3 (a3 + 1)) → (y_CF r0 s a1 a2 3 (a3 + 1)) → (y_CLj r0 s a1 a2 a3 a4) → (2147483647 - a4 < (F : Int)) → z_T (fX12_copies_L121 fu 309 a1 a2 a3 F s a4 k) (P_X12_copies_309T r0 a1 a2) := by
  intro F
  induction F with
  | zero =>
    intro s a4 c f b4 i0 i1 i2 hm
    exfalso; omega
  | succ F ih =>
    intro s a4 c f b4 i0 i1 i2 hm
    refine T_of (fX12_copies_L121.eq_2 ..) ?_
    refine T_ite (fun h1 => ?_) (fun h1 => ?_)
    · exact hk s c f (by first | exact y_CP.cg i0 (by omega) (by omega) | exact y_CP.z (by omega) (by omega)) (by first | exact y_CF.cg i1 (by omega) (by omega) | exact y_CF.z (by omega) (by omega)) (by first | exact y_CL.z (by omega) | exact y_CLj.d20 i2 (by omega) (by omega) | exact y_CLj.dh i2 i1 (by omega) (by omega) (by assumption) (by omega) (by omega))
    · refine T_if1 (by decide +kernel) ?_
      refine T_let 315 (by decide +kernel) ?_
      refine T_if1 (z_ixl (n := 14) (by decide +kernel) (by omega) (by omega)) ?_
      refine T_let (316 + a1) (gr_315 a1) ?_
      refine T_if1 (z_ixs (sh_r315 (by omega)) (by omega) (by omega) (by omega)) ?_
      refine T_leq (fun x2 e3 => ?_)
      have u4 := CI_b c (k := (316 + a1)) (j := 1) (bds_r315_1 (by omega))
      refine T_ite (fun h5 => ?_) (fun h5 => ?_)
      · exact hk s c f (by first | exact y_CP.cg i0 (by omega) (by omega) | exact y_CP.z (by omega) (by omega)) (by first | exact y_CF.cg i1 (by omega) (by omega) | exact y_CF.z (by omega) (by omega)) (by first | exact y_CL.z (by omega) | exact y_CLj.d20 i2 (by omega) (by omega) | exact y_CLj.dh i2 i1 (by omega) (by omega) (by assumption) (by omega) (by omega))
      · refine T_if1 (by decide +kernel) ?_
        refine T_let 405 (by decide +kernel) ?_
        refine T_if1 (z_ixl (n := 14) (by decide +kernel) (by omega) (by omega)) ?_
        refine T_let (406 + 201 * a2) (z_gr405 a2) ?_
        refine T_if1 (z_ixs (z_shL1 (t := a2) (by omega)) (by omega) (by omega) (by omega)) ?_
        refine T_let (407 + 201 * a2 + a3) (z_grL (by omega)) ?_
        refine T_if1 (by decide +kernel) ?_
        refine T_let 405 (by decide +kernel) ?_
        refine T_if1 (z_ixl (n := 14) (by decide +kernel) (by omega) (by omega)) ?_
        refine T_let (406 + 201 * a1) (z_gr405 a1) ?_
        refine T_if1 (z_ixs (z_shL1 (t := a1) (by omega)) (by omega) (by omega) (by omega)) ?_
        refine T_let (407 + 201 * a1 + a3) (z_grL (by omega)) ?_
        refine T_if1 (z_ixs (z_shL2 (t := a1) (k := a3) (by omega) (by omega)) (by omega) (by omega) (by omega)) ?_
        refine T_leq (fun x6 e7 => ?_)
        have u8 := CI_w c (k := (407 + 201 * a1 + a3)) (j := a4) (by rw [z_shL2 (by omega) (by omega)]; decide)
        refine T_if1 (z_ixs (z_shL2 (t := a2) (k := a3) (by omega) (by omega)) (by omega) (by omega) (by omega)) ?_
        refine T_upg c (z_bdLe (c2 := 407 + 201 * a1 + a3) (by omega) (by omega)) (by rw [← (by assumption : s (407 + 201 * a1 + a3) a4 = x6)]; exact c _ _) (fun s9 c10 g12 g13 e14 => ?_)
        have f11 := z_Fr.up (R := R_X12_copies_309) f g12 (fun b => by unfold R_X12_copies_309; omega)
        have r15 := y_CP.fr (by omega) i0 (fun a b h => g12 a b (by omega)) (fun a b h => g12 a b (by omega)) (fun a b h => g12 a b (by omega))
        have r16 := y_CF.fr (by omega) i1 (fun a b h => g12 a b (by omega)) (fun a b h => g12 a b (by omega)) (fun a b h => g12 a b (by omega)) (fun a b h => g12 a b (by omega)) (fun a b h => g12 a b (by omega))
        have r17 : y_CLj r0 s9 a1 a2 a3 (a4 + 1) := y_CLj.st i2 (by omega) (by omega) (by omega) (by omega) g12 g13 e14 (by assumption) rfl
        refine T_leq (fun x18 e19 => ?_)
        first | (have w20 := z_wx e19 (by omega)) | (have w20 := z_wr e19)
        exact ih s9 x18 c10 f11 (by omega) (by first | exact y_CP.cg r15 (by omega) (by omega) | exact y_CP.z (by omega) (by omega)) (by first | exact y_CF.cg r16 (by omega) (by omega) | exact y_CF.z (by omega) (by omega)) (by first | exact y_CLj.cg r17 (by omega) (by omega)) (by omega)
theorem sj_X12_copies_309T_J168 {fu : Nat} (hfu : 8589934592 ≤ fu) (r0 s : z_M) (c : z_CI s) (f : z_Fr R_X12_copies_309 r0 s) (a1 : Int) (a2 : Int) (a3 : Int) (b1 : 0 ≤ a1 ∧ a1 ≤ 13) (b2 : 0 ≤ a2 ∧ a2 ≤ 13) (b3 : 0 ≤ a3 ∧ a3 ≤ 199) (p0 : y_CP r0 s a1 a2 3 (a3 + 1)) (p1 : y_CF r0 s a1 a2 3 (a3 + 1)) (p2 : y_CL r0 s a1 a2 (a3 + 1)) (M : Int) (pm : 2147483647 - a3 ≤ M) {r : z_M → Int → z_O} {k : z_M → z_O} (hr : ∀ (s' : z_M) (v3 : Int), z_CI s' → z_Fr R_X12_copies_309 r0 s' → (0 ≤ v3 ∧ v3 ≤ 200) → (y_CP r0 s' a1 a2 3 v3) → (y_CF r0 s' a1 a2 3 v3) → (y_CL r0 s' a1 a2 v3) → (2147483647 - v3 < M) → z_T (r s' v3) (P_X12_copies_309T r0 a1 a2)) (hk : ∀ (s' : z_M), z_CI s' → z_Fr R_X12_copies_309 r0 s' → (y_CP r0 s' a1 a2 3 200) → (y_CF r0 s' a1 a2 3 200) → (y_CL r0 s' a1 a2 200) → z_T (k s') (P_X12_copies_309T r0 a1 a2)) : z_T (fX12_copies_J168 fu s 309 a1 a2 a3 r k) (P_X12_copies_309T r0 a1 a2) := by
  refine T_of (fX12_copies_J168.eq_1 ..) ?_
  refine T_leq (fun x1 e2 => ?_)
  first | (have w3 := z_wx e2 (by omega)) | (have w3 := z_wr e2)
  exact hr s x1 c f (by omega) (by first | exact y_CP.cg p0 (by omega) (by omega) | exact y_CP.z (by omega) (by omega)) (by first | exact y_CF.cg p1 (by omega) (by omega) | exact y_CF.z (by omega) (by omega)) (by first | exact y_CL.cg p2 (by omega) | exact y_CL.z (by omega)) (by omega)
set_option maxHeartbeats 4000000 in
theorem sl_X12_copies_309T_L31 {fu : Nat} (hfu : 8589934592 ≤ fu) (r0 : z_M) (a1 : Int) (a2 : Int) (b1 : 0 ≤ a1 ∧ a1 ≤ 13) (b2 : 0 ≤ a2 ∧ a2 ≤ 13) (q0 : a1 ≠ a2) {k : z_M → z_O} (hk : ∀ (s' : z_M), z_CI s' → z_Fr R_X12_copies_309 r0 s' → (y_CP r0 s' a1 a2 3 200) → (y_CF r0 s' a1 a2 3 200) → (y_CL r0 s' a1 a2 200) → z_T (k s') (P_X12_copies_309T r0 a1 a2)) : ∀ (F : Nat) (s : z_M) (a3 : Int), z_CI s → z_Fr R_X12_copies_309 r0 s → (0 ≤ a3 ∧ a3 ≤ 200) → (y_CP r0 s a1 a2 3 a3) → (y_CF r0 s a1 a2 3 a3) → (y_CL r0 s a1 a2 a3) → (2147483647 - a3 < (F : Int)) → z_T (fX12_copies_L31 fu 309 a1 a2 F s a3 k) (P_X12_copies_309T r0 a1 a2) := by
  intro F
  induction F with
  | zero =>
    intro s a3 c f b3 i0 i1 i2 hm
    exfalso; omega
  | succ F ih =>
    intro s a3 c f b3 i0 i1 i2 hm
    refine T_of (fX12_copies_L31.eq_2 ..) ?_
    refine T_ite (fun h1 => ?_) (fun h1 => ?_)
    · exact hk s c f (by first | exact y_CP.cg i0 (by omega) (by omega) | exact y_CP.z (by omega) (by omega)) (by first | exact y_CF.cg i1 (by omega) (by omega) | exact y_CF.z (by omega) (by omega)) (by first | exact y_CL.cg i2 (by omega) | exact y_CL.z (by omega))
    · refine T_if1 (by decide +kernel) ?_
      refine T_let 330 (by decide +kernel) ?_
      refine T_if1 (z_ixl (n := 14) (by decide +kernel) (by omega) (by omega)) ?_
      refine T_let (331 + a2) (gr_330 a2) ?_
      refine T_if1 (by decide +kernel) ?_
      refine T_let 330 (by decide +kernel) ?_
      refine T_if1 (z_ixl (n := 14) (by decide +kernel) (by omega) (by omega)) ?_
      refine T_let (331 + a1) (gr_330 a1) ?_
      refine T_if1 (z_ixs (sh_r330 (by omega)) (by omega) (by omega) (by omega)) ?_
      refine T_leq (fun x2 e3 => ?_)
      have u4 := CI_b c (k := (331 + a1)) (j := a3) (bds_r330 (by omega) a3)
      have n5 := (y_CF.src i1 (by omega) (by omega) a3).2.1
      refine T_if1 (z_ixs (sh_r330 (by omega)) (by omega) (by omega) (by omega)) ?_
      refine T_upg c (bds_r330 (by omega) a3) (by omega) (fun s6 c7 g9 g10 e11 => ?_)
      have f8 := z_Fr.up (R := R_X12_copies_309) f g9 (fun b => by unfold R_X12_copies_309; omega)
      have r12 := y_CP.fr (by omega) i0 (fun a b h => g9 a b (by omega)) (fun a b h => g9 a b (by omega)) (fun a b h => g9 a b (by omega))
      have r13 := y_CL.fr (by omega) i2 (fun a b h => g9 a b (by omega)) (fun a b h => g9 a b (by omega))
      have r14 : y_CF r0 s6 a1 a2 3 a3 := y_CF.st (by omega) i1 (fun b h => g9 _ b (by omega)) (fun b h => g10 b (by omega)) (fun b h => g9 _ b (by omega)) (fun b h => g9 _ b (by omega)) (fun b h => g9 _ b (by omega)) (fun a b h1 h2 h3 h4 h5 => g9 a b h2)
      refine T_if1 (by decide +kernel) ?_
      refine T_let 345 (by decide +kernel) ?_
      refine T_if1 (z_ixl (n := 14) (by decide +kernel) (by omega) (by omega)) ?_
      refine T_let (346 + a2) (gr_345 a2) ?_
      refine T_if1 (by decide +kernel) ?_
      refine T_let 345 (by decide +kernel) ?_
      refine T_if1 (z_ixl (n := 14) (by decide +kernel) (by omega) (by omega)) ?_
      refine T_let (346 + a1) (gr_345 a1) ?_
      refine T_if1 (z_ixs (sh_r345 (by omega)) (by omega) (by omega) (by omega)) ?_
      refine T_leq (fun x15 e16 => ?_)
      have u17 := CI_b c7 (k := (346 + a1)) (j := a3) (bds_r345 (by omega) a3)
      have n18 := (y_CP.src r12 (by omega) (by omega) a3).2.1
      have n19 := (y_CF.src r14 (by omega) (by omega) a3).2.2.1
      refine T_if1 (z_ixs (sh_r345 (by omega)) (by omega) (by omega) (by omega)) ?_
      refine T_upg c7 (bds_r345 (by omega) a3) (by omega) (fun s20 c21 g23 g24 e25 => ?_)
      have f22 := z_Fr.up (R := R_X12_copies_309) f8 g23 (fun b => by unfold R_X12_copies_309; omega)
      have r26 := y_CL.fr (by omega) r13 (fun a b h => g23 a b (by omega)) (fun a b h => g23 a b (by omega))
      have t27 : s20 (331 + a2) a3 = x2 := by first | exact (g23 (331 + a2) a3 (by omega)).trans e11 | exact (g24 a3 (by omega)).trans e11
      have r28 : y_CP r0 s20 a1 a2 3 a3 := y_CP.st (by omega) r12 (fun b h => g23 _ b (by omega)) (fun b h => g24 b (by omega)) (fun b h => g23 _ b (by omega)) (fun a b h1 h2 h3 => g23 a b h2)
      have r29 : y_CF r0 s20 a1 a2 3 a3 := y_CF.st (by omega) r14 (fun b h => g23 _ b (by omega)) (fun b h => g23 _ b (by omega)) (fun b h => g24 b (by omega)) (fun b h => g23 _ b (by omega)) (fun b h => g23 _ b (by omega)) (fun a b h1 h2 h3 h4 h5 => g23 a b h3)
      refine T_if1 (by decide +kernel) ?_
      refine T_let 360 (by decide +kernel) ?_
      refine T_if1 (z_ixl (n := 14) (by decide +kernel) (by omega) (by omega)) ?_
      refine T_let (361 + a2) (gr_360 a2) ?_
      refine T_if1 (by decide +kernel) ?_
      refine T_let 360 (by decide +kernel) ?_
      refine T_if1 (z_ixl (n := 14) (by decide +kernel) (by omega) (by omega)) ?_
      refine T_let (361 + a1) (gr_360 a1) ?_
      refine T_if1 (z_ixs (sh_r360 (by omega)) (by omega) (by omega) (by omega)) ?_
      refine T_leq (fun x30 e31 => ?_)
      have u32 := CI_b c21 (k := (361 + a1)) (j := a3) (bds_r360 (by omega) a3)
      have n33 := (y_CP.src r28 (by omega) (by omega) a3).2.2
      have n34 := (y_CF.src r29 (by omega) (by omega) a3).2.2.2.1
      refine T_if1 (z_ixs (sh_r360 (by omega)) (by omega) (by omega) (by omega)) ?_
      refine T_upg c21 (bds_r360 (by omega) a3) (by omega) (fun s35 c36 g38 g39 e40 => ?_)
      have f37 := z_Fr.up (R := R_X12_copies_309) f22 g38 (fun b => by unfold R_X12_copies_309; omega)
      have r41 := y_CL.fr (by omega) r26 (fun a b h => g38 a b (by omega)) (fun a b h => g38 a b (by omega))
      have t42 : s35 (331 + a2) a3 = x2 := by first | exact (g38 (331 + a2) a3 (by omega)).trans t27 | exact (g39 a3 (by omega)).trans t27
      have t43 : s35 (346 + a2) a3 = x15 := by first | exact (g38 (346 + a2) a3 (by omega)).trans e25 | exact (g39 a3 (by omega)).trans e25
      have r44 : y_CP r0 s35 a1 a2 3 a3 := y_CP.st (by omega) r28 (fun b h => g38 _ b (by omega)) (fun b h => g38 _ b (by omega)) (fun b h => g39 b (by omega)) (fun a b h1 h2 h3 => g38 a b h3)
      have r45 : y_CF r0 s35 a1 a2 3 a3 := y_CF.st (by omega) r29 (fun b h => g38 _ b (by omega)) (fun b h => g38 _ b (by omega)) (fun b h => g38 _ b (by omega)) (fun b h => g39 b (by omega)) (fun b h => g38 _ b (by omega)) (fun a b h1 h2 h3 h4 h5 => g38 a b h4)
      clear t27
      refine T_if1 (by decide +kernel) ?_
      refine T_let 375 (by decide +kernel) ?_
      refine T_if1 (z_ixl (n := 14) (by decide +kernel) (by omega) (by omega)) ?_
      refine T_let (376 + a2) (gr_375 a2) ?_
      refine T_if1 (by decide +kernel) ?_
      refine T_let 375 (by decide +kernel) ?_
      refine T_if1 (z_ixl (n := 14) (by decide +kernel) (by omega) (by omega)) ?_
      refine T_let (376 + a1) (gr_375 a1) ?_
      refine T_if1 (z_ixs (sh_r375 (by omega)) (by omega) (by omega) (by omega)) ?_
      refine T_leq (fun x46 e47 => ?_)
      have u48 := CI_b c36 (k := (376 + a1)) (j := a3) (bds_r375 (by omega) a3)
      have n49 := (y_CF.src r45 (by omega) (by omega) a3).2.2.2.2
      refine T_if1 (z_ixs (sh_r375 (by omega)) (by omega) (by omega) (by omega)) ?_
      refine T_upg c36 (bds_r375 (by omega) a3) (by omega) (fun s50 c51 g53 g54 e55 => ?_)
      have f52 := z_Fr.up (R := R_X12_copies_309) f37 g53 (fun b => by unfold R_X12_copies_309; omega)
      have r56 := y_CL.fr (by omega) r41 (fun a b h => g53 a b (by omega)) (fun a b h => g53 a b (by omega))
      have r57 := y_CP.fr (by omega) r44 (fun a b h => g53 a b (by omega)) (fun a b h => g53 a b (by omega)) (fun a b h => g53 a b (by omega))
      have t58 : s50 (331 + a2) a3 = x2 := by first | exact (g53 (331 + a2) a3 (by omega)).trans t42 | exact (g54 a3 (by omega)).trans t42
      have t59 : s50 (346 + a2) a3 = x15 := by first | exact (g53 (346 + a2) a3 (by omega)).trans t43 | exact (g54 a3 (by omega)).trans t43
      have t60 : s50 (361 + a2) a3 = x30 := by first | exact (g53 (361 + a2) a3 (by omega)).trans e40 | exact (g54 a3 (by omega)).trans e40
      have r61 : y_CF r0 s50 a1 a2 3 a3 := y_CF.st (by omega) r45 (fun b h => g53 _ b (by omega)) (fun b h => g53 _ b (by omega)) (fun b h => g53 _ b (by omega)) (fun b h => g53 _ b (by omega)) (fun b h => g54 b (by omega)) (fun a b h1 h2 h3 h4 h5 => g53 a b h5)
      clear t42
      clear t43
      refine T_if1 (by decide +kernel) ?_
      refine T_let 390 (by decide +kernel) ?_
      refine T_if1 (z_ixl (n := 14) (by decide +kernel) (by omega) (by omega)) ?_
      refine T_let (391 + a2) (gr_390 a2) ?_
      refine T_if1 (by decide +kernel) ?_
      refine T_let 390 (by decide +kernel) ?_
      refine T_if1 (z_ixl (n := 14) (by decide +kernel) (by omega) (by omega)) ?_
      refine T_let (391 + a1) (gr_390 a1) ?_
      refine T_if1 (z_ixs (sh_r390 (by omega)) (by omega) (by omega) (by omega)) ?_
      refine T_leq (fun x62 e63 => ?_)
      have u64 := CI_b c51 (k := (391 + a1)) (j := a3) (bdg (c := _) (by omega) (by omega))
      refine T_if1 (z_ixs (sh_r390 (by omega)) (by omega) (by omega) (by omega)) ?_
      refine T_upg c51 (bdg (c := _) (by omega) (by omega)) (by omega) (fun s65 c66 g68 g69 e70 => ?_)
      have f67 := z_Fr.up (R := R_X12_copies_309) f52 g68 (fun b => by unfold R_X12_copies_309; omega)
      have r71 := y_CP.fr (by omega) r57 (fun a b h => g68 a b (by omega)) (fun a b h => g68 a b (by omega)) (fun a b h => g68 a b (by omega))
      have r72 := y_CF.fr (by omega) r61 (fun a b h => g68 a b (by omega)) (fun a b h => g68 a b (by omega)) (fun a b h => g68 a b (by omega)) (fun a b h => g68 a b (by omega)) (fun a b h => g68 a b (by omega))
      have t73 : s65 (331 + a2) a3 = x2 := by first | exact (g68 (331 + a2) a3 (by omega)).trans t58 | exact (g69 a3 (by omega)).trans t58
      have t74 : s65 (346 + a2) a3 = x15 := by first | exact (g68 (346 + a2) a3 (by omega)).trans t59 | exact (g69 a3 (by omega)).trans t59
      have t75 : s65 (361 + a2) a3 = x30 := by first | exact (g68 (361 + a2) a3 (by omega)).trans t60 | exact (g69 a3 (by omega)).trans t60
      have t76 : s65 (376 + a2) a3 = x46 := by first | exact (g68 (376 + a2) a3 (by omega)).trans e55 | exact (g69 a3 (by omega)).trans e55
      have r77 : y_CLj r0 s65 a1 a2 a3 0 := y_CLj.z (i := 0) r56 (by omega) (by omega) (by omega) (by omega) g68 g69 e70 (by assumption) rfl
      clear t58
      clear t59
      clear t60
      have r78 : y_CP r0 s65 a1 a2 3 (a3 + 1) := y_CP.exm r71 (by omega) (by omega) rfl
      have r79 : y_CF r0 s65 a1 a2 3 (a3 + 1) := y_CF.exm r72 (by omega) (by omega) (by omega) (by omega) rfl
      refine sl_X12_copies_309T_L121 hfu r0 a1 a2 a3 (by omega) (by omega) (by omega) (by omega) (fun s80 c81 f82 g83 g84 g85 => ?_) fu s65 0 c66 f67 (by omega) (by first | exact y_CP.cg r78 (by omega) (by omega) | exact y_CP.cg r71 (by omega) (by omega) | exact y_CP.z (by omega) (by omega)) (by first | exact y_CF.cg r79 (by omega) (by omega) | exact y_CF.cg r72 (by omega) (by omega) | exact y_CF.z (by omega) (by omega)) (by first | exact y_CLj.cg r77 (by omega) (by omega)) (by omega)
      exact sj_X12_copies_309T_J168 hfu r0 s80 c81 f82 a1 a2 a3 (by omega) (by omega) (by omega) (by first | exact y_CP.cg g83 (by omega) (by omega) | exact y_CP.z (by omega) (by omega)) (by first | exact y_CF.cg g84 (by omega) (by omega) | exact y_CF.z (by omega) (by omega)) (by first | exact y_CL.cg g85 (by omega) | exact y_CL.z (by omega)) (2147483647 - a3) (by omega) (fun s' v3 c' f' w3 z0 z1 z2 pg => ih s' v3 c' f' w3 z0 z1 z2 (by omega)) hk
theorem sf_X12_copies_309T {fu : Nat} (hfu : 8589934592 ≤ fu) (r0 : z_M) (c0 : z_CI r0) (a1 : Int) (a2 : Int) (b1 : 0 ≤ a1 ∧ a1 ≤ 13) (b2 : 0 ≤ a2 ∧ a2 ≤ 13) (p0 : a1 ≠ a2) : z_T (fX12_copies fu r0 309 a1 a2) (P_X12_copies_309T r0 a1 a2) := by
  refine T_of (fX12_copies.eq_1 ..) ?_
  refine sl_X12_copies_309T_L2 hfu r0 a1 a2 (by omega) (by omega) (by omega) (fun s1 c2 f3 g4 g5 g6 => ?_) fu r0 0 c0 z_Fr.rf (by omega) (by first | exact y_CP.z (by omega) (by omega)) (by first | exact y_CF.z (by omega) (by omega)) (by first | exact y_CL.z (by omega)) (by omega)
  refine sl_X12_copies_309T_L31 hfu r0 a1 a2 (by omega) (by omega) (by omega) (fun s7 c8 f9 g10 g11 g12 => ?_) fu s1 0 c2 f3 (by omega) (by first | exact y_CP.cg g4 (by omega) (by omega) | exact y_CP.z (by omega) (by omega)) (by first | exact y_CF.cg g5 (by omega) (by omega) | exact y_CF.z (by omega) (by omega)) (by first | exact y_CL.cg g6 (by omega) | exact y_CL.z (by omega)) (by omega)
  exact T_ret ⟨c8, f9, (by first | exact y_CP.cg g10 (by omega) (by omega) | exact y_CP.z (by omega) (by omega)), (by first | exact y_CF.cg g11 (by omega) (by omega) | exact y_CF.z (by omega) (by omega)), (by first | exact y_CL.cg g12 (by omega) | exact y_CL.z (by omega)), rfl⟩
abbrev P_X12_isOne_309T (r0 : z_M) (a1 : Int) : z_V → z_M → Prop := fun v s' => z_CI s' ∧ z_Fr R_X12_isOne_309 r0 s' ∧ (∃ x, v = vI x ∧ 0 ≤ x ∧ x ≤ 1 ∧ (x = y_one r0 a1))
theorem sj_X12_isOne_309T_J50 {fu : Nat} (hfu : 8589934592 ≤ fu) (r0 s : z_M) (c : z_CI s) (f : z_Fr R_X12_isOne_309 r0 s) (t0 : Int) (a1 : Int) (d0 : 0 ≤ t0 ∧ t0 ≤ 1) (p0 : t0 = y_one s a1) : z_T (fX12_isOne_J50 fu s t0) (P_X12_isOne_309T r0 a1) := by
  have qf := z_Fr.eq (fun a b h => h) f
  subst qf
  refine T_of (fX12_isOne_J50.eq_1 ..) ?_
  refine T_if1 (by unfold z_bl; omega) ?_
  exact T_ret ⟨c, f, ⟨t0, rfl, by omega, by omega, (by first | assumption | exact y_on_c (by omega) | exact y_on_a (by omega) (by assumption) (by omega) (by assumption) (by omega) | exact y_on_b (by omega) (by assumption) (by omega) (by assumption) (by omega) | exact y_on_d (by omega) (by assumption) (by omega) (by assumption) (by omega) | exact y_on_e (by omega) (by assumption) (by omega) (by assumption) (by omega))⟩⟩
theorem sj_X12_isOne_309T_J24 {fu : Nat} (hfu : 8589934592 ≤ fu) (r0 s : z_M) (c : z_CI s) (f : z_Fr R_X12_isOne_309 r0 s) (a1 : Int) (b1 : 1 ≤ a1 ∧ a1 ≤ 199) (p0 : s 346 a1 = 1 ∨ s 346 a1 = 2) : z_T (fX12_isOne_J24 fu s 309 a1) (P_X12_isOne_309T r0 a1) := by
  have qf := z_Fr.eq (fun a b h => h) f
  subst qf
  refine T_of (fX12_isOne_J24.eq_1 ..) ?_
  refine T_if1 (by decide +kernel) ?_
  refine T_let 345 (by decide +kernel) ?_
  refine T_if1 (z_ixl (n := 14) (by decide +kernel) (by omega) (by omega)) ?_
  refine T_let 346 (by decide +kernel) ?_
  refine T_if1 (z_ixl (n := 200) (by decide +kernel) (by omega) (by omega)) ?_
  refine T_leq (fun x1 e2 => ?_)
  have u3 := CI_b c (k := 346) (j := a1) (bdr_346 a1)
  refine T_if1 (by decide +kernel) ?_
  refine T_let 345 (by decide +kernel) ?_
  refine T_if1 (z_ixl (n := 14) (by decide +kernel) (by omega) (by omega)) ?_
  refine T_let 346 (by decide +kernel) ?_
  refine T_leq (fun x4 e5 => ?_)
  first | (have w6 := z_wx e5 (by omega)) | (have w6 := z_wr e5)
  refine T_if1 (z_ixl (n := 200) (by decide +kernel) (by omega) (by omega)) ?_
  refine T_leq (fun x7 e8 => ?_)
  have u9 := CI_b c (k := 346) (j := x4) (bdr_346 x4)
  refine T_ite (fun h10 => ?_) (fun h10 => ?_)
  · exact sj_X12_isOne_309T_J50 hfu r0 r0 c f 0 a1 (by omega) (by first | assumption | exact y_on_c (by omega) | exact y_on_a (by omega) (by assumption) (by omega) (by assumption) (by omega) | exact y_on_b (by omega) (by assumption) (by omega) (by assumption) (by omega) | exact y_on_d (by omega) (by assumption) (by omega) (by assumption) (by omega) | exact y_on_e (by omega) (by assumption) (by omega) (by assumption) (by omega))
  · exact sj_X12_isOne_309T_J50 hfu r0 r0 c f 1 a1 (by omega) (by first | assumption | exact y_on_c (by omega) | exact y_on_a (by omega) (by assumption) (by omega) (by assumption) (by omega) | exact y_on_b (by omega) (by assumption) (by omega) (by assumption) (by omega) | exact y_on_d (by omega) (by assumption) (by omega) (by assumption) (by omega) | exact y_on_e (by omega) (by assumption) (by omega) (by assumption) (by omega))
theorem sj_X12_isOne_309T_J90 {fu : Nat} (hfu : 8589934592 ≤ fu) (r0 s : z_M) (c : z_CI s) (f : z_Fr R_X12_isOne_309 r0 s) (t0 : Int) (a1 : Int) (d0 : 0 ≤ t0 ∧ t0 ≤ 1) (p0 : t0 = y_one s a1) : z_T (fX12_isOne_J90 fu s t0) (P_X12_isOne_309T r0 a1) := by
  have qf := z_Fr.eq (fun a b h => h) f
  subst qf
  refine T_of (fX12_isOne_J90.eq_1 ..) ?_
  refine T_if1 (by unfold z_bl; omega) ?_
  exact T_ret ⟨c, f, ⟨t0, rfl, by omega, by omega, (by first | assumption | exact y_on_c (by omega) | exact y_on_a (by omega) (by assumption) (by omega) (by assumption) (by omega) | exact y_on_b (by omega) (by assumption) (by omega) (by assumption) (by omega) | exact y_on_d (by omega) (by assumption) (by omega) (by assumption) (by omega) | exact y_on_e (by omega) (by assumption) (by omega) (by assumption) (by omega))⟩⟩
theorem sj_X12_isOne_309T_J89 {fu : Nat} (hfu : 8589934592 ≤ fu) (r0 s : z_M) (c : z_CI s) (f : z_Fr R_X12_isOne_309 r0 s) (a1 : Int) (p0 : 0 = y_one s a1) : z_T (fX12_isOne_J89 fu s) (P_X12_isOne_309T r0 a1) := by
  have qf := z_Fr.eq (fun a b h => h) f
  subst qf
  refine T_of (fX12_isOne_J89.eq_1 ..) ?_
  exact sj_X12_isOne_309T_J90 hfu r0 r0 c f 0 a1 (by omega) (by first | assumption | exact y_on_c (by omega) | exact y_on_a (by omega) (by assumption) (by omega) (by assumption) (by omega) | exact y_on_b (by omega) (by assumption) (by omega) (by assumption) (by omega) | exact y_on_d (by omega) (by assumption) (by omega) (by assumption) (by omega) | exact y_on_e (by omega) (by assumption) (by omega) (by assumption) (by omega))
theorem sf_X12_isOne_309T {fu : Nat} (hfu : 8589934592 ≤ fu) (r0 : z_M) (c0 : z_CI r0) (a1 : Int) (b1 : 1 ≤ a1 ∧ a1 ≤ 199) : z_T (fX12_isOne fu r0 309 a1) (P_X12_isOne_309T r0 a1) := by
  refine T_of (fX12_isOne.eq_1 ..) ?_
  refine T_if1 (by decide +kernel) ?_
  refine T_let 345 (by decide +kernel) ?_
  refine T_if1 (z_ixl (n := 14) (by decide +kernel) (by omega) (by omega)) ?_
  refine T_let 346 (by decide +kernel) ?_
  refine T_if1 (z_ixl (n := 200) (by decide +kernel) (by omega) (by omega)) ?_
  refine T_leq (fun x1 e2 => ?_)
  have u3 := CI_b c0 (k := 346) (j := a1) (bdr_346 a1)
  refine T_ite (fun h4 => ?_) (fun h4 => ?_)
  · exact sj_X12_isOne_309T_J24 hfu r0 r0 c0 z_Fr.rf a1 (by omega) (by omega)
  · refine T_if1 (by decide +kernel) ?_
    refine T_let 345 (by decide +kernel) ?_
    refine T_if1 (z_ixl (n := 14) (by decide +kernel) (by omega) (by omega)) ?_
    refine T_let 346 (by decide +kernel) ?_
    refine T_if1 (z_ixl (n := 200) (by decide +kernel) (by omega) (by omega)) ?_
    refine T_leq (fun x5 e6 => ?_)
    have q7 : x1 = x5 := e2.symm.trans e6
    subst q7
    refine T_ite (fun h8 => ?_) (fun h8 => ?_)
    · refine T_if1 (by decide +kernel) ?_
      refine T_let 345 (by decide +kernel) ?_
      refine T_if1 (z_ixl (n := 14) (by decide +kernel) (by omega) (by omega)) ?_
      refine T_let 346 (by decide +kernel) ?_
      refine T_if1 (z_ixl (n := 200) (by decide +kernel) (by omega) (by omega)) ?_
      refine T_leq (fun x9 e10 => ?_)
      have q11 : x1 = x9 := e2.symm.trans e10
      subst q11
      refine T_ite (fun h12 => ?_) (fun h12 => ?_)
      · exact sj_X12_isOne_309T_J89 hfu r0 r0 c0 z_Fr.rf a1 (by first | assumption | exact y_on_c (by omega) | exact y_on_a (by omega) (by assumption) (by omega) (by assumption) (by omega) | exact y_on_b (by omega) (by assumption) (by omega) (by assumption) (by omega) | exact y_on_d (by omega) (by assumption) (by omega) (by assumption) (by omega) | exact y_on_e (by omega) (by assumption) (by omega) (by assumption) (by omega))
      · refine T_if1 (by decide +kernel) ?_
        refine T_let 360 (by decide +kernel) ?_
        refine T_if1 (z_ixl (n := 14) (by decide +kernel) (by omega) (by omega)) ?_
        refine T_let 361 (by decide +kernel) ?_
        refine T_if1 (z_ixl (n := 200) (by decide +kernel) (by omega) (by omega)) ?_
        refine T_leq (fun x13 e14 => ?_)
        have u15 := CI_b c0 (k := 361) (j := a1) (bdr_361 a1)
        refine T_if1 (by decide +kernel) ?_
        refine T_let 360 (by decide +kernel) ?_
        refine T_if1 (z_ixl (n := 14) (by decide +kernel) (by omega) (by omega)) ?_
        refine T_let 361 (by decide +kernel) ?_
        refine T_leq (fun x16 e17 => ?_)
        first | (have w18 := z_wx e17 (by omega)) | (have w18 := z_wr e17)
        refine T_if1 (z_ixl (n := 200) (by decide +kernel) (by omega) (by omega)) ?_
        refine T_leq (fun x19 e20 => ?_)
        have u21 := CI_b c0 (k := 361) (j := x16) (bdr_361 x16)
        refine T_ite (fun h22 => ?_) (fun h22 => ?_)
        · exact sj_X12_isOne_309T_J89 hfu r0 r0 c0 z_Fr.rf a1 (by first | assumption | exact y_on_c (by omega) | exact y_on_a (by omega) (by assumption) (by omega) (by assumption) (by omega) | exact y_on_b (by omega) (by assumption) (by omega) (by assumption) (by omega) | exact y_on_d (by omega) (by assumption) (by omega) (by assumption) (by omega) | exact y_on_e (by omega) (by assumption) (by omega) (by assumption) (by omega))
        · exact sj_X12_isOne_309T_J90 hfu r0 r0 c0 z_Fr.rf 1 a1 (by omega) (by first | assumption | exact y_on_c (by omega) | exact y_on_a (by omega) (by assumption) (by omega) (by assumption) (by omega) | exact y_on_b (by omega) (by assumption) (by omega) (by assumption) (by omega) | exact y_on_d (by omega) (by assumption) (by omega) (by assumption) (by omega) | exact y_on_e (by omega) (by assumption) (by omega) (by assumption) (by omega))
    · exact sj_X12_isOne_309T_J24 hfu r0 r0 c0 z_Fr.rf a1 (by omega) (by omega)
abbrev P_X12_laysUnits_309T (r0 : z_M) : z_V → z_M → Prop := fun v s' => z_CI s' ∧ z_Fr R_X12_laysUnits_309 r0 s' ∧ (y_B s') ∧ (s' 309 36 = 0) ∧ (y_PU s') ∧ (v = vN)
theorem sj_X12_laysUnits_309T_J78 {fu : Nat} (hfu : 8589934592 ≤ fu) (r0 s : z_M) (c : z_CI s) (f : z_Fr R_X12_laysUnits_309 r0 s) (a1 : Int) (b1 : 0 ≤ a1 ∧ a1 ≤ 199) (p0 : y_Q s (s 309 20) a1) (p1 : 1 ≤ s 309 20) (p2 : s 309 20 ≤ a1 + 1) (p3 : a1 < s 316 0) (p4 : y_TA s) (p5 : y_PH s (s 309 20) a1) (M : Int) (pm : 2147483647 - a1 ≤ M) {r : z_M → Int → z_O} {k : z_M → z_O} (hr : ∀ (s' : z_M) (v1 : Int), z_CI s' → z_Fr R_X12_laysUnits_309 r0 s' → (0 ≤ v1 ∧ v1 ≤ 200) → (y_Q s' (s' 309 20) v1) → (s' 309 20 ≤ v1) → (v1 ≤ s' 316 0) → (y_TA s') → (y_PM s' (s' 309 20) v1) → (2147483647 - v1 < M) → z_T (r s' v1) (P_X12_laysUnits_309T r0)) (hk : ∀ (s' : z_M), z_CI s' → z_Fr R_X12_laysUnits_309 r0 s' → (y_Q s' (s' 309 20) (s' 316 0)) → (y_PM s' (s' 309 20) (s' 316 0)) → z_T (k s') (P_X12_laysUnits_309T r0)) : z_T (fX12_laysUnits_J78 fu s 309 a1 r k) (P_X12_laysUnits_309T r0) := by
  refine T_of (fX12_laysUnits_J78.eq_1 ..) ?_
  have u1 := CI_b c (k := 309) (j := 20) bd_309_20
  have u2 := CI_b c (k := 309) (j := 36) bd_309_36
  have u3 := CI_b c (k := 316) (j := 0) bd_316_0
  have t4 : s 316 0 = r0 316 0 := f 316 0 (by decide)
  refine T_if1 (by decide +kernel) ?_
  refine T_let 3222 (by decide +kernel) ?_
  refine T_if1 (by decide +kernel) ?_
  refine T_leq (fun x5 e6 => ?_)
  have u7 := CI_b c (k := 309) (j := 20) bd_309_20
  refine T_leq (fun x8 e9 => ?_)
  first | (have w10 := z_wx e9 (by omega)) | (have w10 := z_wr e9)
  refine T_if1 (z_ixl (n := 200) (by decide +kernel) (by omega) (by omega)) ?_
  refine T_leq (fun x11 e12 => ?_)
  have u13 := CI_b c (k := 3222) (j := x8) (bdr_3222 x8)
  have n14 := y_Q.last p0 (u := x8) (by omega) (by omega)
  have n15 := CI_b c (k := 3221) (j := x8) (bdr_3221 x8)
  refine T_leq (fun x16 e17 => ?_)
  first | (have w18 := z_wx e17 (by omega)) | (have w18 := z_wr e17)
  refine T_if1 (z_ixl (n := 200) (by decide +kernel) (by omega) (by omega)) ?_
  refine T_upg c (bdr_3222 x8) (by omega) (fun s19 c20 g22 g23 e24 => ?_)
  have f21 := z_Fr.up (R := R_X12_laysUnits_309) f g22 (fun _ => (Or.inl (⟨by decide, by decide⟩)))
  have t25 : s19 309 20 = x5 := (g22 309 20 (by decide)).trans e6
  have t26 : s19 309 36 = s 309 36 := g22 309 36 (by decide)
  have t27 : s19 316 0 = s 316 0 := g22 316 0 (by decide)
  have r28 := y_TA.fr p4 (fun a b h => g22 a b (by omega)) (fun a b h => g22 a b (by omega)) (fun a b h => g22 a b (by omega))
  have r29 := y_Q.inc p0 (by omega) g22 g23 e24 (by omega) (by omega) rfl
  have r30 := y_PI.mk p5 g22 g23 e24 (by omega) (by omega)
  refine T_if1 (by decide +kernel) ?_
  refine T_let 3223 (by decide +kernel) ?_
  refine T_if1 (by decide +kernel) ?_
  refine T_leq (fun x31 e32 => ?_)
  have q33 : x5 = x31 := t25.symm.trans e32
  subst q33
  refine T_leq (fun x34 e35 => ?_)
  have q36 : x8 = x34 := e9.symm.trans e35
  subst q36
  refine T_if1 (z_ixl (n := 200) (by decide +kernel) (by omega) (by omega)) ?_
  refine T_upg c20 (bdr_3223 a1) (by omega) (fun s37 c38 g40 g41 e42 => ?_)
  have f39 := z_Fr.up (R := R_X12_laysUnits_309) f21 g40 (fun _ => (Or.inl (⟨by decide, by decide⟩)))
  have t43 : s37 309 20 = x5 := (g40 309 20 (by decide)).trans t25
  have t44 : s37 309 36 = s 309 36 := (g40 309 36 (by decide)).trans t26
  have t45 : s37 316 0 = s 316 0 := (g40 316 0 (by decide)).trans t27
  have r46 := y_TA.fr r28 (fun a b h => g40 a b (by omega)) (fun a b h => g40 a b (by omega)) (fun a b h => g40 a b (by omega))
  have r47 := y_Q.fr r29 (fun b => g40 3220 b (by decide)) (fun b => g40 3221 b (by decide)) (fun b => g40 3222 b (by decide)) (fun b => g40 361 b (by decide))
  have r48 := y_PM.mk r30 g40 g41 e42 (by omega) (by omega) rfl
  clear t25
  clear t26
  clear t27
  refine T_leq (fun x49 e50 => ?_)
  first | (have w51 := z_wx e50 (by omega)) | (have w51 := z_wr e50)
  exact hr s37 x49 c38 f39 (by omega) (by first | exact y_Q.cg r47 (by omega) (by omega) | exact y_Q.z (by omega) (by omega)) (by omega) (by omega) r46 (by first | exact y_PM.cg r48 (by omega) (by omega) | exact y_PM.z (by omega) (by omega)) (by omega)
set_option maxHeartbeats 4000000 in
theorem sj_X12_laysUnits_309T_J31 {fu : Nat} (hfu : 8589934592 ≤ fu) (r0 s : z_M) (c : z_CI s) (f : z_Fr R_X12_laysUnits_309 r0 s) (a1 : Int) (b1 : 0 ≤ a1 ∧ a1 ≤ 199) (p0 : y_Q s (s 309 20) a1) (p1 : s 309 20 ≤ a1) (p2 : a1 < s 316 0) (p3 : y_TA s) (p4 : y_PM s (s 309 20) a1) (p5 : y_O0 s a1) (M : Int) (pm : 2147483647 - a1 ≤ M) {r : z_M → Int → z_O} {k : z_M → z_O} (hr : ∀ (s' : z_M) (v1 : Int), z_CI s' → z_Fr R_X12_laysUnits_309 r0 s' → (0 ≤ v1 ∧ v1 ≤ 200) → (y_Q s' (s' 309 20) v1) → (s' 309 20 ≤ v1) → (v1 ≤ s' 316 0) → (y_TA s') → (y_PM s' (s' 309 20) v1) → (2147483647 - v1 < M) → z_T (r s' v1) (P_X12_laysUnits_309T r0)) (hk : ∀ (s' : z_M), z_CI s' → z_Fr R_X12_laysUnits_309 r0 s' → (y_Q s' (s' 309 20) (s' 316 0)) → (y_PM s' (s' 309 20) (s' 316 0)) → z_T (k s') (P_X12_laysUnits_309T r0)) : z_T (fX12_laysUnits_J31 fu s 309 a1 r k) (P_X12_laysUnits_309T r0) := by
  refine T_of (fX12_laysUnits_J31.eq_1 ..) ?_
  have u1 := CI_b c (k := 309) (j := 20) bd_309_20
  have u2 := CI_b c (k := 309) (j := 36) bd_309_36
  have u3 := CI_b c (k := 316) (j := 0) bd_316_0
  have t4 : s 316 0 = r0 316 0 := f 316 0 (by decide)
  refine T_if1 (by decide +kernel) ?_
  refine T_let 3220 (by decide +kernel) ?_
  refine T_if1 (by decide +kernel) ?_
  refine T_leq (fun x5 e6 => ?_)
  have u7 := CI_b c (k := 309) (j := 20) bd_309_20
  refine T_if1 (by decide +kernel) ?_
  refine T_let 345 (by decide +kernel) ?_
  refine T_if1 (z_ixl (n := 14) (by decide +kernel) (by omega) (by omega)) ?_
  refine T_let 346 (by decide +kernel) ?_
  refine T_if1 (z_ixl (n := 200) (by decide +kernel) (by omega) (by omega)) ?_
  refine T_leq (fun x8 e9 => ?_)
  have u10 := CI_b c (k := 346) (j := a1) (bdr_346 a1)
  refine T_if1 (z_ixl (n := 200) (by decide +kernel) (by omega) (by omega)) ?_
  refine T_upg c (bdr_3220 x5) (by omega) (fun s11 c12 g14 g15 e16 => ?_)
  have f13 := z_Fr.up (R := R_X12_laysUnits_309) f g14 (fun _ => (Or.inl (⟨by decide, by decide⟩)))
  have t17 : s11 309 20 = x5 := (g14 309 20 (by decide)).trans e6
  have t18 : s11 309 36 = s 309 36 := g14 309 36 (by decide)
  have t19 : s11 316 0 = s 316 0 := g14 316 0 (by decide)
  have r20 := y_TA.fr p3 (fun a b h => g14 a b (by omega)) (fun a b h => g14 a b (by omega)) (fun a b h => g14 a b (by omega))
  have r21 := y_O0.fr p5 (fun b => g14 346 b (by decide)) (fun b => g14 361 b (by decide))
  have t22 : s11 346 a1 = x8 := by first | exact (g14 346 a1 (by omega)).trans e9 | exact (g15 a1 (by omega)).trans e9
  have r23 := y_Q.ag p0 (fun b h => g15 b (by omega)) (fun b h => g14 3221 b (by omega)) (fun b h => g14 3222 b (by omega)) (fun b => g14 361 b (by decide))
  have r24 := y_PM.ag p4 (fun b => g14 346 b (by decide)) (fun b => g14 361 b (by decide)) (fun b h => g15 b (by omega)) (fun b h => g14 3221 b (by decide)) (fun b h => g14 3222 b (by decide)) (fun b _ => g14 3223 b (by decide))
  refine T_if1 (by decide +kernel) ?_
  refine T_let 3221 (by decide +kernel) ?_
  refine T_if1 (by decide +kernel) ?_
  refine T_leq (fun x25 e26 => ?_)
  have q27 : x5 = x25 := t17.symm.trans e26
  subst q27
  refine T_if1 (z_ixl (n := 200) (by decide +kernel) (by omega) (by omega)) ?_
  refine T_upg c12 (bdr_3221 x5) (by omega) (fun s28 c29 g31 g32 e33 => ?_)
  have f30 := z_Fr.up (R := R_X12_laysUnits_309) f13 g31 (fun _ => (Or.inl (⟨by decide, by decide⟩)))
  have t34 : s28 309 20 = x5 := (g31 309 20 (by decide)).trans t17
  have t35 : s28 309 36 = s 309 36 := (g31 309 36 (by decide)).trans t18
  have t36 : s28 316 0 = s 316 0 := (g31 316 0 (by decide)).trans t19
  have r37 := y_TA.fr r20 (fun a b h => g31 a b (by omega)) (fun a b h => g31 a b (by omega)) (fun a b h => g31 a b (by omega))
  have r38 := y_O0.fr r21 (fun b => g31 346 b (by decide)) (fun b => g31 361 b (by decide))
  have t39 : s28 346 a1 = x8 := by first | exact (g31 346 a1 (by omega)).trans t22 | exact (g32 a1 (by omega)).trans t22
  have t40 : s28 3220 x5 = x8 := by first | exact (g31 3220 x5 (by omega)).trans e16 | exact (g32 x5 (by omega)).trans e16
  have r41 := y_Q.ag r23 (fun b h => g31 3220 b (by omega)) (fun b h => g32 b (by omega)) (fun b h => g31 3222 b (by omega)) (fun b => g31 361 b (by decide))
  have r42 := y_PM.ag r24 (fun b => g31 346 b (by decide)) (fun b => g31 361 b (by decide)) (fun b h => g31 3220 b (by decide)) (fun b h => g32 b (by omega)) (fun b h => g31 3222 b (by decide)) (fun b _ => g31 3223 b (by decide))
  clear t17
  clear t18
  clear t19
  clear t22
  refine T_if1 (by decide +kernel) ?_
  refine T_let 3222 (by decide +kernel) ?_
  refine T_if1 (by decide +kernel) ?_
  refine T_leq (fun x43 e44 => ?_)
  have q45 : x5 = x43 := t34.symm.trans e44
  subst q45
  refine T_if1 (z_ixl (n := 200) (by decide +kernel) (by omega) (by omega)) ?_
  refine T_upg c29 (bdr_3222 x5) (by omega) (fun s46 c47 g49 g50 e51 => ?_)
  have f48 := z_Fr.up (R := R_X12_laysUnits_309) f30 g49 (fun _ => (Or.inl (⟨by decide, by decide⟩)))
  have t52 : s46 309 20 = x5 := (g49 309 20 (by decide)).trans t34
  have t53 : s46 309 36 = s 309 36 := (g49 309 36 (by decide)).trans t35
  have t54 : s46 316 0 = s 316 0 := (g49 316 0 (by decide)).trans t36
  have r55 := y_TA.fr r37 (fun a b h => g49 a b (by omega)) (fun a b h => g49 a b (by omega)) (fun a b h => g49 a b (by omega))
  have r56 := y_O0.fr r38 (fun b => g49 346 b (by decide)) (fun b => g49 361 b (by decide))
  have t57 : s46 346 a1 = x8 := by first | exact (g49 346 a1 (by omega)).trans t39 | exact (g50 a1 (by omega)).trans t39
  have t58 : s46 3220 x5 = x8 := by first | exact (g49 3220 x5 (by omega)).trans t40 | exact (g50 x5 (by omega)).trans t40
  have t59 : s46 3221 x5 = a1 := by first | exact (g49 3221 x5 (by omega)).trans e33 | exact (g50 x5 (by omega)).trans e33
  have n60 := y_TA.at0 r55 (i := a1) (by omega) (by omega)
  have r61 := y_Q.ag r41 (fun b h => g49 3220 b (by omega)) (fun b h => g49 3221 b (by omega)) (fun b h => g50 b (by omega)) (fun b => g49 361 b (by decide))
  have r62 := y_Q.new (n := x5) (i := a1) (y_Q.cg r61 (by omega) (by omega)) (by omega) (by omega) (by omega) (by omega) rfl
  have r63 := y_PM.ag r42 (fun b => g49 346 b (by decide)) (fun b => g49 361 b (by decide)) (fun b h => g49 3220 b (by decide)) (fun b h => g49 3221 b (by decide)) (fun b h => g50 b (by omega)) (fun b _ => g49 3223 b (by decide))
  clear t34
  clear t35
  clear t36
  clear t39
  clear t40
  refine T_if1 (by decide +kernel) ?_
  refine T_leq (fun x64 e65 => ?_)
  have q66 : x5 = x64 := t52.symm.trans e65
  subst q66
  refine T_leq (fun x67 e68 => ?_)
  first | (have w69 := z_wx e68 (by omega)) | (have w69 := z_wr e68)
  refine T_if1 (by decide +kernel) ?_
  refine T_upg c47 bd_309_20 (by omega) (fun s70 c71 g73 g74 e75 => ?_)
  have f72 := z_Fr.upf (R := R_X12_laysUnits_309) f48 g73 g74 (Or.inr (⟨rfl, by decide⟩))
  have t76 : s70 309 36 = s 309 36 := (g74 36 (by decide)).trans t53
  have t77 : s70 316 0 = s 316 0 := (g73 316 0 (by decide)).trans t54
  have u78 := CI_b c71 (k := 309) (j := 20) bd_309_20
  have r79 := y_TA.fr r55 (fun a b h => g73 a b (by omega)) (fun a b h => g73 a b (by omega)) (fun a b h => g73 a b (by omega))
  have r80 := y_O0.fr r56 (fun b => g73 346 b (by decide)) (fun b => g73 361 b (by decide))
  have r81 := y_Q.fr r61 (fun b => g73 3220 b (by decide)) (fun b => g73 3221 b (by decide)) (fun b => g73 3222 b (by decide)) (fun b => g73 361 b (by decide))
  have r82 := y_Q.fr r62 (fun b => g73 3220 b (by decide)) (fun b => g73 3221 b (by decide)) (fun b => g73 3222 b (by decide)) (fun b => g73 361 b (by decide))
  have r83 := y_PM.fr r63 (fun b => g73 346 b (by decide)) (fun b => g73 361 b (by decide)) (fun b => g73 3220 b (by decide)) (fun b => g73 3221 b (by decide)) (fun b => g73 3222 b (by decide)) (fun b => g73 3223 b (by decide))
  have t84 : s70 346 a1 = x8 := by first | exact (g73 346 a1 (by omega)).trans t57 | exact (g74 a1 (by omega)).trans t57
  have t85 : s70 3220 x5 = x8 := by first | exact (g73 3220 x5 (by omega)).trans t58 | exact (g74 x5 (by omega)).trans t58
  have t86 : s70 3221 x5 = a1 := by first | exact (g73 3221 x5 (by omega)).trans t59 | exact (g74 x5 (by omega)).trans t59
  have r87 : y_PH s70 x67 a1 := y_PH.n (n := x5) (y_PM.cg r63 (by omega) rfl) (by omega) (by omega) (by omega) (by omega) r56 (by omega) g73
  clear t53
  clear t54
  clear t57
  clear t58
  clear t59
  exact sj_X12_laysUnits_309T_J78 hfu r0 s70 c71 f72 a1 (by omega) (by first | exact y_Q.cg r82 (by omega) (by omega) | exact y_Q.cg r81 (by omega) (by omega) | exact y_Q.z (by omega) (by omega)) (by omega) (by omega) (by omega) r79 (by first | exact y_PH.cg r87 (by omega) (by omega) | exact y_PH.o r83 (by omega) (by omega) (by omega)) M (by omega) (fun s' v1 c' f' w1 z0 z1 z2 z3 z4 pg => hr s' v1 c' f' w1 z0 z1 z2 z3 z4 (by omega)) hk
theorem sl_X12_laysUnits_309T_L7 {fu : Nat} (hfu : 8589934592 ≤ fu) (r0 : z_M) {k : z_M → z_O} (hk : ∀ (s' : z_M), z_CI s' → z_Fr R_X12_laysUnits_309 r0 s' → (y_Q s' (s' 309 20) (s' 316 0)) → (y_PM s' (s' 309 20) (s' 316 0)) → z_T (k s') (P_X12_laysUnits_309T r0)) : ∀ (F : Nat) (s : z_M) (a1 : Int), z_CI s → z_Fr R_X12_laysUnits_309 r0 s → (0 ≤ a1 ∧ a1 ≤ 200) → (y_Q s (s 309 20) a1) → (s 309 20 ≤ a1) → (a1 ≤ s 316 0) → (y_TA s) → (y_PM s (s 309 20) a1) → (2147483647 - a1 < (F : Int)) → z_T (fX12_laysUnits_L7 fu 309 F s a1 k) (P_X12_laysUnits_309T r0) := by
  intro F
  induction F with
  | zero =>
    intro s a1 c f b1 i0 i1 i2 i3 i4 hm
    have u22 := CI_b c (k := 309) (j := 20) bd_309_20
    have u23 := CI_b c (k := 309) (j := 36) bd_309_36
    have u24 := CI_b c (k := 316) (j := 0) bd_316_0
    exfalso; omega
  | succ F ih =>
    intro s a1 c f b1 i0 i1 i2 i3 i4 hm
    refine T_of (fX12_laysUnits_L7.eq_2 ..) ?_
    have u1 := CI_b c (k := 309) (j := 20) bd_309_20
    have u2 := CI_b c (k := 309) (j := 36) bd_309_36
    have u3 := CI_b c (k := 316) (j := 0) bd_316_0
    have t4 : s 316 0 = r0 316 0 := f 316 0 (by decide)
    refine T_if1 (by decide +kernel) ?_
    refine T_let 315 (by decide +kernel) ?_
    refine T_if1 (z_ixl (n := 14) (by decide +kernel) (by omega) (by omega)) ?_
    refine T_let 316 (by decide +kernel) ?_
    refine T_if1 (z_ixl (n := 3) (by decide +kernel) (by omega) (by omega)) ?_
    refine T_leq (fun x5 e6 => ?_)
    have u7 := CI_b c (k := 316) (j := 0) bd_316_0
    refine T_ite (fun h8 => ?_) (fun h8 => ?_)
    · exact hk s c f (by first | exact y_Q.cg i0 (by omega) (by omega) | exact y_Q.z (by omega) (by omega)) (by first | exact y_PM.cg i4 (by omega) (by omega) | exact y_PM.z (by omega) (by omega))
    · refine T_ite (fun h9 => ?_) (fun h9 => ?_)
      · exact sj_X12_laysUnits_309T_J31 hfu r0 s c f a1 (by omega) (by first | exact y_Q.cg i0 (by omega) (by omega) | exact y_Q.z (by omega) (by omega)) (by omega) (by omega) i3 (by first | exact y_PM.cg i4 (by omega) (by omega) | exact y_PM.z (by omega) (by omega)) (by first | exact Or.inl (by omega) | exact Or.inr (by omega)) (2147483647 - a1) (by omega) (fun s' v1 c' f' w1 z0 z1 z2 z3 z4 pg => ih s' v1 c' f' w1 z0 z1 z2 z3 z4 (by omega)) hk
      · refine T_if1 (by decide +kernel) ?_
        refine T_useI (sf_X12_isOne_309T hfu s c a1 (by omega)) (fun v15 s10 hq => ?_)
        obtain ⟨c11, f12, ⟨x14, rfl, b16, b17, o18⟩⟩ := hq
        refine T_vI ?_
        have q19 := z_Fr.eq (fun a b h => h) f12
        subst q19
        have n20 := y_Q.n0 i0
        refine T_ite (fun h21 => ?_) (fun h21 => ?_)
        · exact sj_X12_laysUnits_309T_J78 hfu r0 s c f a1 (by omega) (by first | exact y_Q.cg i0 (by omega) (by omega) | exact y_Q.z (by omega) (by omega)) (by omega) (by omega) (by omega) i3 (by first | exact y_PH.o i4 (by omega) (by omega) (by omega)) (2147483647 - a1) (by omega) (fun s' v1 c' f' w1 z0 z1 z2 z3 z4 pg => ih s' v1 c' f' w1 z0 z1 z2 z3 z4 (by omega)) hk
        · exact sj_X12_laysUnits_309T_J31 hfu r0 s c f a1 (by omega) (by first | exact y_Q.cg i0 (by omega) (by omega) | exact y_Q.z (by omega) (by omega)) (by omega) (by omega) i3 (by first | exact y_PM.cg i4 (by omega) (by omega) | exact y_PM.z (by omega) (by omega)) (by first | exact Or.inl (by omega) | exact Or.inr (by omega)) (2147483647 - a1) (by omega) (fun s' v1 c' f' w1 z0 z1 z2 z3 z4 pg => ih s' v1 c' f' w1 z0 z1 z2 z3 z4 (by omega)) hk
theorem sf_X12_laysUnits_309T {fu : Nat} (hfu : 8589934592 ≤ fu) (r0 : z_M) (c0 : z_CI r0) (p0 : y_TA r0) : z_T (fX12_laysUnits fu r0 309) (P_X12_laysUnits_309T r0) := by
  refine T_of (fX12_laysUnits.eq_1 ..) ?_
  have u1 := CI_b c0 (k := 309) (j := 20) bd_309_20
  have u2 := CI_b c0 (k := 309) (j := 36) bd_309_36
  have u3 := CI_b c0 (k := 316) (j := 0) bd_316_0
  refine T_if1 (by decide +kernel) ?_
  refine T_upg c0 bd_309_20 (by omega) (fun s4 c5 g7 g8 e9 => ?_)
  have f6 := z_Fr.upf (R := R_X12_laysUnits_309) z_Fr.rf g7 g8 (Or.inr (⟨rfl, by decide⟩))
  have t10 : s4 309 36 = r0 309 36 := g8 36 (by decide)
  have t11 : s4 316 0 = r0 316 0 := g7 316 0 (by decide)
  have u12 := CI_b c5 (k := 309) (j := 20) bd_309_20
  have r13 := y_TA.fr p0 (fun a b h => g7 a b (by omega)) (fun a b h => g7 a b (by omega)) (fun a b h => g7 a b (by omega))
  refine sl_X12_laysUnits_309T_L7 hfu r0 (fun s14 c15 f16 g17 g18 => ?_) fu s4 0 c5 f6 (by omega) (by first | exact y_Q.z (by omega) (by omega)) (by omega) (by omega) r13 (by first | exact y_PM.z (by omega) (by omega)) (by omega)
  have u19 := CI_b c15 (k := 309) (j := 20) bd_309_20
  have u20 := CI_b c15 (k := 309) (j := 36) bd_309_36
  have u21 := CI_b c15 (k := 316) (j := 0) bd_316_0
  have t22 : s14 316 0 = r0 316 0 := f16 316 0 (by decide)
  refine T_if1 ⟨(by decide +kernel), by unfold z_bl; omega⟩ ?_
  refine T_upg c15 bd_309_36 (by omega) (fun s23 c24 g26 g27 e28 => ?_)
  have f25 := z_Fr.upf (R := R_X12_laysUnits_309) f16 g26 g27 (Or.inr (⟨rfl, by decide⟩))
  have t29 : s23 309 20 = s14 309 20 := g27 20 (by decide)
  have t30 : s23 316 0 = s14 316 0 := g26 316 0 (by decide)
  have u31 := CI_b c24 (k := 309) (j := 36) bd_309_36
  have r32 := y_Q.fr g17 (fun b => g26 3220 b (by decide)) (fun b => g26 3221 b (by decide)) (fun b => g26 3222 b (by decide)) (fun b => g26 361 b (by decide))
  have r33 := y_PM.fr g18 (fun b => g26 346 b (by decide)) (fun b => g26 361 b (by decide)) (fun b => g26 3220 b (by decide)) (fun b => g26 3221 b (by decide)) (fun b => g26 3222 b (by decide)) (fun b => g26 3223 b (by decide))
  exact T_ret ⟨c24, f25, (by first | exact y_B.of r32 (by omega) (by omega)), (by omega), (by first | exact y_PU.of r33 (by omega) (by omega)), rfl⟩
abbrev P_X12_stands_309T (r0 : z_M) : z_V → z_M → Prop := fun v s' => z_CI s' ∧ z_Fr R_X12_stands_309 r0 s' ∧ (y_TA s') ∧ (y_DD s') ∧ (y_B s') ∧ (s' 309 36 = 0) ∧ (y_ST r0 s') ∧ (y_PU s') ∧ (v = vN)
theorem nz_X12_laysUnits_309__316_328 (a b : Int) (h : 316 ≤ a ∧ a ≤ 328) : ¬ R_X12_laysUnits_309 a b := by
  unfold R_X12_laysUnits_309; omega
theorem nz_X12_laysUnits_309__346_358 (a b : Int) (h : 346 ≤ a ∧ a ≤ 358) : ¬ R_X12_laysUnits_309 a b := by
  unfold R_X12_laysUnits_309; omega
theorem nz_X12_laysUnits_309__361_373 (a b : Int) (h : 361 ≤ a ∧ a ≤ 373) : ¬ R_X12_laysUnits_309 a b := by
  unfold R_X12_laysUnits_309; omega
theorem nz_X12_laysUnits_309__316_329 (a b : Int) (h : 316 ≤ a ∧ a ≤ 329) : ¬ R_X12_laysUnits_309 a b := by
  unfold R_X12_laysUnits_309; omega
theorem nz_X12_laysUnits_309__331_344 (a b : Int) (h : 331 ≤ a ∧ a ≤ 344) : ¬ R_X12_laysUnits_309 a b := by
  unfold R_X12_laysUnits_309; omega
theorem nz_X12_laysUnits_309__346_359 (a b : Int) (h : 346 ≤ a ∧ a ≤ 359) : ¬ R_X12_laysUnits_309 a b := by
  unfold R_X12_laysUnits_309; omega
theorem nz_X12_laysUnits_309__361_374 (a b : Int) (h : 361 ≤ a ∧ a ≤ 374) : ¬ R_X12_laysUnits_309 a b := by
  unfold R_X12_laysUnits_309; omega
theorem nz_X12_laysUnits_309__376_389 (a b : Int) (h : 376 ≤ a ∧ a ≤ 389) : ¬ R_X12_laysUnits_309 a b := by
  unfold R_X12_laysUnits_309; omega
theorem nz_X12_laysUnits_309__391_404 (a b : Int) (h : 391 ≤ a ∧ a ≤ 404) : ¬ R_X12_laysUnits_309 a b := by
  unfold R_X12_laysUnits_309; omega
theorem nz_X12_laysUnits_309__407_3219 (a b : Int) (h : 407 ≤ a ∧ a ≤ 3219) : ¬ R_X12_laysUnits_309 a b := by
  unfold R_X12_laysUnits_309; omega
theorem sj_X12_stands_309T_J41 {fu : Nat} (hfu : 8589934592 ≤ fu) (r0 s : z_M) (c : z_CI s) (f : z_Fr R_X12_stands_309 r0 s) (p0 : y_TA s) (p1 : y_DD s) (p2 : s 309 19 ≤ 11) (p3 : y_SJ r0 s) : z_T (fX12_stands_J41 fu s 309) (P_X12_stands_309T r0) := by
  refine T_of (fX12_stands_J41.eq_1 ..) ?_
  have u1 := CI_b c (k := 309) (j := 19) bd_309_19
  have u2 := CI_b c (k := 309) (j := 20) bd_309_20
  have u3 := CI_b c (k := 309) (j := 36) bd_309_36
  have u4 := CI_b c (k := 316) (j := 0) bd_316_0
  have u5 := CI_b c (k := 329) (j := 0) bd_329_0
  have u6 := CI_b c (k := 329) (j := 1) bd_329_1
  refine T_if1 (by decide +kernel) ?_
  refine T_leq (fun x7 e8 => ?_)
  have u9 := CI_b c (k := 309) (j := 19) bd_309_19
  refine T_leq (fun x10 e11 => ?_)
  first | (have w12 := z_wx e11 (by omega)) | (have w12 := z_wr e11)
  refine T_if1 (by decide +kernel) ?_
  refine T_upg c bd_309_19 (by omega) (fun s13 c14 g16 g17 e18 => ?_)
  have f15 := z_Fr.upf (R := R_X12_stands_309) f g16 g17 (Or.inr (Or.inr (⟨rfl, by decide⟩)))
  have t19 : s13 309 20 = s 309 20 := g17 20 (by decide)
  have t20 : s13 309 36 = s 309 36 := g17 36 (by decide)
  have t21 : s13 316 0 = s 316 0 := g16 316 0 (by decide)
  have t22 : s13 329 0 = s 329 0 := g16 329 0 (by decide)
  have t23 : s13 329 1 = s 329 1 := g16 329 1 (by decide)
  have u24 := CI_b c14 (k := 309) (j := 19) bd_309_19
  have r25 := y_TA.fr p0 (fun a b h => g16 a b (by omega)) (fun a b h => g16 a b (by omega)) (fun a b h => g16 a b (by omega))
  have r26 := y_DD.fr p1 (g16 329 0 (by decide)) (g16 329 1 (by decide)) (fun b => g16 359 b (by decide)) (fun b => g16 374 b (by decide))
  have hSJ := p3
  have hb48 : x10 = s 309 19 + 1 := by omega
  have hr48 : 0 ≤ s 309 19 ∧ s 309 19 ≤ 11 := by omega
  have hk48 : ∀ u : Int, 0 ≤ u ∧ u ≤ 13 → y_RS2 s s13 u u := fun u q => ⟨g16 _ _ (by omega), g16 _ _ (by omega), g16 _ _ (by omega), fun b _ _ => ⟨g16 _ _ (by omega), g16 _ _ (by omega), g16 _ _ (by omega), g16 _ _ (by omega)⟩, y_RGL.fr q (fun a b h => g16 a b (by omega)) (fun a b h => g16 a b (by omega))⟩
  refine T_if1 (by decide +kernel) ?_
  refine T_leq (fun x27 e28 => ?_)
  have u29 := CI_b c14 (k := 309) (j := 19) bd_309_19
  refine T_if1 (by decide +kernel) ?_
  refine T_useN (sf_X12_copies_309T hfu s13 c14 0 x27 (by omega) (by omega) (by omega)) (fun v35 s30 hq => ?_)
  obtain ⟨c31, f32, o36, o37, o38, rfl⟩ := hq
  refine T_vN ?_
  have f33 := z_Fr.tr (R := R_X12_stands_309) f15 f32 rs_X12_copies_309__X12_stands_309
  have t41 : s30 309 19 = x27 := (f32 309 19 (by decide)).trans e28
  have t42 : s30 309 20 = s 309 20 := (f32 309 20 (by decide)).trans t19
  have t43 : s30 309 36 = s 309 36 := (f32 309 36 (by decide)).trans t20
  have u44 := CI_b c31 (k := 316) (j := 0) bd_316_0
  have u45 := CI_b c31 (k := 329) (j := 0) bd_329_0
  have u46 := CI_b c31 (k := 329) (j := 1) bd_329_1
  have r47 := y_CP.TA o36 c14 (by omega) r25
  have r48 := y_CP.DDk o36 (by omega) r26
  have hCF57 := o37
  have hCL57 := o38
  clear t19
  clear t20
  refine T_if1 (by decide +kernel) ?_
  refine T_useN (sf_X12_copies_309T hfu s30 c31 13 0 (by omega) (by omega) (by omega)) (fun v54 s49 hq => ?_)
  obtain ⟨c50, f51, o55, o56, o57, rfl⟩ := hq
  refine T_vN ?_
  have f52 := z_Fr.tr (R := R_X12_stands_309) f33 f51 rs_X12_copies_309__X12_stands_309
  have t60 : s49 309 19 = x27 := (f51 309 19 (by decide)).trans t41
  have t61 : s49 309 20 = s 309 20 := (f51 309 20 (by decide)).trans t42
  have t62 : s49 309 36 = s 309 36 := (f51 309 36 (by decide)).trans t43
  have u63 := CI_b c50 (k := 316) (j := 0) bd_316_0
  have u64 := CI_b c50 (k := 329) (j := 0) bd_329_0
  have u65 := CI_b c50 (k := 329) (j := 1) bd_329_1
  have r66 := y_CP.TAd o55 c31 r47 r48
  have r67 := y_CP.DDk o55 (by omega) r48
  have r68 : y_ST r0 s49 := y_ST.mk hSJ hk48 (by omega) hr48 hCF57 hCL57 o56 o57 (by omega)
  clear t41
  clear t42
  clear t43
  refine T_if1 (by decide +kernel) ?_
  refine T_useN (sf_X12_laysUnits_309T hfu s49 c50 r66) (fun v74 s69 hq => ?_)
  obtain ⟨c70, f71, o75, o76, o77, rfl⟩ := hq
  refine T_vN ?_
  have f72 := z_Fr.tr (R := R_X12_stands_309) f52 f71 rs_X12_laysUnits_309__X12_stands_309
  have t80 : s69 309 19 = x27 := (f71 309 19 (by decide)).trans t60
  have t81 : s69 316 0 = s49 316 0 := f71 316 0 (by decide)
  have t82 : s69 329 0 = s49 329 0 := f71 329 0 (by decide)
  have t83 : s69 329 1 = s49 329 1 := f71 329 1 (by decide)
  have u84 := CI_b c70 (k := 309) (j := 20) bd_309_20
  have u85 := CI_b c70 (k := 309) (j := 36) bd_309_36
  have r86 := y_TA.fr r66 (fun a b h => f71 a b (nz_X12_laysUnits_309__316_328 a b h)) (fun a b h => f71 a b (nz_X12_laysUnits_309__346_358 a b h)) (fun a b h => f71 a b (nz_X12_laysUnits_309__361_373 a b h))
  have r87 := y_DD.fr r67 (f71 329 0 (by decide)) (f71 329 1 (by decide)) (fun b => f71 359 b (nr_X12_laysUnits_309__359 b)) (fun b => f71 374 b (nr_X12_laysUnits_309__374 b))
  have r88 := y_ST.fr r68 (f71 309 19 (by decide)) (fun a b h => f71 a b (nz_X12_laysUnits_309__316_329 a b h)) (fun a b h => f71 a b (nz_X12_laysUnits_309__331_344 a b h)) (fun a b h => f71 a b (nz_X12_laysUnits_309__346_359 a b h)) (fun a b h => f71 a b (nz_X12_laysUnits_309__361_374 a b h)) (fun a b h => f71 a b (nz_X12_laysUnits_309__376_389 a b h)) (fun a b h => f71 a b (nz_X12_laysUnits_309__391_404 a b h)) (fun a b h => f71 a b (nz_X12_laysUnits_309__407_3219 a b h))
  clear t60
  exact T_ret ⟨c70, f72, r86, (by first | exact r87 | exact y_DD.z (by omega) (by omega)), o75, (by omega), r88, o77, rfl⟩
theorem sl_X12_stands_309T_L11 {fu : Nat} (hfu : 8589934592 ≤ fu) (r0 : z_M) {k : z_M → z_O} (hk : ∀ (s' : z_M), z_CI s' → z_Fr R_X12_stands_309 r0 s' → (y_TA s') → (y_DD s') → (s' 309 19 = 12) → (y_SH r0 s' 13) → (s' 309 19 = r0 309 19) → z_T (k s') (P_X12_stands_309T r0)) : ∀ (F : Nat) (s : z_M) (a1 : Int), z_CI s → z_Fr R_X12_stands_309 r0 s → (2 ≤ a1 ∧ a1 ≤ 13) → (y_TA s) → (y_DD s) → (s 309 19 = 12) → (y_SH r0 s a1) → (s 309 19 = r0 309 19) → (2147483647 - a1 < (F : Int)) → z_T (fX12_stands_L11 fu 309 F s a1 k) (P_X12_stands_309T r0) := by
  intro F
  induction F with
  | zero =>
    intro s a1 c f b1 i0 i1 i2 i3 i4 hm
    have u34 := CI_b c (k := 309) (j := 19) bd_309_19
    have u35 := CI_b c (k := 309) (j := 20) bd_309_20
    have u36 := CI_b c (k := 309) (j := 36) bd_309_36
    have u37 := CI_b c (k := 316) (j := 0) bd_316_0
    have u38 := CI_b c (k := 329) (j := 0) bd_329_0
    have u39 := CI_b c (k := 329) (j := 1) bd_329_1
    exfalso; omega
  | succ F ih =>
    intro s a1 c f b1 i0 i1 i2 i3 i4 hm
    refine T_of (fX12_stands_L11.eq_2 ..) ?_
    have u1 := CI_b c (k := 309) (j := 19) bd_309_19
    have u2 := CI_b c (k := 309) (j := 20) bd_309_20
    have u3 := CI_b c (k := 309) (j := 36) bd_309_36
    have u4 := CI_b c (k := 316) (j := 0) bd_316_0
    have u5 := CI_b c (k := 329) (j := 0) bd_329_0
    have u6 := CI_b c (k := 329) (j := 1) bd_329_1
    refine T_ite (fun h7 => ?_) (fun h7 => ?_)
    · exact hk s c f i0 (by first | exact i1 | exact y_DD.z (by omega) (by omega)) (by omega) (by first | exact y_SH.cg i3 (by omega) | exact y_SH.z (by omega)) (by omega)
    · refine T_leq (fun x8 e9 => ?_)
      first | (have w10 := z_wx e9 (by omega)) | (have w10 := z_wr e9)
      refine T_if1 (by decide +kernel) ?_
      refine T_useN (sf_X12_copies_309T hfu s c a1 x8 (by omega) (by omega) (by omega)) (fun v16 s11 hq => ?_)
      obtain ⟨c12, f13, o17, o18, o19, rfl⟩ := hq
      refine T_vN ?_
      have f14 := z_Fr.tr (R := R_X12_stands_309) f f13 rs_X12_copies_309__X12_stands_309
      have t22 : s11 309 19 = s 309 19 := f13 309 19 (by decide)
      have t23 : s11 309 20 = s 309 20 := f13 309 20 (by decide)
      have t24 : s11 309 36 = s 309 36 := f13 309 36 (by decide)
      have u25 := CI_b c12 (k := 316) (j := 0) bd_316_0
      have u26 := CI_b c12 (k := 329) (j := 0) bd_329_0
      have u27 := CI_b c12 (k := 329) (j := 1) bd_329_1
      have r28 := y_CP.TA o17 c (by omega) i0
      have r29 := y_CP.DDk o17 (by omega) i1
      have r30 : y_SH r0 s11 (a1 + 1) := y_SH.nx i3 o18 o19 (by omega) (by omega)
      refine T_leq (fun x31 e32 => ?_)
      first | (have w33 := z_wx e32 (by omega)) | (have w33 := z_wr e32)
      exact ih s11 x31 c12 f14 (by omega) r28 (by first | exact r29 | exact y_DD.z (by omega) (by omega)) (by omega) (by first | exact y_SH.cg r30 (by omega) | exact y_SH.z (by omega)) (by omega) (by omega)
theorem sf_X12_stands_309T {fu : Nat} (hfu : 8589934592 ≤ fu) (r0 : z_M) (c0 : z_CI r0) (p0 : y_TA r0) (p1 : y_DD r0) : z_T (fX12_stands fu r0 309) (P_X12_stands_309T r0) := by
  refine T_of (fX12_stands.eq_1 ..) ?_
  have u1 := CI_b c0 (k := 309) (j := 19) bd_309_19
  have u2 := CI_b c0 (k := 309) (j := 20) bd_309_20
  have u3 := CI_b c0 (k := 309) (j := 36) bd_309_36
  have u4 := CI_b c0 (k := 316) (j := 0) bd_316_0
  have u5 := CI_b c0 (k := 329) (j := 0) bd_329_0
  have u6 := CI_b c0 (k := 329) (j := 1) bd_329_1
  refine T_if1 (by decide +kernel) ?_
  refine T_leq (fun x7 e8 => ?_)
  have u9 := CI_b c0 (k := 309) (j := 19) bd_309_19
  refine T_ite (fun h10 => ?_) (fun h10 => ?_)
  · exact sj_X12_stands_309T_J41 hfu r0 r0 c0 z_Fr.rf p0 (by first | exact p1 | exact y_DD.z (by omega) (by omega)) (by omega) (by first | exact y_SJ.z (by omega))
  · refine sl_X12_stands_309T_L11 hfu r0 (fun s11 c12 f13 g14 g15 g16 g17 g18 => ?_) fu r0 2 c0 z_Fr.rf (by omega) p0 (by first | exact p1 | exact y_DD.z (by omega) (by omega)) (by omega) (by first | exact y_SH.z (by omega)) (by omega) (by omega)
    have u19 := CI_b c12 (k := 309) (j := 19) bd_309_19
    have u20 := CI_b c12 (k := 309) (j := 20) bd_309_20
    have u21 := CI_b c12 (k := 309) (j := 36) bd_309_36
    have u22 := CI_b c12 (k := 316) (j := 0) bd_316_0
    have u23 := CI_b c12 (k := 329) (j := 0) bd_329_0
    have u24 := CI_b c12 (k := 329) (j := 1) bd_329_1
    refine T_if1 (by decide +kernel) ?_
    refine T_leq (fun x25 e26 => ?_)
    have u27 := CI_b c12 (k := 309) (j := 19) bd_309_19
    refine T_leq (fun x28 e29 => ?_)
    first | (have w30 := z_wx e29 (by omega)) | (have w30 := z_wr e29)
    refine T_if1 (by decide +kernel) ?_
    refine T_upg c12 bd_309_19 (by omega) (fun s31 c32 g34 g35 e36 => ?_)
    have f33 := z_Fr.upf (R := R_X12_stands_309) f13 g34 g35 (Or.inr (Or.inr (⟨rfl, by decide⟩)))
    have t37 : s31 309 20 = s11 309 20 := g35 20 (by decide)
    have t38 : s31 309 36 = s11 309 36 := g35 36 (by decide)
    have t39 : s31 316 0 = s11 316 0 := g34 316 0 (by decide)
    have t40 : s31 329 0 = s11 329 0 := g34 329 0 (by decide)
    have t41 : s31 329 1 = s11 329 1 := g34 329 1 (by decide)
    have u42 := CI_b c32 (k := 309) (j := 19) bd_309_19
    have r43 := y_TA.fr g14 (fun a b h => g34 a b (by omega)) (fun a b h => g34 a b (by omega)) (fun a b h => g34 a b (by omega))
    have r44 := y_DD.fr g15 (g34 329 0 (by decide)) (g34 329 1 (by decide)) (fun b => g34 359 b (by decide)) (fun b => g34 374 b (by decide))
    have r45 : y_SJ r0 s31 := y_SJ.s (y_SH.fr g17 (fun a b h => g34 a b (by omega)) (fun a b h => g34 a b (by omega)) (fun a b h => g34 a b (by omega)) (fun a b h => g34 a b (by omega)) (fun a b h => g34 a b (by omega)) (fun a b h => g34 a b (by omega)) (fun a b h => g34 a b (by omega)) (by omega)) (by omega) (by omega) (by omega)
    exact sj_X12_stands_309T_J41 hfu r0 s31 c32 f33 r43 (by first | exact r44 | exact y_DD.z (by omega) (by omega)) (by omega) (by first | exact r45 | exact y_SJ.z (by omega))
abbrev P_X12_reads_309T (r0 : z_M) (a1 : Int) : z_V → z_M → Prop := fun v s' => z_CI s' ∧ z_Fr R_X12_reads_309 r0 s' ∧ (y_TA s') ∧ (y_DD s') ∧ (y_B s') ∧ (y_K s') ∧ (s' 309 2 = 0) ∧ (y_PU s') ∧ (∃ x, v = vI x ∧ -2147483648 ≤ x ∧ x ≤ 2147483647 ∧ (y_RZ r0 s' a1 x))
theorem nz_X12_readsPart_309__316_328 (a b : Int) (h : 316 ≤ a ∧ a ≤ 328) : ¬ R_X12_readsPart_309 a b := by
  unfold R_X12_readsPart_309; omega
theorem nz_X12_readsPart_309__346_358 (a b : Int) (h : 346 ≤ a ∧ a ≤ 358) : ¬ R_X12_readsPart_309 a b := by
  unfold R_X12_readsPart_309; omega
theorem nz_X12_readsPart_309__361_373 (a b : Int) (h : 361 ≤ a ∧ a ≤ 373) : ¬ R_X12_readsPart_309 a b := by
  unfold R_X12_readsPart_309; omega
theorem nz_X12_readsPart_309__3452_3651 (a b : Int) (h : 3452 ≤ a ∧ a ≤ 3651) : ¬ R_X12_readsPart_309 a b := by
  unfold R_X12_readsPart_309; omega
theorem nz_X12_readsPart_309__331_343 (a b : Int) (h : 331 ≤ a ∧ a ≤ 343) : ¬ R_X12_readsPart_309 a b := by
  unfold R_X12_readsPart_309; omega
theorem nz_X12_readsPart_309__376_388 (a b : Int) (h : 376 ≤ a ∧ a ≤ 388) : ¬ R_X12_readsPart_309 a b := by
  unfold R_X12_readsPart_309; omega
theorem nz_X12_readsPart_309__391_403 (a b : Int) (h : 391 ≤ a ∧ a ≤ 403) : ¬ R_X12_readsPart_309 a b := by
  unfold R_X12_readsPart_309; omega
theorem nz_X12_readsPart_309__407_3018 (a b : Int) (h : 407 ≤ a ∧ a ≤ 3018) : ¬ R_X12_readsPart_309 a b := by
  unfold R_X12_readsPart_309; omega
theorem nr_X12_readsPart_309__346 (b : Int) : ¬ R_X12_readsPart_309 346 b := by
  unfold R_X12_readsPart_309; omega
theorem nr_X12_readsPart_309__3223 (b : Int) : ¬ R_X12_readsPart_309 3223 b := by
  unfold R_X12_readsPart_309; omega
set_option maxHeartbeats 4000000 in
theorem sl_X12_reads_309T_L25 {fu : Nat} (hfu : 8589934592 ≤ fu) (r0 : z_M) (a1 : Int) {k : z_M → z_O} (hk : ∀ (s' : z_M), z_CI s' → z_Fr R_X12_reads_309 r0 s' → (y_TA s') → (y_B s') → (y_K s') → (y_D s' (s' 329 0)) → (s' 329 1 ≤ s' 329 0) → (s' 309 2 = 0) → (y_P0 r0 s' a1) → (y_TT r0 s') → (s' 309 19 = r0 309 19) → (s' 309 6 ≠ 0 ∨ s' 309 7 = -1) → (s' 309 6 ≠ 0 ∨ s' 309 4 = a1) → (s' 309 6 = 0 ∨ s' 309 6 = 1 ∨ s' 309 6 = 2) → (y_PU s') → z_T (k s') (P_X12_reads_309T r0 a1)) : ∀ (F : Nat) (s : z_M), z_CI s → z_Fr R_X12_reads_309 r0 s → (y_TA s) → (y_B s) → (y_K s) → (y_D s (s 329 0)) → (s 329 1 ≤ s 329 0) → (s 309 4 ≤ s 309 3 + 1) → (s 309 2 = 0) → (y_P0 r0 s a1) → (y_TT r0 s) → (s 309 19 = r0 309 19) → (s 309 6 ≠ 0 ∨ s 309 7 = -1) → (s 309 6 ≠ 0 ∨ s 309 4 ≤ s 309 3) → (s 309 3 = a1) → (s 309 6 = 0 ∨ s 309 6 = 1 ∨ s 309 6 = 2) → (y_PU s) → (303 - s 309 4 + (if s 309 6 = 0 then 1 else 0) < (F : Int)) → z_T (fX12_reads_L25 fu 309 F s k) (P_X12_reads_309T r0 a1) := by
  intro F
  induction F with
  | zero =>
    intro s c f i0 i1 i2 i3 i4 i5 i6 i7 i8 i9 i10 i11 i12 i13 i14 hm
    have u77 := CI_b c (k := 309) (j := 2) bd_309_2
    have u78 := CI_b c (k := 309) (j := 3) bd_309_3
    have u79 := CI_b c (k := 309) (j := 4) bd_309_4
    have u80 := CI_b c (k := 309) (j := 5) bd_309_5
    have u81 := CI_b c (k := 309) (j := 6) bd_309_6
    have u82 := CI_b c (k := 309) (j := 7) bd_309_7
    have u83 := CI_b c (k := 309) (j := 19) bd_309_19
    have u84 := CI_b c (k := 309) (j := 20) bd_309_20
    have u85 := CI_b c (k := 309) (j := 36) bd_309_36
    have u86 := CI_b c (k := 309) (j := 43) bd_309_43
    have u87 := CI_b c (k := 309) (j := 44) bd_309_44
    have u88 := CI_b c (k := 309) (j := 58) bd_309_58
    have u89 := CI_b c (k := 316) (j := 0) bd_316_0
    have u90 := CI_b c (k := 329) (j := 0) bd_329_0
    have u91 := CI_b c (k := 329) (j := 1) bd_329_1
    have u92 := CI_b c (k := 329) (j := 2) bd_329_2
    exfalso; omega
  | succ F ih =>
    intro s c f i0 i1 i2 i3 i4 i5 i6 i7 i8 i9 i10 i11 i12 i13 i14 hm
    refine T_of (fX12_reads_L25.eq_2 ..) ?_
    have u1 := CI_b c (k := 309) (j := 2) bd_309_2
    have u2 := CI_b c (k := 309) (j := 3) bd_309_3
    have u3 := CI_b c (k := 309) (j := 4) bd_309_4
    have u4 := CI_b c (k := 309) (j := 5) bd_309_5
    have u5 := CI_b c (k := 309) (j := 6) bd_309_6
    have u6 := CI_b c (k := 309) (j := 7) bd_309_7
    have u7 := CI_b c (k := 309) (j := 19) bd_309_19
    have u8 := CI_b c (k := 309) (j := 20) bd_309_20
    have u9 := CI_b c (k := 309) (j := 36) bd_309_36
    have u10 := CI_b c (k := 309) (j := 43) bd_309_43
    have u11 := CI_b c (k := 309) (j := 44) bd_309_44
    have u12 := CI_b c (k := 309) (j := 58) bd_309_58
    have u13 := CI_b c (k := 316) (j := 0) bd_316_0
    have u14 := CI_b c (k := 329) (j := 0) bd_329_0
    have u15 := CI_b c (k := 329) (j := 1) bd_329_1
    have u16 := CI_b c (k := 329) (j := 2) bd_329_2
    have t17 : s 309 43 = r0 309 43 := f 309 43 (by decide)
    have t18 : s 309 44 = r0 309 44 := f 309 44 (by decide)
    have t19 : s 309 58 = r0 309 58 := f 309 58 (by decide)
    refine T_if1 (by decide +kernel) ?_
    refine T_useI (sf_X12_fine_309 hfu s c) (fun v25 s20 hq => ?_)
    obtain ⟨c21, f22, ⟨x24, rfl, b26, b27, o28⟩⟩ := hq
    refine T_vI ?_
    have q29 := z_Fr.eq (fun a b h => h) f22
    subst q29
    refine T_ite (fun h30 => ?_) (fun h30 => ?_)
    · exact hk s c f i0 i1 (by first | exact i2 | exact y_K.b0 (by omega) | exact y_K.k0 (by omega) | exact y_K.bk (by omega)) (by first | exact y_D.cg i3 (by omega) | exact y_D.z (by omega) | exact y_D.ex i3 (by omega) (by omega)) (by omega) (by omega) (by first | exact y_P0.cg i7 (by omega)) i8 (by omega) (by omega) (by omega) (by omega) i14
    · refine T_if1 (by decide +kernel) ?_
      refine T_leq (fun x31 e32 => ?_)
      have u33 := CI_b c (k := 309) (j := 4) bd_309_4
      refine T_if1 (by decide +kernel) ?_
      refine T_leq (fun x34 e35 => ?_)
      have u36 := CI_b c (k := 309) (j := 3) bd_309_3
      refine T_ite (fun h37 => ?_) (fun h37 => ?_)
      · exact hk s c f i0 i1 (by first | exact i2 | exact y_K.b0 (by omega) | exact y_K.k0 (by omega) | exact y_K.bk (by omega)) (by first | exact y_D.cg i3 (by omega) | exact y_D.z (by omega) | exact y_D.ex i3 (by omega) (by omega)) (by omega) (by omega) (by first | exact y_P0.cg i7 (by omega)) i8 (by omega) (by omega) (by omega) (by omega) i14
      · refine T_if1 (by decide +kernel) ?_
        refine T_useN (sf_X12_readsPart_309T hfu s c (by first | exact y_D.cg i3 (by omega) | exact y_D.z (by omega) | exact y_D.ex i3 (by omega) (by omega)) (by omega) (by omega) (by omega)) (fun v43 s38 hq => ?_)
        obtain ⟨c39, f40, o44, o45, o46, o47, o48, o49, o50, o51, o52, rfl⟩ := hq
        refine T_vN ?_
        have f41 := z_Fr.tr (R := R_X12_reads_309) f f40 rs_X12_readsPart_309__X12_reads_309
        have t55 : s38 309 2 = s 309 2 := f40 309 2 (by decide)
        have t56 : s38 309 3 = x34 := (f40 309 3 (by decide)).trans e35
        have t57 : s38 309 5 = s 309 5 := f40 309 5 (by decide)
        have t58 : s38 309 19 = s 309 19 := f40 309 19 (by decide)
        have t59 : s38 309 20 = s 309 20 := f40 309 20 (by decide)
        have t60 : s38 309 36 = s 309 36 := f40 309 36 (by decide)
        have t61 : s38 309 43 = s 309 43 := f40 309 43 (by decide)
        have t62 : s38 309 44 = s 309 44 := f40 309 44 (by decide)
        have t63 : s38 309 58 = s 309 58 := f40 309 58 (by decide)
        have t64 : s38 316 0 = s 316 0 := f40 316 0 (by decide)
        have u65 := CI_b c39 (k := 309) (j := 4) bd_309_4
        have u66 := CI_b c39 (k := 309) (j := 6) bd_309_6
        have u67 := CI_b c39 (k := 309) (j := 7) bd_309_7
        have u68 := CI_b c39 (k := 329) (j := 0) bd_329_0
        have u69 := CI_b c39 (k := 329) (j := 1) bd_329_1
        have u70 := CI_b c39 (k := 329) (j := 2) bd_329_2
        have r71 := y_TA.fr i0 (fun a b h => f40 a b (nz_X12_readsPart_309__316_328 a b h)) (fun a b h => f40 a b (nz_X12_readsPart_309__346_358 a b h)) (fun a b h => f40 a b (nz_X12_readsPart_309__361_373 a b h))
        have r72 := y_B.fr i1 (f40 309 20 (by decide)) (f40 316 0 (by decide)) (fun b => f40 3220 b (nr_X12_readsPart_309__3220 b)) (fun b => f40 3221 b (nr_X12_readsPart_309__3221 b)) (fun b => f40 3222 b (nr_X12_readsPart_309__3222 b)) (fun b => f40 361 b (nr_X12_readsPart_309__361 b))
        have r73 := y_K.fr i2 (by omega) (by omega) (f40 309 44 (by decide)) (f40 309 20 (by decide)) (f40 309 58 (by decide)) (fun b => f40 3438 b (nr_X12_readsPart_309__3438 b)) (fun b => f40 3220 b (nr_X12_readsPart_309__3220 b)) (fun a b h => f40 a b (nz_X12_readsPart_309__3452_3651 a b h))
        have r74 := y_TT.fr i8 (fun a b h => f40 a b (nz_X12_readsPart_309__316_328 a b h)) (fun a b h => f40 a b (nz_X12_readsPart_309__331_343 a b h)) (fun a b h => f40 a b (nz_X12_readsPart_309__346_358 a b h)) (fun a b h => f40 a b (nz_X12_readsPart_309__361_373 a b h)) (fun a b h => f40 a b (nz_X12_readsPart_309__376_388 a b h)) (fun a b h => f40 a b (nz_X12_readsPart_309__391_403 a b h)) (fun a b h => f40 a b (nz_X12_readsPart_309__407_3018 a b h))
        have r75 := y_PU.fr i14 (f40 309 20 (by decide)) (f40 316 0 (by decide)) (fun b => f40 346 b (nr_X12_readsPart_309__346 b)) (fun b => f40 361 b (nr_X12_readsPart_309__361 b)) (fun b => f40 3220 b (nr_X12_readsPart_309__3220 b)) (fun b => f40 3221 b (nr_X12_readsPart_309__3221 b)) (fun b => f40 3222 b (nr_X12_readsPart_309__3222 b)) (fun b => f40 3223 b (nr_X12_readsPart_309__3223 b))
        have r76 : y_P0 r0 s38 a1 := y_P0.tr i7 (by omega) o49 (by omega) (fun b => f 311 b (by unfold R_X12_reads_309; omega))
        exact ih s38 c39 f41 r71 r72 (by first | exact r73 | exact y_K.b0 (by omega) | exact y_K.k0 (by omega) | exact y_K.bk (by omega)) (by first | exact y_D.cg o44 (by omega) | exact y_D.z (by omega) | exact y_D.ex o44 (by omega) (by omega)) (by omega) (by omega) (by omega) (by first | exact y_P0.cg r76 (by omega)) r74 (by omega) (by omega) (by omega) (by omega) (by omega) r75 (by omega)
theorem sj_X12_reads_309T_J50 {fu : Nat} (hfu : 8589934592 ≤ fu) (r0 s : z_M) (c : z_CI s) (f : z_Fr R_X12_reads_309 r0 s) (a1 : Int) (p0 : y_TA s) (p1 : y_B s) (p2 : y_K s) (p3 : y_D s (s 329 0)) (p4 : s 329 1 ≤ s 329 0) (p5 : s 309 2 = 0) (p6 : y_P0 r0 s a1) (p7 : y_TT r0 s) (p8 : s 309 19 = r0 309 19) (p9 : s 309 6 ≠ 0 ∨ s 309 7 = -1) (p10 : s 309 6 ≠ 0 ∨ s 309 4 = a1) (p11 : s 309 6 = 0 ∨ s 309 6 = 1 ∨ s 309 6 = 2) (p12 : y_PU s) : z_T (fX12_reads_J50 fu s 309) (P_X12_reads_309T r0 a1) := by
  refine T_of (fX12_reads_J50.eq_1 ..) ?_
  have u1 := CI_b c (k := 309) (j := 2) bd_309_2
  have u2 := CI_b c (k := 309) (j := 3) bd_309_3
  have u3 := CI_b c (k := 309) (j := 4) bd_309_4
  have u4 := CI_b c (k := 309) (j := 5) bd_309_5
  have u5 := CI_b c (k := 309) (j := 6) bd_309_6
  have u6 := CI_b c (k := 309) (j := 7) bd_309_7
  have u7 := CI_b c (k := 309) (j := 19) bd_309_19
  have u8 := CI_b c (k := 309) (j := 20) bd_309_20
  have u9 := CI_b c (k := 309) (j := 36) bd_309_36
  have u10 := CI_b c (k := 309) (j := 43) bd_309_43
  have u11 := CI_b c (k := 309) (j := 44) bd_309_44
  have u12 := CI_b c (k := 309) (j := 58) bd_309_58
  have u13 := CI_b c (k := 316) (j := 0) bd_316_0
  have u14 := CI_b c (k := 329) (j := 0) bd_329_0
  have u15 := CI_b c (k := 329) (j := 1) bd_329_1
  have u16 := CI_b c (k := 329) (j := 2) bd_329_2
  have t17 : s 309 43 = r0 309 43 := f 309 43 (by decide)
  have t18 : s 309 44 = r0 309 44 := f 309 44 (by decide)
  have t19 : s 309 58 = r0 309 58 := f 309 58 (by decide)
  refine T_if1 (by decide +kernel) ?_
  refine T_leq (fun x20 e21 => ?_)
  have u22 := CI_b c (k := 309) (j := 7) bd_309_7
  refine T_if1 (by decide +kernel) ?_
  refine T_upg c bd_309_5 (by omega) (fun s23 c24 g26 g27 e28 => ?_)
  have f25 := z_Fr.upf (R := R_X12_reads_309) f g26 g27 (Or.inr (Or.inr (⟨rfl, by decide⟩)))
  have t29 : s23 309 2 = s 309 2 := g27 2 (by decide)
  have t30 : s23 309 3 = s 309 3 := g27 3 (by decide)
  have t31 : s23 309 4 = s 309 4 := g27 4 (by decide)
  have t32 : s23 309 6 = s 309 6 := g27 6 (by decide)
  have t33 : s23 309 7 = x20 := (g27 7 (by decide)).trans e21
  have t34 : s23 309 19 = s 309 19 := g27 19 (by decide)
  have t35 : s23 309 20 = s 309 20 := g27 20 (by decide)
  have t36 : s23 309 36 = s 309 36 := g27 36 (by decide)
  have t37 : s23 309 43 = s 309 43 := g27 43 (by decide)
  have t38 : s23 309 44 = s 309 44 := g27 44 (by decide)
  have t39 : s23 309 58 = s 309 58 := g27 58 (by decide)
  have t40 : s23 316 0 = s 316 0 := g26 316 0 (by decide)
  have t41 : s23 329 0 = s 329 0 := g26 329 0 (by decide)
  have t42 : s23 329 1 = s 329 1 := g26 329 1 (by decide)
  have t43 : s23 329 2 = s 329 2 := g26 329 2 (by decide)
  have u44 := CI_b c24 (k := 309) (j := 5) bd_309_5
  have r45 := y_TA.fr p0 (fun a b h => g26 a b (by omega)) (fun a b h => g26 a b (by omega)) (fun a b h => g26 a b (by omega))
  have r46 := y_B.fr p1 (g27 20 (by decide)) (g26 316 0 (by decide)) (fun b => g26 3220 b (by decide)) (fun b => g26 3221 b (by decide)) (fun b => g26 3222 b (by decide)) (fun b => g26 361 b (by decide))
  have r47 := y_K.fr p2 (by omega) (by omega) (g27 44 (by decide)) (g27 20 (by decide)) (g27 58 (by decide)) (fun b => g26 3438 b (by decide)) (fun b => g26 3220 b (by decide)) (fun a b h => g26 a b (by omega))
  have r48 := y_D.fr p3 (fun b => g26 359 b (by decide)) (fun b => g26 374 b (by decide))
  have r49 := y_P0.fr (by omega) p6 (g27 6 (by decide)) (g27 7 (by decide)) (g27 4 (by decide)) (g26 329 0 (by decide)) (g26 329 1 (by decide)) (g26 329 2 (by decide)) (fun b => g26 344 b (by decide)) (fun b => g26 359 b (by decide)) (fun b => g26 374 b (by decide)) (fun b => g26 389 b (by decide)) (fun b => g26 404 b (by decide)) (fun a b h => g26 a b (by omega))
  have r50 := y_TT.fr p7 (fun a b h => g26 a b (by omega)) (fun a b h => g26 a b (by omega)) (fun a b h => g26 a b (by omega)) (fun a b h => g26 a b (by omega)) (fun a b h => g26 a b (by omega)) (fun a b h => g26 a b (by omega)) (fun a b h => g26 a b (by omega))
  have r51 := y_PU.fr p12 (g27 20 (by decide)) (g26 316 0 (by decide)) (fun b => g26 346 b (by decide)) (fun b => g26 361 b (by decide)) (fun b => g26 3220 b (by decide)) (fun b => g26 3221 b (by decide)) (fun b => g26 3222 b (by decide)) (fun b => g26 3223 b (by decide))
  refine T_if1 (by decide +kernel) ?_
  refine T_useI (sf_X12_fine_309 hfu s23 c24) (fun v57 s52 hq => ?_)
  obtain ⟨c53, f54, ⟨x56, rfl, b58, b59, o60⟩⟩ := hq
  refine T_vI ?_
  have q61 := z_Fr.eq (fun a b h => h) f54
  subst q61
  refine T_ite (fun h62 => ?_) (fun h62 => ?_)
  · have hP73 := r49
    have hT73 := r50
    have hc73 := c24
    have hf73 : s23 309 6 = 0 := by omega
    have he73 : s23 309 4 = a1 := by omega
    have hb73 : s23 309 19 = r0 309 19 := by omega
    have hz73 : s23 309 5 = -1 := by omega
    refine T_if1 (by decide +kernel) ?_
    refine T_useN (sf_X12_stands_309T hfu s23 c24 r45 (by first | exact ⟨by omega, y_D.cg r48 (by omega)⟩ | exact y_DD.z (by omega) (by omega))) (fun v68 s63 hq => ?_)
    obtain ⟨c64, f65, o69, o70, o71, o72, o73, o74, rfl⟩ := hq
    refine T_vN ?_
    have f66 := z_Fr.tr (R := R_X12_reads_309) f25 f65 rs_X12_stands_309__X12_reads_309
    have t77 : s63 309 2 = s 309 2 := (f65 309 2 (by decide)).trans t29
    have t78 : s63 309 3 = s 309 3 := (f65 309 3 (by decide)).trans t30
    have t79 : s63 309 4 = s 309 4 := (f65 309 4 (by decide)).trans t31
    have t80 : s63 309 5 = s23 309 5 := f65 309 5 (by decide)
    have t81 : s63 309 6 = s 309 6 := (f65 309 6 (by decide)).trans t32
    have t82 : s63 309 7 = x20 := (f65 309 7 (by decide)).trans t33
    have t83 : s63 309 43 = s 309 43 := (f65 309 43 (by decide)).trans t37
    have t84 : s63 309 44 = s 309 44 := (f65 309 44 (by decide)).trans t38
    have t85 : s63 309 58 = s 309 58 := (f65 309 58 (by decide)).trans t39
    have u86 := CI_b c64 (k := 309) (j := 19) bd_309_19
    have u87 := CI_b c64 (k := 309) (j := 20) bd_309_20
    have u88 := CI_b c64 (k := 309) (j := 36) bd_309_36
    have u89 := CI_b c64 (k := 316) (j := 0) bd_316_0
    have u90 := CI_b c64 (k := 329) (j := 0) bd_329_0
    have u91 := CI_b c64 (k := 329) (j := 1) bd_329_1
    have u92 := CI_b c64 (k := 329) (j := 2) bd_329_2
    clear t29
    clear t30
    clear t31
    clear t32
    clear t33
    clear t37
    clear t38
    clear t39
    refine T_if1 (by decide +kernel) ?_
    refine T_leq (fun x93 e94 => ?_)
    have u95 := CI_b c64 (k := 309) (j := 20) bd_309_20
    exact T_ret ⟨c64, f66, o69, (by first | exact o70 | exact y_DD.z (by omega) (by omega)), o71, (by first | exact y_K.b0 (by omega) | exact y_K.k0 (by omega) | exact y_K.bk (by omega)), (by omega), o74, ⟨x93, rfl, by omega, by omega, (by first | exact y_RZ.y hc73 hP73 hf73 he73 hT73 hb73 o73 (by omega) (by omega) rfl)⟩⟩
  · refine T_if1 (by decide +kernel) ?_
    refine T_leq (fun x96 e97 => ?_)
    have u98 := CI_b c24 (k := 309) (j := 6) bd_309_6
    refine T_leq (fun x99 e100 => ?_)
    first | (have w101 := z_wx e100 (by omega)) | (have w101 := z_wr e100)
    exact T_ret ⟨c24, f25, r45, (by first | exact ⟨by omega, y_D.cg r48 (by omega)⟩ | exact y_DD.z (by omega) (by omega)), r46, (by first | exact r47 | exact y_K.b0 (by omega) | exact y_K.k0 (by omega) | exact y_K.bk (by omega)), (by omega), r51, ⟨x99, rfl, by omega, by omega, (by first | exact y_RZ.f r49 (by omega) (by omega) (by omega) r50 (by omega) rfl)⟩⟩
set_option maxHeartbeats 4000000 in
theorem sf_X12_reads_309T {fu : Nat} (hfu : 8589934592 ≤ fu) (r0 : z_M) (c0 : z_CI r0) (a1 : Int) (b1 : 0 ≤ a1 ∧ a1 ≤ 300) (p0 : y_TA r0) (p1 : y_DD r0) (p2 : y_B r0) (p3 : y_K r0) (p4 : y_PU r0) : z_T (fX12_reads fu r0 309 a1) (P_X12_reads_309T r0 a1) := by
  refine T_of (fX12_reads.eq_1 ..) ?_
  have u1 := CI_b c0 (k := 309) (j := 2) bd_309_2
  have u2 := CI_b c0 (k := 309) (j := 3) bd_309_3
  have u3 := CI_b c0 (k := 309) (j := 4) bd_309_4
  have u4 := CI_b c0 (k := 309) (j := 5) bd_309_5
  have u5 := CI_b c0 (k := 309) (j := 6) bd_309_6
  have u6 := CI_b c0 (k := 309) (j := 7) bd_309_7
  have u7 := CI_b c0 (k := 309) (j := 19) bd_309_19
  have u8 := CI_b c0 (k := 309) (j := 20) bd_309_20
  have u9 := CI_b c0 (k := 309) (j := 36) bd_309_36
  have u10 := CI_b c0 (k := 309) (j := 43) bd_309_43
  have u11 := CI_b c0 (k := 309) (j := 44) bd_309_44
  have u12 := CI_b c0 (k := 309) (j := 58) bd_309_58
  have u13 := CI_b c0 (k := 316) (j := 0) bd_316_0
  have u14 := CI_b c0 (k := 329) (j := 0) bd_329_0
  have u15 := CI_b c0 (k := 329) (j := 1) bd_329_1
  have u16 := CI_b c0 (k := 329) (j := 2) bd_329_2
  have n17 := (p1).1
  have r18 : y_SD r0 r0 := y_SD.rf
  have r19 : y_GS r0 r0 := y_GS.rf
  have r20 : y_TT r0 r0 := y_TT.rf
  refine T_if1 (by decide +kernel) ?_
  refine T_upg c0 bd_309_2 (by omega) (fun s21 c22 g24 g25 e26 => ?_)
  have f23 := z_Fr.upf (R := R_X12_reads_309) z_Fr.rf g24 g25 (Or.inr (Or.inr (⟨rfl, by decide⟩)))
  have t27 : s21 309 3 = r0 309 3 := g25 3 (by decide)
  have t28 : s21 309 4 = r0 309 4 := g25 4 (by decide)
  have t29 : s21 309 5 = r0 309 5 := g25 5 (by decide)
  have t30 : s21 309 6 = r0 309 6 := g25 6 (by decide)
  have t31 : s21 309 7 = r0 309 7 := g25 7 (by decide)
  have t32 : s21 309 19 = r0 309 19 := g25 19 (by decide)
  have t33 : s21 309 20 = r0 309 20 := g25 20 (by decide)
  have t34 : s21 309 36 = r0 309 36 := g25 36 (by decide)
  have t35 : s21 309 43 = r0 309 43 := g25 43 (by decide)
  have t36 : s21 309 44 = r0 309 44 := g25 44 (by decide)
  have t37 : s21 309 58 = r0 309 58 := g25 58 (by decide)
  have t38 : s21 316 0 = r0 316 0 := g24 316 0 (by decide)
  have t39 : s21 329 0 = r0 329 0 := g24 329 0 (by decide)
  have t40 : s21 329 1 = r0 329 1 := g24 329 1 (by decide)
  have t41 : s21 329 2 = r0 329 2 := g24 329 2 (by decide)
  have u42 := CI_b c22 (k := 309) (j := 2) bd_309_2
  have r43 := y_TA.fr p0 (fun a b h => g24 a b (by omega)) (fun a b h => g24 a b (by omega)) (fun a b h => g24 a b (by omega))
  have r44 := y_DD.fr p1 (g24 329 0 (by decide)) (g24 329 1 (by decide)) (fun b => g24 359 b (by decide)) (fun b => g24 374 b (by decide))
  have r45 := y_B.fr p2 (g25 20 (by decide)) (g24 316 0 (by decide)) (fun b => g24 3220 b (by decide)) (fun b => g24 3221 b (by decide)) (fun b => g24 3222 b (by decide)) (fun b => g24 361 b (by decide))
  have r46 := y_K.fr p3 (by omega) (by omega) (g25 44 (by decide)) (g25 20 (by decide)) (g25 58 (by decide)) (fun b => g24 3438 b (by decide)) (fun b => g24 3220 b (by decide)) (fun a b h => g24 a b (by omega))
  have r47 := y_PU.fr p4 (g25 20 (by decide)) (g24 316 0 (by decide)) (fun b => g24 346 b (by decide)) (fun b => g24 361 b (by decide)) (fun b => g24 3220 b (by decide)) (fun b => g24 3221 b (by decide)) (fun b => g24 3222 b (by decide)) (fun b => g24 3223 b (by decide))
  have r48 := y_SD.fr r18 (g24 329 0 (by decide)) (g24 329 2 (by decide)) (fun b => g24 344 b (by decide)) (fun b => g24 359 b (by decide)) (fun b => g24 374 b (by decide)) (fun b => g24 389 b (by decide))
  have r49 := y_GS.fr r19 (fun b => g24 404 b (by decide)) (fun a b h => g24 a b (by omega))
  have r50 := y_TT.fr r20 (fun a b h => g24 a b (by omega)) (fun a b h => g24 a b (by omega)) (fun a b h => g24 a b (by omega)) (fun a b h => g24 a b (by omega)) (fun a b h => g24 a b (by omega)) (fun a b h => g24 a b (by omega)) (fun a b h => g24 a b (by omega))
  refine T_if1 (by decide +kernel) ?_
  refine T_upg c22 bd_309_3 (by omega) (fun s51 c52 g54 g55 e56 => ?_)
  have f53 := z_Fr.upf (R := R_X12_reads_309) f23 g54 g55 (Or.inr (Or.inr (⟨rfl, by decide⟩)))
  have t57 : s51 309 2 = s21 309 2 := g55 2 (by decide)
  have t58 : s51 309 4 = r0 309 4 := (g55 4 (by decide)).trans t28
  have t59 : s51 309 5 = r0 309 5 := (g55 5 (by decide)).trans t29
  have t60 : s51 309 6 = r0 309 6 := (g55 6 (by decide)).trans t30
  have t61 : s51 309 7 = r0 309 7 := (g55 7 (by decide)).trans t31
  have t62 : s51 309 19 = r0 309 19 := (g55 19 (by decide)).trans t32
  have t63 : s51 309 20 = r0 309 20 := (g55 20 (by decide)).trans t33
  have t64 : s51 309 36 = r0 309 36 := (g55 36 (by decide)).trans t34
  have t65 : s51 309 43 = r0 309 43 := (g55 43 (by decide)).trans t35
  have t66 : s51 309 44 = r0 309 44 := (g55 44 (by decide)).trans t36
  have t67 : s51 309 58 = r0 309 58 := (g55 58 (by decide)).trans t37
  have t68 : s51 316 0 = r0 316 0 := (g54 316 0 (by decide)).trans t38
  have t69 : s51 329 0 = r0 329 0 := (g54 329 0 (by decide)).trans t39
  have t70 : s51 329 1 = r0 329 1 := (g54 329 1 (by decide)).trans t40
  have t71 : s51 329 2 = r0 329 2 := (g54 329 2 (by decide)).trans t41
  have u72 := CI_b c52 (k := 309) (j := 3) bd_309_3
  have r73 := y_TA.fr r43 (fun a b h => g54 a b (by omega)) (fun a b h => g54 a b (by omega)) (fun a b h => g54 a b (by omega))
  have r74 := y_DD.fr r44 (g54 329 0 (by decide)) (g54 329 1 (by decide)) (fun b => g54 359 b (by decide)) (fun b => g54 374 b (by decide))
  have r75 := y_B.fr r45 (g55 20 (by decide)) (g54 316 0 (by decide)) (fun b => g54 3220 b (by decide)) (fun b => g54 3221 b (by decide)) (fun b => g54 3222 b (by decide)) (fun b => g54 361 b (by decide))
  have r76 := y_K.fr r46 (by omega) (by omega) (g55 44 (by decide)) (g55 20 (by decide)) (g55 58 (by decide)) (fun b => g54 3438 b (by decide)) (fun b => g54 3220 b (by decide)) (fun a b h => g54 a b (by omega))
  have r77 := y_PU.fr r47 (g55 20 (by decide)) (g54 316 0 (by decide)) (fun b => g54 346 b (by decide)) (fun b => g54 361 b (by decide)) (fun b => g54 3220 b (by decide)) (fun b => g54 3221 b (by decide)) (fun b => g54 3222 b (by decide)) (fun b => g54 3223 b (by decide))
  have r78 := y_SD.fr r48 (g54 329 0 (by decide)) (g54 329 2 (by decide)) (fun b => g54 344 b (by decide)) (fun b => g54 359 b (by decide)) (fun b => g54 374 b (by decide)) (fun b => g54 389 b (by decide))
  have r79 := y_GS.fr r49 (fun b => g54 404 b (by decide)) (fun a b h => g54 a b (by omega))
  have r80 := y_TT.fr r50 (fun a b h => g54 a b (by omega)) (fun a b h => g54 a b (by omega)) (fun a b h => g54 a b (by omega)) (fun a b h => g54 a b (by omega)) (fun a b h => g54 a b (by omega)) (fun a b h => g54 a b (by omega)) (fun a b h => g54 a b (by omega))
  clear t28
  clear t29
  clear t30
  clear t31
  clear t32
  clear t33
  clear t34
  clear t35
  clear t36
  clear t37
  clear t38
  clear t39
  clear t40
  clear t41
  refine T_if1 (by decide +kernel) ?_
  refine T_upg c52 bd_309_4 (by omega) (fun s81 c82 g84 g85 e86 => ?_)
  have f83 := z_Fr.upf (R := R_X12_reads_309) f53 g84 g85 (Or.inr (Or.inr (⟨rfl, by decide⟩)))
  have t87 : s81 309 2 = s21 309 2 := (g85 2 (by decide)).trans t57
  have t88 : s81 309 3 = s51 309 3 := g85 3 (by decide)
  have t89 : s81 309 5 = r0 309 5 := (g85 5 (by decide)).trans t59
  have t90 : s81 309 6 = r0 309 6 := (g85 6 (by decide)).trans t60
  have t91 : s81 309 7 = r0 309 7 := (g85 7 (by decide)).trans t61
  have t92 : s81 309 19 = r0 309 19 := (g85 19 (by decide)).trans t62
  have t93 : s81 309 20 = r0 309 20 := (g85 20 (by decide)).trans t63
  have t94 : s81 309 36 = r0 309 36 := (g85 36 (by decide)).trans t64
  have t95 : s81 309 43 = r0 309 43 := (g85 43 (by decide)).trans t65
  have t96 : s81 309 44 = r0 309 44 := (g85 44 (by decide)).trans t66
  have t97 : s81 309 58 = r0 309 58 := (g85 58 (by decide)).trans t67
  have t98 : s81 316 0 = r0 316 0 := (g84 316 0 (by decide)).trans t68
  have t99 : s81 329 0 = r0 329 0 := (g84 329 0 (by decide)).trans t69
  have t100 : s81 329 1 = r0 329 1 := (g84 329 1 (by decide)).trans t70
  have t101 : s81 329 2 = r0 329 2 := (g84 329 2 (by decide)).trans t71
  have u102 := CI_b c82 (k := 309) (j := 4) bd_309_4
  have r103 := y_TA.fr r73 (fun a b h => g84 a b (by omega)) (fun a b h => g84 a b (by omega)) (fun a b h => g84 a b (by omega))
  have r104 := y_DD.fr r74 (g84 329 0 (by decide)) (g84 329 1 (by decide)) (fun b => g84 359 b (by decide)) (fun b => g84 374 b (by decide))
  have r105 := y_B.fr r75 (g85 20 (by decide)) (g84 316 0 (by decide)) (fun b => g84 3220 b (by decide)) (fun b => g84 3221 b (by decide)) (fun b => g84 3222 b (by decide)) (fun b => g84 361 b (by decide))
  have r106 := y_K.fr r76 (by omega) (by omega) (g85 44 (by decide)) (g85 20 (by decide)) (g85 58 (by decide)) (fun b => g84 3438 b (by decide)) (fun b => g84 3220 b (by decide)) (fun a b h => g84 a b (by omega))
  have r107 := y_PU.fr r77 (g85 20 (by decide)) (g84 316 0 (by decide)) (fun b => g84 346 b (by decide)) (fun b => g84 361 b (by decide)) (fun b => g84 3220 b (by decide)) (fun b => g84 3221 b (by decide)) (fun b => g84 3222 b (by decide)) (fun b => g84 3223 b (by decide))
  have r108 := y_SD.fr r78 (g84 329 0 (by decide)) (g84 329 2 (by decide)) (fun b => g84 344 b (by decide)) (fun b => g84 359 b (by decide)) (fun b => g84 374 b (by decide)) (fun b => g84 389 b (by decide))
  have r109 := y_GS.fr r79 (fun b => g84 404 b (by decide)) (fun a b h => g84 a b (by omega))
  have r110 := y_TT.fr r80 (fun a b h => g84 a b (by omega)) (fun a b h => g84 a b (by omega)) (fun a b h => g84 a b (by omega)) (fun a b h => g84 a b (by omega)) (fun a b h => g84 a b (by omega)) (fun a b h => g84 a b (by omega)) (fun a b h => g84 a b (by omega))
  clear t57
  clear t59
  clear t60
  clear t61
  clear t62
  clear t63
  clear t64
  clear t65
  clear t66
  clear t67
  clear t68
  clear t69
  clear t70
  clear t71
  refine T_if1 (by decide +kernel) ?_
  refine T_upg c82 bd_309_6 (by omega) (fun s111 c112 g114 g115 e116 => ?_)
  have f113 := z_Fr.upf (R := R_X12_reads_309) f83 g114 g115 (Or.inr (Or.inr (⟨rfl, by decide⟩)))
  have t117 : s111 309 2 = s21 309 2 := (g115 2 (by decide)).trans t87
  have t118 : s111 309 3 = s51 309 3 := (g115 3 (by decide)).trans t88
  have t119 : s111 309 4 = s81 309 4 := g115 4 (by decide)
  have t120 : s111 309 5 = r0 309 5 := (g115 5 (by decide)).trans t89
  have t121 : s111 309 7 = r0 309 7 := (g115 7 (by decide)).trans t91
  have t122 : s111 309 19 = r0 309 19 := (g115 19 (by decide)).trans t92
  have t123 : s111 309 20 = r0 309 20 := (g115 20 (by decide)).trans t93
  have t124 : s111 309 36 = r0 309 36 := (g115 36 (by decide)).trans t94
  have t125 : s111 309 43 = r0 309 43 := (g115 43 (by decide)).trans t95
  have t126 : s111 309 44 = r0 309 44 := (g115 44 (by decide)).trans t96
  have t127 : s111 309 58 = r0 309 58 := (g115 58 (by decide)).trans t97
  have t128 : s111 316 0 = r0 316 0 := (g114 316 0 (by decide)).trans t98
  have t129 : s111 329 0 = r0 329 0 := (g114 329 0 (by decide)).trans t99
  have t130 : s111 329 1 = r0 329 1 := (g114 329 1 (by decide)).trans t100
  have t131 : s111 329 2 = r0 329 2 := (g114 329 2 (by decide)).trans t101
  have u132 := CI_b c112 (k := 309) (j := 6) bd_309_6
  have r133 := y_TA.fr r103 (fun a b h => g114 a b (by omega)) (fun a b h => g114 a b (by omega)) (fun a b h => g114 a b (by omega))
  have r134 := y_DD.fr r104 (g114 329 0 (by decide)) (g114 329 1 (by decide)) (fun b => g114 359 b (by decide)) (fun b => g114 374 b (by decide))
  have r135 := y_B.fr r105 (g115 20 (by decide)) (g114 316 0 (by decide)) (fun b => g114 3220 b (by decide)) (fun b => g114 3221 b (by decide)) (fun b => g114 3222 b (by decide)) (fun b => g114 361 b (by decide))
  have r136 := y_K.fr r106 (by omega) (by omega) (g115 44 (by decide)) (g115 20 (by decide)) (g115 58 (by decide)) (fun b => g114 3438 b (by decide)) (fun b => g114 3220 b (by decide)) (fun a b h => g114 a b (by omega))
  have r137 := y_PU.fr r107 (g115 20 (by decide)) (g114 316 0 (by decide)) (fun b => g114 346 b (by decide)) (fun b => g114 361 b (by decide)) (fun b => g114 3220 b (by decide)) (fun b => g114 3221 b (by decide)) (fun b => g114 3222 b (by decide)) (fun b => g114 3223 b (by decide))
  have r138 := y_SD.fr r108 (g114 329 0 (by decide)) (g114 329 2 (by decide)) (fun b => g114 344 b (by decide)) (fun b => g114 359 b (by decide)) (fun b => g114 374 b (by decide)) (fun b => g114 389 b (by decide))
  have r139 := y_GS.fr r109 (fun b => g114 404 b (by decide)) (fun a b h => g114 a b (by omega))
  have r140 := y_TT.fr r110 (fun a b h => g114 a b (by omega)) (fun a b h => g114 a b (by omega)) (fun a b h => g114 a b (by omega)) (fun a b h => g114 a b (by omega)) (fun a b h => g114 a b (by omega)) (fun a b h => g114 a b (by omega)) (fun a b h => g114 a b (by omega))
  clear t87
  clear t88
  clear t89
  clear t91
  clear t92
  clear t93
  clear t94
  clear t95
  clear t96
  clear t97
  clear t98
  clear t99
  clear t100
  clear t101
  refine T_if1 (by decide +kernel) ?_
  refine T_upg c112 bd_309_7 (by omega) (fun s141 c142 g144 g145 e146 => ?_)
  have f143 := z_Fr.upf (R := R_X12_reads_309) f113 g144 g145 (Or.inr (Or.inr (⟨rfl, by decide⟩)))
  have t147 : s141 309 2 = s21 309 2 := (g145 2 (by decide)).trans t117
  have t148 : s141 309 3 = s51 309 3 := (g145 3 (by decide)).trans t118
  have t149 : s141 309 4 = s81 309 4 := (g145 4 (by decide)).trans t119
  have t150 : s141 309 5 = r0 309 5 := (g145 5 (by decide)).trans t120
  have t151 : s141 309 6 = s111 309 6 := g145 6 (by decide)
  have t152 : s141 309 19 = r0 309 19 := (g145 19 (by decide)).trans t122
  have t153 : s141 309 20 = r0 309 20 := (g145 20 (by decide)).trans t123
  have t154 : s141 309 36 = r0 309 36 := (g145 36 (by decide)).trans t124
  have t155 : s141 309 43 = r0 309 43 := (g145 43 (by decide)).trans t125
  have t156 : s141 309 44 = r0 309 44 := (g145 44 (by decide)).trans t126
  have t157 : s141 309 58 = r0 309 58 := (g145 58 (by decide)).trans t127
  have t158 : s141 316 0 = r0 316 0 := (g144 316 0 (by decide)).trans t128
  have t159 : s141 329 0 = r0 329 0 := (g144 329 0 (by decide)).trans t129
  have t160 : s141 329 1 = r0 329 1 := (g144 329 1 (by decide)).trans t130
  have t161 : s141 329 2 = r0 329 2 := (g144 329 2 (by decide)).trans t131
  have u162 := CI_b c142 (k := 309) (j := 7) bd_309_7
  have r163 := y_TA.fr r133 (fun a b h => g144 a b (by omega)) (fun a b h => g144 a b (by omega)) (fun a b h => g144 a b (by omega))
  have r164 := y_DD.fr r134 (g144 329 0 (by decide)) (g144 329 1 (by decide)) (fun b => g144 359 b (by decide)) (fun b => g144 374 b (by decide))
  have r165 := y_B.fr r135 (g145 20 (by decide)) (g144 316 0 (by decide)) (fun b => g144 3220 b (by decide)) (fun b => g144 3221 b (by decide)) (fun b => g144 3222 b (by decide)) (fun b => g144 361 b (by decide))
  have r166 := y_K.fr r136 (by omega) (by omega) (g145 44 (by decide)) (g145 20 (by decide)) (g145 58 (by decide)) (fun b => g144 3438 b (by decide)) (fun b => g144 3220 b (by decide)) (fun a b h => g144 a b (by omega))
  have r167 := y_PU.fr r137 (g145 20 (by decide)) (g144 316 0 (by decide)) (fun b => g144 346 b (by decide)) (fun b => g144 361 b (by decide)) (fun b => g144 3220 b (by decide)) (fun b => g144 3221 b (by decide)) (fun b => g144 3222 b (by decide)) (fun b => g144 3223 b (by decide))
  have r168 := y_SD.fr r138 (g144 329 0 (by decide)) (g144 329 2 (by decide)) (fun b => g144 344 b (by decide)) (fun b => g144 359 b (by decide)) (fun b => g144 374 b (by decide)) (fun b => g144 389 b (by decide))
  have r169 := y_GS.fr r139 (fun b => g144 404 b (by decide)) (fun a b h => g144 a b (by omega))
  have r170 := y_TT.fr r140 (fun a b h => g144 a b (by omega)) (fun a b h => g144 a b (by omega)) (fun a b h => g144 a b (by omega)) (fun a b h => g144 a b (by omega)) (fun a b h => g144 a b (by omega)) (fun a b h => g144 a b (by omega)) (fun a b h => g144 a b (by omega))
  clear t117
  clear t118
  clear t119
  clear t120
  clear t122
  clear t123
  clear t124
  clear t125
  clear t126
  clear t127
  clear t128
  clear t129
  clear t130
  clear t131
  refine sl_X12_reads_309T_L25 hfu r0 a1 (fun s171 c172 f173 g174 g175 g176 g177 g178 g179 g180 g181 g182 g183 g184 g185 g186 => ?_) fu s141 c142 f143 r163 r165 (by first | exact r166 | exact y_K.b0 (by omega) | exact y_K.k0 (by omega) | exact y_K.bk (by omega)) (by first | exact y_D.z (by omega) | exact y_D.cg (And.right r164) (by omega)) (by omega) (by omega) (by omega) (by first | exact y_P0.z r168 r169 (by omega) (by omega) (by omega) (by omega)) r170 (by omega) (by omega) (by omega) (by omega) (by omega) r167 (by omega)
  have u187 := CI_b c172 (k := 309) (j := 2) bd_309_2
  have u188 := CI_b c172 (k := 309) (j := 3) bd_309_3
  have u189 := CI_b c172 (k := 309) (j := 4) bd_309_4
  have u190 := CI_b c172 (k := 309) (j := 5) bd_309_5
  have u191 := CI_b c172 (k := 309) (j := 6) bd_309_6
  have u192 := CI_b c172 (k := 309) (j := 7) bd_309_7
  have u193 := CI_b c172 (k := 309) (j := 19) bd_309_19
  have u194 := CI_b c172 (k := 309) (j := 20) bd_309_20
  have u195 := CI_b c172 (k := 309) (j := 36) bd_309_36
  have u196 := CI_b c172 (k := 309) (j := 43) bd_309_43
  have u197 := CI_b c172 (k := 309) (j := 44) bd_309_44
  have u198 := CI_b c172 (k := 309) (j := 58) bd_309_58
  have u199 := CI_b c172 (k := 316) (j := 0) bd_316_0
  have u200 := CI_b c172 (k := 329) (j := 0) bd_329_0
  have u201 := CI_b c172 (k := 329) (j := 1) bd_329_1
  have u202 := CI_b c172 (k := 329) (j := 2) bd_329_2
  have t203 : s171 309 43 = r0 309 43 := f173 309 43 (by decide)
  have t204 : s171 309 44 = r0 309 44 := f173 309 44 (by decide)
  have t205 : s171 309 58 = r0 309 58 := f173 309 58 (by decide)
  exact sj_X12_reads_309T_J50 hfu r0 s171 c172 f173 a1 g174 g175 (by first | exact g176 | exact y_K.b0 (by omega) | exact y_K.k0 (by omega) | exact y_K.bk (by omega)) (by first | exact y_D.cg g177 (by omega) | exact y_D.z (by omega) | exact y_D.ex g177 (by omega) (by omega)) (by omega) (by omega) (by first | exact y_P0.cg g180 (by omega)) g181 (by omega) (by omega) (by omega) (by omega) g186
abbrev P_X12_text_309T (r0 : z_M) (a1 : Int) : z_V → z_M → Prop := fun v s' => z_CI s' ∧ z_Fr R_X12_text_309 r0 s' ∧ (y_DD s') ∧ ((0 ≤ a1 ∧ a1 ≤ r0 309 2 ∧ s' 309 2 = 0) ∨ ((a1 < 0 ∨ r0 309 2 < a1) ∧ s' 309 2 = r0 309 2)) ∧ (y_TA s') ∧ (y_B s') ∧ (y_K s') ∧ (y_PU s') ∧ ((0 ≤ a1 ∧ a1 ≤ r0 309 2 ∧ s' 309 0 = 0) ∨ ((a1 < 0 ∨ r0 309 2 < a1) ∧ s' 309 0 = 1)) ∧ (∃ x, v = vI x ∧ -2147483648 ≤ x ∧ x ≤ 2147483647 ∧ (y_TZ r0 s' a1 x))
theorem nz_X12_bad_309__316_328 (a b : Int) (h : 316 ≤ a ∧ a ≤ 328) : ¬ R_X12_bad_309 a b := by
  unfold R_X12_bad_309; omega
theorem nz_X12_bad_309__331_343 (a b : Int) (h : 331 ≤ a ∧ a ≤ 343) : ¬ R_X12_bad_309 a b := by
  unfold R_X12_bad_309; omega
theorem nz_X12_bad_309__346_358 (a b : Int) (h : 346 ≤ a ∧ a ≤ 358) : ¬ R_X12_bad_309 a b := by
  unfold R_X12_bad_309; omega
theorem nz_X12_bad_309__361_373 (a b : Int) (h : 361 ≤ a ∧ a ≤ 373) : ¬ R_X12_bad_309 a b := by
  unfold R_X12_bad_309; omega
theorem nz_X12_bad_309__376_388 (a b : Int) (h : 376 ≤ a ∧ a ≤ 388) : ¬ R_X12_bad_309 a b := by
  unfold R_X12_bad_309; omega
theorem nz_X12_bad_309__391_403 (a b : Int) (h : 391 ≤ a ∧ a ≤ 403) : ¬ R_X12_bad_309 a b := by
  unfold R_X12_bad_309; omega
theorem nz_X12_bad_309__407_3018 (a b : Int) (h : 407 ≤ a ∧ a ≤ 3018) : ¬ R_X12_bad_309 a b := by
  unfold R_X12_bad_309; omega
theorem nz_X12_bad_309__3452_3651 (a b : Int) (h : 3452 ≤ a ∧ a ≤ 3651) : ¬ R_X12_bad_309 a b := by
  unfold R_X12_bad_309; omega
theorem nr_X12_bad_309__346 (b : Int) : ¬ R_X12_bad_309 346 b := by
  unfold R_X12_bad_309; omega
theorem nr_X12_bad_309__3223 (b : Int) : ¬ R_X12_bad_309 3223 b := by
  unfold R_X12_bad_309; omega
theorem sl_X12_text_309T_L35 {fu : Nat} (hfu : 8589934592 ≤ fu) (r0 : z_M) (a1 : Int) (b1 : 0 ≤ a1 ∧ a1 ≤ 300) {k : z_M → z_O} (hk : ∀ (s' : z_M), z_CI s' → z_Fr R_X12_text_309 r0 s' → (s' 329 0 = 0) → (s' 329 1 = 0) → (s' 309 2 = r0 309 2) → (y_TA s') → (y_B s') → (y_K s') → (y_TT r0 s') → (s' 309 19 = r0 309 19) → (s' 329 2 = 0) → (y_PU s') → (s' 309 0 = 0) → z_T (k s') (P_X12_text_309T r0 a1)) : ∀ (F : Nat) (s : z_M) (a2 : Int), z_CI s → z_Fr R_X12_text_309 r0 s → (0 ≤ a2 ∧ a2 ≤ 3) → (a2 ≤ 0 ∨ s 329 0 = 0) → (a2 ≤ 1 ∨ s 329 1 = 0) → (s 309 2 = r0 309 2) → (y_TA s) → (y_B s) → (y_K s) → (y_TT r0 s) → (s 309 19 = r0 309 19) → (a2 ≤ 2 ∨ s 329 2 = 0) → (y_PU s) → (s 309 0 = 0) → (2147483647 - a2 < (F : Int)) → z_T (fX12_text_L35 fu 309 a1 F s a2 k) (P_X12_text_309T r0 a1) := by
  intro F
  induction F with
  | zero =>
    intro s a2 c f b2 i0 i1 i2 i3 i4 i5 i6 i7 i8 i9 i10 hm
    have u48 := CI_b c (k := 309) (j := 0) bd_309_0
    have u49 := CI_b c (k := 309) (j := 2) bd_309_2
    have u50 := CI_b c (k := 309) (j := 5) bd_309_5
    have u51 := CI_b c (k := 309) (j := 19) bd_309_19
    have u52 := CI_b c (k := 309) (j := 20) bd_309_20
    have u53 := CI_b c (k := 309) (j := 36) bd_309_36
    have u54 := CI_b c (k := 309) (j := 43) bd_309_43
    have u55 := CI_b c (k := 309) (j := 44) bd_309_44
    have u56 := CI_b c (k := 309) (j := 58) bd_309_58
    have u57 := CI_b c (k := 316) (j := 0) bd_316_0
    have u58 := CI_b c (k := 329) (j := 0) bd_329_0
    have u59 := CI_b c (k := 329) (j := 1) bd_329_1
    have u60 := CI_b c (k := 329) (j := 2) bd_329_2
    exfalso; omega
  | succ F ih =>
    intro s a2 c f b2 i0 i1 i2 i3 i4 i5 i6 i7 i8 i9 i10 hm
    refine T_of (fX12_text_L35.eq_2 ..) ?_
    have u1 := CI_b c (k := 309) (j := 0) bd_309_0
    have u2 := CI_b c (k := 309) (j := 2) bd_309_2
    have u3 := CI_b c (k := 309) (j := 5) bd_309_5
    have u4 := CI_b c (k := 309) (j := 19) bd_309_19
    have u5 := CI_b c (k := 309) (j := 20) bd_309_20
    have u6 := CI_b c (k := 309) (j := 36) bd_309_36
    have u7 := CI_b c (k := 309) (j := 43) bd_309_43
    have u8 := CI_b c (k := 309) (j := 44) bd_309_44
    have u9 := CI_b c (k := 309) (j := 58) bd_309_58
    have u10 := CI_b c (k := 316) (j := 0) bd_316_0
    have u11 := CI_b c (k := 329) (j := 0) bd_329_0
    have u12 := CI_b c (k := 329) (j := 1) bd_329_1
    have u13 := CI_b c (k := 329) (j := 2) bd_329_2
    have t14 : s 309 43 = r0 309 43 := f 309 43 (by decide)
    have t15 : s 309 44 = r0 309 44 := f 309 44 (by decide)
    have t16 : s 309 58 = r0 309 58 := f 309 58 (by decide)
    refine T_ite (fun h17 => ?_) (fun h17 => ?_)
    · exact hk s c f (by omega) (by omega) (by omega) i3 i4 (by first | exact i5 | exact y_K.b0 (by omega) | exact y_K.k0 (by omega) | exact y_K.bk (by omega)) i6 (by omega) (by omega) i9 (by omega)
    · refine T_if1 (by decide +kernel) ?_
      refine T_let 315 (by decide +kernel) ?_
      refine T_if1 (z_ixl (n := 14) (by decide +kernel) (by omega) (by omega)) ?_
      refine T_let 329 (by decide +kernel) ?_
      refine T_if1 (z_ixl (n := 3) (by decide +kernel) (by omega) (by omega)) ?_
      refine T_upg c (z_bde _ _) (z_bd0 _ _) (fun s18 c19 g21 g22 e23 => ?_)
      have f20 := z_Fr.up (R := R_X12_text_309) f g21 (fun _ => (Or.inr (Or.inl (⟨by decide, by decide⟩))))
      have t24 : s18 309 0 = s 309 0 := g21 309 0 (by decide)
      have t25 : s18 309 2 = s 309 2 := g21 309 2 (by decide)
      have t26 : s18 309 5 = s 309 5 := g21 309 5 (by decide)
      have t27 : s18 309 19 = s 309 19 := g21 309 19 (by decide)
      have t28 : s18 309 20 = s 309 20 := g21 309 20 (by decide)
      have t29 : s18 309 36 = s 309 36 := g21 309 36 (by decide)
      have t30 : s18 309 43 = s 309 43 := g21 309 43 (by decide)
      have t31 : s18 309 44 = s 309 44 := g21 309 44 (by decide)
      have t32 : s18 309 58 = s 309 58 := g21 309 58 (by decide)
      have t33 : s18 316 0 = s 316 0 := g21 316 0 (by decide)
      have u34 := CI_b c19 (k := 329) (j := 0) bd_329_0
      have u35 := CI_b c19 (k := 329) (j := 1) bd_329_1
      have u36 := CI_b c19 (k := 329) (j := 2) bd_329_2
      have r37 := y_TA.fr i3 (fun a b h => g21 a b (by omega)) (fun a b h => g21 a b (by omega)) (fun a b h => g21 a b (by omega))
      have r38 := y_B.fr i4 (g21 309 20 (by decide)) (g21 316 0 (by decide)) (fun b => g21 3220 b (by decide)) (fun b => g21 3221 b (by decide)) (fun b => g21 3222 b (by decide)) (fun b => g21 361 b (by decide))
      have r39 := y_K.fr i5 (by omega) (by omega) (g21 309 44 (by decide)) (g21 309 20 (by decide)) (g21 309 58 (by decide)) (fun b => g21 3438 b (by decide)) (fun b => g21 3220 b (by decide)) (fun a b h => g21 a b (by omega))
      have r40 := y_TT.fr i6 (fun a b h => g21 a b (by omega)) (fun a b h => g21 a b (by omega)) (fun a b h => g21 a b (by omega)) (fun a b h => g21 a b (by omega)) (fun a b h => g21 a b (by omega)) (fun a b h => g21 a b (by omega)) (fun a b h => g21 a b (by omega))
      have r41 := y_PU.fr i9 (g21 309 20 (by decide)) (g21 316 0 (by decide)) (fun b => g21 346 b (by decide)) (fun b => g21 361 b (by decide)) (fun b => g21 3220 b (by decide)) (fun b => g21 3221 b (by decide)) (fun b => g21 3222 b (by decide)) (fun b => g21 3223 b (by decide))
      have n42 := z_pt g22 e23 0
      have n43 := z_pt g22 e23 1
      have n44 := z_pt g22 e23 2
      refine T_leq (fun x45 e46 => ?_)
      first | (have w47 := z_wx e46 (by omega)) | (have w47 := z_wr e46)
      exact ih s18 x45 c19 f20 (by omega) (by omega) (by omega) (by omega) r37 r38 (by first | exact r39 | exact y_K.b0 (by omega) | exact y_K.k0 (by omega) | exact y_K.bk (by omega)) r40 (by omega) (by omega) r41 (by omega) (by omega)
theorem sj_X12_text_309T_J23 {fu : Nat} (hfu : 8589934592 ≤ fu) (r0 s : z_M) (c : z_CI s) (f : z_Fr R_X12_text_309 r0 s) (a1 : Int) (t1 : Int) (b1 : -2147483648 ≤ a1 ∧ a1 ≤ 2147483647) (d1 : 0 ≤ t1 ∧ t1 ≤ 1) (p0 : t1 = 1 ∨ (0 ≤ a1 ∧ a1 ≤ s 309 2)) (p1 : s 309 0 = 0) (p2 : t1 = 0 ∨ a1 < 0 ∨ s 309 2 < a1) (p3 : y_DD s) (p4 : s 309 2 = r0 309 2) (p5 : y_TT r0 s) (p6 : s 309 19 = r0 309 19) (p7 : s 309 5 = r0 309 5) (p8 : y_TA s) (p9 : y_B s) (p10 : y_K s) (p11 : y_PU s) : z_T (fX12_text_J23 fu s 309 a1 309 t1) (P_X12_text_309T r0 a1) := by
  refine T_of (fX12_text_J23.eq_1 ..) ?_
  have u1 := CI_b c (k := 309) (j := 0) bd_309_0
  have u2 := CI_b c (k := 309) (j := 2) bd_309_2
  have u3 := CI_b c (k := 309) (j := 5) bd_309_5
  have u4 := CI_b c (k := 309) (j := 19) bd_309_19
  have u5 := CI_b c (k := 309) (j := 20) bd_309_20
  have u6 := CI_b c (k := 309) (j := 36) bd_309_36
  have u7 := CI_b c (k := 309) (j := 43) bd_309_43
  have u8 := CI_b c (k := 309) (j := 44) bd_309_44
  have u9 := CI_b c (k := 309) (j := 58) bd_309_58
  have u10 := CI_b c (k := 316) (j := 0) bd_316_0
  have u11 := CI_b c (k := 329) (j := 0) bd_329_0
  have u12 := CI_b c (k := 329) (j := 1) bd_329_1
  have u13 := CI_b c (k := 329) (j := 2) bd_329_2
  have t14 : s 309 43 = r0 309 43 := f 309 43 (by decide)
  have t15 : s 309 44 = r0 309 44 := f 309 44 (by decide)
  have t16 : s 309 58 = r0 309 58 := f 309 58 (by decide)
  refine T_if1 (by decide +kernel) ?_
  refine T_useI (sf_X12_bad_309 hfu s c t1 1 1 (by omega) (by omega) (by omega) (by omega)) (fun v22 s17 hq => ?_)
  obtain ⟨c18, f19, o23, ⟨x21, rfl, b24, b25, o26, o27⟩⟩ := hq
  refine T_vI ?_
  have f20 := z_Fr.tr (R := R_X12_text_309) f f19 rs_X12_bad_309__X12_text_309
  have t28 : s17 309 2 = s 309 2 := f19 309 2 (by decide)
  have t29 : s17 309 5 = s 309 5 := f19 309 5 (by decide)
  have t30 : s17 309 19 = s 309 19 := f19 309 19 (by decide)
  have t31 : s17 309 20 = s 309 20 := f19 309 20 (by decide)
  have t32 : s17 309 36 = s 309 36 := f19 309 36 (by decide)
  have t33 : s17 309 43 = s 309 43 := f19 309 43 (by decide)
  have t34 : s17 309 44 = s 309 44 := f19 309 44 (by decide)
  have t35 : s17 309 58 = s 309 58 := f19 309 58 (by decide)
  have t36 : s17 316 0 = s 316 0 := f19 316 0 (by decide)
  have t37 : s17 329 0 = s 329 0 := f19 329 0 (by decide)
  have t38 : s17 329 1 = s 329 1 := f19 329 1 (by decide)
  have t39 : s17 329 2 = s 329 2 := f19 329 2 (by decide)
  have u40 := CI_b c18 (k := 309) (j := 0) bd_309_0
  have r41 := y_DD.fr p3 (f19 329 0 (by decide)) (f19 329 1 (by decide)) (fun b => f19 359 b (nr_X12_bad_309__359 b)) (fun b => f19 374 b (nr_X12_bad_309__374 b))
  have r42 := y_TT.fr p5 (fun a b h => f19 a b (nz_X12_bad_309__316_328 a b h)) (fun a b h => f19 a b (nz_X12_bad_309__331_343 a b h)) (fun a b h => f19 a b (nz_X12_bad_309__346_358 a b h)) (fun a b h => f19 a b (nz_X12_bad_309__361_373 a b h)) (fun a b h => f19 a b (nz_X12_bad_309__376_388 a b h)) (fun a b h => f19 a b (nz_X12_bad_309__391_403 a b h)) (fun a b h => f19 a b (nz_X12_bad_309__407_3018 a b h))
  have r43 := y_TA.fr p8 (fun a b h => f19 a b (nz_X12_bad_309__316_328 a b h)) (fun a b h => f19 a b (nz_X12_bad_309__346_358 a b h)) (fun a b h => f19 a b (nz_X12_bad_309__361_373 a b h))
  have r44 := y_B.fr p9 (f19 309 20 (by decide)) (f19 316 0 (by decide)) (fun b => f19 3220 b (nr_X12_bad_309__3220 b)) (fun b => f19 3221 b (nr_X12_bad_309__3221 b)) (fun b => f19 3222 b (nr_X12_bad_309__3222 b)) (fun b => f19 361 b (nr_X12_bad_309__361 b))
  have r45 := y_K.fr p10 (by omega) (by omega) (f19 309 44 (by decide)) (f19 309 20 (by decide)) (f19 309 58 (by decide)) (fun b => f19 3438 b (nr_X12_bad_309__3438 b)) (fun b => f19 3220 b (nr_X12_bad_309__3220 b)) (fun a b h => f19 a b (nz_X12_bad_309__3452_3651 a b h))
  have r46 := y_PU.fr p11 (f19 309 20 (by decide)) (f19 316 0 (by decide)) (fun b => f19 346 b (nr_X12_bad_309__346 b)) (fun b => f19 361 b (nr_X12_bad_309__361 b)) (fun b => f19 3220 b (nr_X12_bad_309__3220 b)) (fun b => f19 3221 b (nr_X12_bad_309__3221 b)) (fun b => f19 3222 b (nr_X12_bad_309__3222 b)) (fun b => f19 3223 b (nr_X12_bad_309__3223 b))
  refine T_ite (fun h47 => ?_) (fun h47 => ?_)
  · refine sl_X12_text_309T_L35 hfu r0 a1 (by omega) (fun s48 c49 f50 g51 g52 g53 g54 g55 g56 g57 g58 g59 g60 g61 => ?_) fu s17 0 c18 f20 (by omega) (by omega) (by omega) (by omega) r43 r44 (by first | exact r45 | exact y_K.b0 (by omega) | exact y_K.k0 (by omega) | exact y_K.bk (by omega)) r42 (by omega) (by omega) r46 (by omega) (by omega)
    have u62 := CI_b c49 (k := 309) (j := 0) bd_309_0
    have u63 := CI_b c49 (k := 309) (j := 2) bd_309_2
    have u64 := CI_b c49 (k := 309) (j := 5) bd_309_5
    have u65 := CI_b c49 (k := 309) (j := 19) bd_309_19
    have u66 := CI_b c49 (k := 309) (j := 20) bd_309_20
    have u67 := CI_b c49 (k := 309) (j := 36) bd_309_36
    have u68 := CI_b c49 (k := 309) (j := 43) bd_309_43
    have u69 := CI_b c49 (k := 309) (j := 44) bd_309_44
    have u70 := CI_b c49 (k := 309) (j := 58) bd_309_58
    have u71 := CI_b c49 (k := 316) (j := 0) bd_316_0
    have u72 := CI_b c49 (k := 329) (j := 0) bd_329_0
    have u73 := CI_b c49 (k := 329) (j := 1) bd_329_1
    have u74 := CI_b c49 (k := 329) (j := 2) bd_329_2
    have t75 : s48 309 43 = r0 309 43 := f50 309 43 (by decide)
    have t76 : s48 309 44 = r0 309 44 := f50 309 44 (by decide)
    have t77 : s48 309 58 = r0 309 58 := f50 309 58 (by decide)
    have hT := g57
    have hb19 : s48 309 19 = r0 309 19 := by omega
    have hk311 : ∀ b, s48 311 b = r0 311 b := fun b => f50 311 b (by unfold R_X12_text_309; omega)
    have hh0 : s48 329 0 = 0 := by omega
    have hh2 : s48 329 2 = 0 := by omega
    have hh1 : s48 329 1 = 0 := by omega
    refine T_if1 (by decide +kernel) ?_
    refine T_useI (sf_X12_reads_309T hfu s48 c49 a1 (by omega) g54 (by first | exact y_DD.z (by omega) (by omega)) g55 (by first | exact g56 | exact y_K.b0 (by omega) | exact y_K.k0 (by omega) | exact y_K.bk (by omega)) g60) (fun v83 s78 hq => ?_)
    obtain ⟨c79, f80, o84, o85, o86, o87, o88, o89, ⟨x82, rfl, b90, b91, o92⟩⟩ := hq
    refine T_vI ?_
    have f81 := z_Fr.tr (R := R_X12_text_309) f50 f80 rs_X12_reads_309__X12_text_309
    have t93 : s78 309 0 = s48 309 0 := f80 309 0 (by decide)
    have t94 : s78 309 43 = s48 309 43 := f80 309 43 (by decide)
    have t95 : s78 309 44 = s48 309 44 := f80 309 44 (by decide)
    have t96 : s78 309 58 = s48 309 58 := f80 309 58 (by decide)
    have u97 := CI_b c79 (k := 309) (j := 2) bd_309_2
    have u98 := CI_b c79 (k := 309) (j := 5) bd_309_5
    have u99 := CI_b c79 (k := 309) (j := 19) bd_309_19
    have u100 := CI_b c79 (k := 309) (j := 20) bd_309_20
    have u101 := CI_b c79 (k := 309) (j := 36) bd_309_36
    have u102 := CI_b c79 (k := 316) (j := 0) bd_316_0
    have u103 := CI_b c79 (k := 329) (j := 0) bd_329_0
    have u104 := CI_b c79 (k := 329) (j := 1) bd_329_1
    have u105 := CI_b c79 (k := 329) (j := 2) bd_329_2
    exact T_ret ⟨c79, f81, (by first | exact o85 | exact y_DD.z (by omega) (by omega)), (by omega), o84, o86, (by first | exact o87 | exact y_K.b0 (by omega) | exact y_K.k0 (by omega) | exact y_K.bk (by omega)), o89, (by omega), ⟨x82, rfl, by omega, by omega, (by first | exact y_TZ.y ⟨by omega, by omega⟩ o92 hT hb19 hk311 hh0 hh2 hh1)⟩⟩
  · exact T_ret ⟨c18, f20, (by first | exact r41 | exact y_DD.z (by omega) (by omega)), (by omega), r43, r44, (by first | exact r45 | exact y_K.b0 (by omega) | exact y_K.k0 (by omega) | exact y_K.bk (by omega)), r46, (by omega), ⟨0, rfl, by omega, by omega, (by first | exact y_TZ.no r42 (by omega) (by omega) (by omega))⟩⟩
theorem sf_X12_text_309T {fu : Nat} (hfu : 8589934592 ≤ fu) (r0 : z_M) (c0 : z_CI r0) (a1 : Int) (b1 : -2147483648 ≤ a1 ∧ a1 ≤ 2147483647) (p0 : y_DD r0) (p1 : y_TA r0) (p2 : y_B r0) (p3 : y_K r0) (p4 : y_PU r0) : z_T (fX12_text fu r0 309 a1) (P_X12_text_309T r0 a1) := by
  refine T_of (fX12_text.eq_1 ..) ?_
  have u1 := CI_b c0 (k := 309) (j := 0) bd_309_0
  have u2 := CI_b c0 (k := 309) (j := 2) bd_309_2
  have u3 := CI_b c0 (k := 309) (j := 5) bd_309_5
  have u4 := CI_b c0 (k := 309) (j := 19) bd_309_19
  have u5 := CI_b c0 (k := 309) (j := 20) bd_309_20
  have u6 := CI_b c0 (k := 309) (j := 36) bd_309_36
  have u7 := CI_b c0 (k := 309) (j := 43) bd_309_43
  have u8 := CI_b c0 (k := 309) (j := 44) bd_309_44
  have u9 := CI_b c0 (k := 309) (j := 58) bd_309_58
  have u10 := CI_b c0 (k := 316) (j := 0) bd_316_0
  have u11 := CI_b c0 (k := 329) (j := 0) bd_329_0
  have u12 := CI_b c0 (k := 329) (j := 1) bd_329_1
  have u13 := CI_b c0 (k := 329) (j := 2) bd_329_2
  have r14 : y_TT r0 r0 := y_TT.rf
  refine T_if1 (by decide +kernel) ?_
  refine T_upg c0 bd_309_0 (by omega) (fun s15 c16 g18 g19 e20 => ?_)
  have f17 := z_Fr.upf (R := R_X12_text_309) z_Fr.rf g18 g19 (Or.inr (Or.inr (Or.inr (⟨rfl, by decide⟩))))
  have t21 : s15 309 2 = r0 309 2 := g19 2 (by decide)
  have t22 : s15 309 5 = r0 309 5 := g19 5 (by decide)
  have t23 : s15 309 19 = r0 309 19 := g19 19 (by decide)
  have t24 : s15 309 20 = r0 309 20 := g19 20 (by decide)
  have t25 : s15 309 36 = r0 309 36 := g19 36 (by decide)
  have t26 : s15 309 43 = r0 309 43 := g19 43 (by decide)
  have t27 : s15 309 44 = r0 309 44 := g19 44 (by decide)
  have t28 : s15 309 58 = r0 309 58 := g19 58 (by decide)
  have t29 : s15 316 0 = r0 316 0 := g18 316 0 (by decide)
  have t30 : s15 329 0 = r0 329 0 := g18 329 0 (by decide)
  have t31 : s15 329 1 = r0 329 1 := g18 329 1 (by decide)
  have t32 : s15 329 2 = r0 329 2 := g18 329 2 (by decide)
  have u33 := CI_b c16 (k := 309) (j := 0) bd_309_0
  have r34 := y_DD.fr p0 (g18 329 0 (by decide)) (g18 329 1 (by decide)) (fun b => g18 359 b (by decide)) (fun b => g18 374 b (by decide))
  have r35 := y_TA.fr p1 (fun a b h => g18 a b (by omega)) (fun a b h => g18 a b (by omega)) (fun a b h => g18 a b (by omega))
  have r36 := y_B.fr p2 (g19 20 (by decide)) (g18 316 0 (by decide)) (fun b => g18 3220 b (by decide)) (fun b => g18 3221 b (by decide)) (fun b => g18 3222 b (by decide)) (fun b => g18 361 b (by decide))
  have r37 := y_K.fr p3 (by omega) (by omega) (g19 44 (by decide)) (g19 20 (by decide)) (g19 58 (by decide)) (fun b => g18 3438 b (by decide)) (fun b => g18 3220 b (by decide)) (fun a b h => g18 a b (by omega))
  have r38 := y_PU.fr p4 (g19 20 (by decide)) (g18 316 0 (by decide)) (fun b => g18 346 b (by decide)) (fun b => g18 361 b (by decide)) (fun b => g18 3220 b (by decide)) (fun b => g18 3221 b (by decide)) (fun b => g18 3222 b (by decide)) (fun b => g18 3223 b (by decide))
  have r39 := y_TT.fr r14 (fun a b h => g18 a b (by omega)) (fun a b h => g18 a b (by omega)) (fun a b h => g18 a b (by omega)) (fun a b h => g18 a b (by omega)) (fun a b h => g18 a b (by omega)) (fun a b h => g18 a b (by omega)) (fun a b h => g18 a b (by omega))
  refine T_if1 (by decide +kernel) ?_
  refine T_leq (fun x40 e41 => ?_)
  have u42 := CI_b c16 (k := 309) (j := 2) bd_309_2
  refine T_useI (sf_X12_in hfu s15 c16 a1 0 x40 (by omega) (by omega) (by omega)) (fun v48 s43 hq => ?_)
  obtain ⟨c44, f45, ⟨x47, rfl, b49, b50, o51⟩⟩ := hq
  refine T_vI ?_
  have q52 := z_Fr.eq (fun a b h => h) f45
  subst q52
  refine T_ite (fun h53 => ?_) (fun h53 => ?_)
  · exact sj_X12_text_309T_J23 hfu r0 s15 c16 f17 a1 0 (by omega) (by omega) (by omega) (by omega) (by omega) (by first | exact r34 | exact y_DD.z (by omega) (by omega)) (by omega) r39 (by omega) (by omega) r35 r36 (by first | exact r37 | exact y_K.b0 (by omega) | exact y_K.k0 (by omega) | exact y_K.bk (by omega)) r38
  · exact sj_X12_text_309T_J23 hfu r0 s15 c16 f17 a1 1 (by omega) (by omega) (by omega) (by omega) (by omega) (by first | exact r34 | exact y_DD.z (by omega) (by omega)) (by omega) r39 (by omega) (by omega) r35 r36 (by first | exact r37 | exact y_K.b0 (by omega) | exact y_K.k0 (by omega) | exact y_K.bk (by omega)) r38
abbrev P_X12_more__309T (r0 : z_M) (a1 : Int) : z_V → z_M → Prop := fun v s' => z_CI s' ∧ z_Fr R_X12_more__309 r0 s' ∧ (y_DD s') ∧ ((0 ≤ a1 ∧ a1 ≤ r0 309 2 ∧ s' 309 2 = 0) ∨ ((a1 < 0 ∨ r0 309 2 < a1) ∧ s' 309 2 = r0 309 2)) ∧ (y_TA s') ∧ (y_B s') ∧ (y_K s') ∧ (y_PU s') ∧ ((0 ≤ a1 ∧ a1 ≤ r0 309 2 ∧ s' 309 0 = 0) ∨ ((a1 < 0 ∨ r0 309 2 < a1) ∧ s' 309 0 = 1)) ∧ (∃ x, v = vI x ∧ -2147483648 ≤ x ∧ x ≤ 2147483647 ∧ (y_MZ r0 s' a1 x))
theorem nz_X12_copies_309__3452_3651 (a b : Int) (h : 3452 ≤ a ∧ a ≤ 3651) : ¬ R_X12_copies_309 a b := by
  unfold R_X12_copies_309; omega
theorem nr_X12_copies_309__3223 (b : Int) : ¬ R_X12_copies_309 3223 b := by
  unfold R_X12_copies_309; omega
set_option maxHeartbeats 4000000 in
theorem sj_X12_more__309T_J23 {fu : Nat} (hfu : 8589934592 ≤ fu) (r0 s : z_M) (c : z_CI s) (f : z_Fr R_X12_more__309 r0 s) (a1 : Int) (t1 : Int) (b1 : -2147483648 ≤ a1 ∧ a1 ≤ 2147483647) (d1 : 0 ≤ t1 ∧ t1 ≤ 1) (p0 : t1 = 1 ∨ (0 ≤ a1 ∧ a1 ≤ s 309 2)) (p1 : s 309 0 = 0) (p2 : t1 = 0 ∨ a1 < 0 ∨ s 309 2 < a1) (p3 : y_DD s) (p4 : s 309 2 = r0 309 2) (p5 : y_TT r0 s) (p6 : s 309 19 = r0 309 19) (p7 : s 309 5 = r0 309 5) (p8 : y_TA s) (p9 : y_B s) (p10 : y_K s) (p11 : y_PU s) : z_T (fX12_more__J23 fu s 309 a1 309 t1) (P_X12_more__309T r0 a1) := by
  refine T_of (fX12_more__J23.eq_1 ..) ?_
  have u1 := CI_b c (k := 309) (j := 0) bd_309_0
  have u2 := CI_b c (k := 309) (j := 2) bd_309_2
  have u3 := CI_b c (k := 309) (j := 5) bd_309_5
  have u4 := CI_b c (k := 309) (j := 19) bd_309_19
  have u5 := CI_b c (k := 309) (j := 20) bd_309_20
  have u6 := CI_b c (k := 309) (j := 36) bd_309_36
  have u7 := CI_b c (k := 309) (j := 43) bd_309_43
  have u8 := CI_b c (k := 309) (j := 44) bd_309_44
  have u9 := CI_b c (k := 309) (j := 58) bd_309_58
  have u10 := CI_b c (k := 316) (j := 0) bd_316_0
  have u11 := CI_b c (k := 329) (j := 0) bd_329_0
  have u12 := CI_b c (k := 329) (j := 1) bd_329_1
  have u13 := CI_b c (k := 329) (j := 2) bd_329_2
  have t14 : s 309 43 = r0 309 43 := f 309 43 (by decide)
  have t15 : s 309 44 = r0 309 44 := f 309 44 (by decide)
  have t16 : s 309 58 = r0 309 58 := f 309 58 (by decide)
  refine T_if1 (by decide +kernel) ?_
  refine T_useI (sf_X12_bad_309 hfu s c t1 1 1 (by omega) (by omega) (by omega) (by omega)) (fun v22 s17 hq => ?_)
  obtain ⟨c18, f19, o23, ⟨x21, rfl, b24, b25, o26, o27⟩⟩ := hq
  refine T_vI ?_
  have f20 := z_Fr.tr (R := R_X12_more__309) f f19 rs_X12_bad_309__X12_more__309
  have t28 : s17 309 2 = s 309 2 := f19 309 2 (by decide)
  have t29 : s17 309 5 = s 309 5 := f19 309 5 (by decide)
  have t30 : s17 309 19 = s 309 19 := f19 309 19 (by decide)
  have t31 : s17 309 20 = s 309 20 := f19 309 20 (by decide)
  have t32 : s17 309 36 = s 309 36 := f19 309 36 (by decide)
  have t33 : s17 309 43 = s 309 43 := f19 309 43 (by decide)
  have t34 : s17 309 44 = s 309 44 := f19 309 44 (by decide)
  have t35 : s17 309 58 = s 309 58 := f19 309 58 (by decide)
  have t36 : s17 316 0 = s 316 0 := f19 316 0 (by decide)
  have t37 : s17 329 0 = s 329 0 := f19 329 0 (by decide)
  have t38 : s17 329 1 = s 329 1 := f19 329 1 (by decide)
  have t39 : s17 329 2 = s 329 2 := f19 329 2 (by decide)
  have u40 := CI_b c18 (k := 309) (j := 0) bd_309_0
  have r41 := y_DD.fr p3 (f19 329 0 (by decide)) (f19 329 1 (by decide)) (fun b => f19 359 b (nr_X12_bad_309__359 b)) (fun b => f19 374 b (nr_X12_bad_309__374 b))
  have r42 := y_TT.fr p5 (fun a b h => f19 a b (nz_X12_bad_309__316_328 a b h)) (fun a b h => f19 a b (nz_X12_bad_309__331_343 a b h)) (fun a b h => f19 a b (nz_X12_bad_309__346_358 a b h)) (fun a b h => f19 a b (nz_X12_bad_309__361_373 a b h)) (fun a b h => f19 a b (nz_X12_bad_309__376_388 a b h)) (fun a b h => f19 a b (nz_X12_bad_309__391_403 a b h)) (fun a b h => f19 a b (nz_X12_bad_309__407_3018 a b h))
  have r43 := y_TA.fr p8 (fun a b h => f19 a b (nz_X12_bad_309__316_328 a b h)) (fun a b h => f19 a b (nz_X12_bad_309__346_358 a b h)) (fun a b h => f19 a b (nz_X12_bad_309__361_373 a b h))
  have r44 := y_B.fr p9 (f19 309 20 (by decide)) (f19 316 0 (by decide)) (fun b => f19 3220 b (nr_X12_bad_309__3220 b)) (fun b => f19 3221 b (nr_X12_bad_309__3221 b)) (fun b => f19 3222 b (nr_X12_bad_309__3222 b)) (fun b => f19 361 b (nr_X12_bad_309__361 b))
  have r45 := y_K.fr p10 (by omega) (by omega) (f19 309 44 (by decide)) (f19 309 20 (by decide)) (f19 309 58 (by decide)) (fun b => f19 3438 b (nr_X12_bad_309__3438 b)) (fun b => f19 3220 b (nr_X12_bad_309__3220 b)) (fun a b h => f19 a b (nz_X12_bad_309__3452_3651 a b h))
  have r46 := y_PU.fr p11 (f19 309 20 (by decide)) (f19 316 0 (by decide)) (fun b => f19 346 b (nr_X12_bad_309__346 b)) (fun b => f19 361 b (nr_X12_bad_309__361 b)) (fun b => f19 3220 b (nr_X12_bad_309__3220 b)) (fun b => f19 3221 b (nr_X12_bad_309__3221 b)) (fun b => f19 3222 b (nr_X12_bad_309__3222 b)) (fun b => f19 3223 b (nr_X12_bad_309__3223 b))
  refine T_ite (fun h47 => ?_) (fun h47 => ?_)
  · refine T_if1 (by decide +kernel) ?_
    refine T_useN (sf_X12_copies_309T hfu s17 c18 0 13 (by omega) (by omega) (by omega)) (fun v53 s48 hq => ?_)
    obtain ⟨c49, f50, o54, o55, o56, rfl⟩ := hq
    refine T_vN ?_
    have f51 := z_Fr.tr (R := R_X12_more__309) f20 f50 rs_X12_copies_309__X12_more__309
    have t59 : s48 309 0 = s17 309 0 := f50 309 0 (by decide)
    have t60 : s48 309 2 = s 309 2 := (f50 309 2 (by decide)).trans t28
    have t61 : s48 309 5 = s 309 5 := (f50 309 5 (by decide)).trans t29
    have t62 : s48 309 19 = s 309 19 := (f50 309 19 (by decide)).trans t30
    have t63 : s48 309 20 = s 309 20 := (f50 309 20 (by decide)).trans t31
    have t64 : s48 309 36 = s 309 36 := (f50 309 36 (by decide)).trans t32
    have t65 : s48 309 43 = s 309 43 := (f50 309 43 (by decide)).trans t33
    have t66 : s48 309 44 = s 309 44 := (f50 309 44 (by decide)).trans t34
    have t67 : s48 309 58 = s 309 58 := (f50 309 58 (by decide)).trans t35
    have u68 := CI_b c49 (k := 316) (j := 0) bd_316_0
    have u69 := CI_b c49 (k := 329) (j := 0) bd_329_0
    have u70 := CI_b c49 (k := 329) (j := 1) bd_329_1
    have u71 := CI_b c49 (k := 329) (j := 2) bd_329_2
    have r72 := y_K.fr r45 (by omega) (by omega) (f50 309 44 (by decide)) (f50 309 20 (by decide)) (f50 309 58 (by decide)) (fun b => f50 3438 b (nr_X12_copies_309__3438 b)) (fun b => f50 3220 b (nr_X12_copies_309__3220 b)) (fun a b h => f50 a b (nz_X12_copies_309__3452_3651 a b h))
    have r73 : y_PU s48 := y_CF.PU o55 (by omega) r46 (f50 309 20 (by unfold R_X12_copies_309; omega)) (fun b => f50 3220 b (by unfold R_X12_copies_309; omega)) (fun b => f50 3221 b (by unfold R_X12_copies_309; omega)) (fun b => f50 3222 b (by unfold R_X12_copies_309; omega)) (fun b => f50 3223 b (by unfold R_X12_copies_309; omega))
    have hcs := c18
    have hT0 := r42
    have hcf := o55
    have hcl := o56
    have r74 := y_CP.TA o54 c18 (by omega) r43
    have r75 := y_CP.DD o54 c18 (by omega) r43
    have r76 := y_CP.B o54 (by omega) r44 (f50 309 20 (by unfold R_X12_copies_309; omega)) (fun b => f50 3220 b (by unfold R_X12_copies_309; omega)) (fun b => f50 3221 b (by unfold R_X12_copies_309; omega)) (fun b => f50 3222 b (by unfold R_X12_copies_309; omega))
    clear t28
    clear t29
    clear t30
    clear t31
    clear t32
    clear t33
    clear t34
    clear t35
    have hb19 : s48 309 19 = r0 309 19 := by omega
    have hk311 : ∀ b, s48 311 b = r0 311 b := fun b => f51 311 b (by unfold R_X12_more__309; omega)
    refine T_if1 (by decide +kernel) ?_
    refine T_useI (sf_X12_reads_309T hfu s48 c49 a1 (by omega) r74 (by first | exact r75 | exact y_DD.z (by omega) (by omega)) r76 (by first | exact r72 | exact y_K.b0 (by omega) | exact y_K.k0 (by omega) | exact y_K.bk (by omega)) r73) (fun v82 s77 hq => ?_)
    obtain ⟨c78, f79, o83, o84, o85, o86, o87, o88, ⟨x81, rfl, b89, b90, o91⟩⟩ := hq
    refine T_vI ?_
    have f80 := z_Fr.tr (R := R_X12_more__309) f51 f79 rs_X12_reads_309__X12_more__309
    have t92 : s77 309 0 = s17 309 0 := (f79 309 0 (by decide)).trans t59
    have t93 : s77 309 43 = s 309 43 := (f79 309 43 (by decide)).trans t65
    have t94 : s77 309 44 = s 309 44 := (f79 309 44 (by decide)).trans t66
    have t95 : s77 309 58 = s 309 58 := (f79 309 58 (by decide)).trans t67
    have u96 := CI_b c78 (k := 309) (j := 2) bd_309_2
    have u97 := CI_b c78 (k := 309) (j := 5) bd_309_5
    have u98 := CI_b c78 (k := 309) (j := 19) bd_309_19
    have u99 := CI_b c78 (k := 309) (j := 20) bd_309_20
    have u100 := CI_b c78 (k := 309) (j := 36) bd_309_36
    have u101 := CI_b c78 (k := 316) (j := 0) bd_316_0
    have u102 := CI_b c78 (k := 329) (j := 0) bd_329_0
    have u103 := CI_b c78 (k := 329) (j := 1) bd_329_1
    have u104 := CI_b c78 (k := 329) (j := 2) bd_329_2
    clear t59
    clear t65
    clear t66
    clear t67
    exact T_ret ⟨c78, f80, (by first | exact o84 | exact y_DD.z (by omega) (by omega)), (by omega), o83, o85, (by first | exact o86 | exact y_K.b0 (by omega) | exact y_K.k0 (by omega) | exact y_K.bk (by omega)), o88, (by omega), ⟨x81, rfl, by omega, by omega, (by first | exact y_MZ.y ⟨by omega, by omega⟩ hcs hT0 o91 hcf hcl hb19 hk311)⟩⟩
  · exact T_ret ⟨c18, f20, (by first | exact r41 | exact y_DD.z (by omega) (by omega)), (by omega), r43, r44, (by first | exact r45 | exact y_K.b0 (by omega) | exact y_K.k0 (by omega) | exact y_K.bk (by omega)), r46, (by omega), ⟨0, rfl, by omega, by omega, (by first | exact y_MZ.no r42 (by omega) (by omega) (by omega))⟩⟩
theorem sf_X12_more__309T {fu : Nat} (hfu : 8589934592 ≤ fu) (r0 : z_M) (c0 : z_CI r0) (a1 : Int) (b1 : -2147483648 ≤ a1 ∧ a1 ≤ 2147483647) (p0 : y_DD r0) (p1 : y_TA r0) (p2 : y_B r0) (p3 : y_K r0) (p4 : y_PU r0) : z_T (fX12_more_ fu r0 309 a1) (P_X12_more__309T r0 a1) := by
  refine T_of (fX12_more_.eq_1 ..) ?_
  have u1 := CI_b c0 (k := 309) (j := 0) bd_309_0
  have u2 := CI_b c0 (k := 309) (j := 2) bd_309_2
  have u3 := CI_b c0 (k := 309) (j := 5) bd_309_5
  have u4 := CI_b c0 (k := 309) (j := 19) bd_309_19
  have u5 := CI_b c0 (k := 309) (j := 20) bd_309_20
  have u6 := CI_b c0 (k := 309) (j := 36) bd_309_36
  have u7 := CI_b c0 (k := 309) (j := 43) bd_309_43
  have u8 := CI_b c0 (k := 309) (j := 44) bd_309_44
  have u9 := CI_b c0 (k := 309) (j := 58) bd_309_58
  have u10 := CI_b c0 (k := 316) (j := 0) bd_316_0
  have u11 := CI_b c0 (k := 329) (j := 0) bd_329_0
  have u12 := CI_b c0 (k := 329) (j := 1) bd_329_1
  have u13 := CI_b c0 (k := 329) (j := 2) bd_329_2
  have r14 : y_TT r0 r0 := y_TT.rf
  refine T_if1 (by decide +kernel) ?_
  refine T_upg c0 bd_309_0 (by omega) (fun s15 c16 g18 g19 e20 => ?_)
  have f17 := z_Fr.upf (R := R_X12_more__309) z_Fr.rf g18 g19 (Or.inr (Or.inr (Or.inr (⟨rfl, by decide⟩))))
  have t21 : s15 309 2 = r0 309 2 := g19 2 (by decide)
  have t22 : s15 309 5 = r0 309 5 := g19 5 (by decide)
  have t23 : s15 309 19 = r0 309 19 := g19 19 (by decide)
  have t24 : s15 309 20 = r0 309 20 := g19 20 (by decide)
  have t25 : s15 309 36 = r0 309 36 := g19 36 (by decide)
  have t26 : s15 309 43 = r0 309 43 := g19 43 (by decide)
  have t27 : s15 309 44 = r0 309 44 := g19 44 (by decide)
  have t28 : s15 309 58 = r0 309 58 := g19 58 (by decide)
  have t29 : s15 316 0 = r0 316 0 := g18 316 0 (by decide)
  have t30 : s15 329 0 = r0 329 0 := g18 329 0 (by decide)
  have t31 : s15 329 1 = r0 329 1 := g18 329 1 (by decide)
  have t32 : s15 329 2 = r0 329 2 := g18 329 2 (by decide)
  have u33 := CI_b c16 (k := 309) (j := 0) bd_309_0
  have r34 := y_DD.fr p0 (g18 329 0 (by decide)) (g18 329 1 (by decide)) (fun b => g18 359 b (by decide)) (fun b => g18 374 b (by decide))
  have r35 := y_TA.fr p1 (fun a b h => g18 a b (by omega)) (fun a b h => g18 a b (by omega)) (fun a b h => g18 a b (by omega))
  have r36 := y_B.fr p2 (g19 20 (by decide)) (g18 316 0 (by decide)) (fun b => g18 3220 b (by decide)) (fun b => g18 3221 b (by decide)) (fun b => g18 3222 b (by decide)) (fun b => g18 361 b (by decide))
  have r37 := y_K.fr p3 (by omega) (by omega) (g19 44 (by decide)) (g19 20 (by decide)) (g19 58 (by decide)) (fun b => g18 3438 b (by decide)) (fun b => g18 3220 b (by decide)) (fun a b h => g18 a b (by omega))
  have r38 := y_PU.fr p4 (g19 20 (by decide)) (g18 316 0 (by decide)) (fun b => g18 346 b (by decide)) (fun b => g18 361 b (by decide)) (fun b => g18 3220 b (by decide)) (fun b => g18 3221 b (by decide)) (fun b => g18 3222 b (by decide)) (fun b => g18 3223 b (by decide))
  have r39 := y_TT.fr r14 (fun a b h => g18 a b (by omega)) (fun a b h => g18 a b (by omega)) (fun a b h => g18 a b (by omega)) (fun a b h => g18 a b (by omega)) (fun a b h => g18 a b (by omega)) (fun a b h => g18 a b (by omega)) (fun a b h => g18 a b (by omega))
  refine T_if1 (by decide +kernel) ?_
  refine T_leq (fun x40 e41 => ?_)
  have u42 := CI_b c16 (k := 309) (j := 2) bd_309_2
  refine T_useI (sf_X12_in hfu s15 c16 a1 0 x40 (by omega) (by omega) (by omega)) (fun v48 s43 hq => ?_)
  obtain ⟨c44, f45, ⟨x47, rfl, b49, b50, o51⟩⟩ := hq
  refine T_vI ?_
  have q52 := z_Fr.eq (fun a b h => h) f45
  subst q52
  refine T_ite (fun h53 => ?_) (fun h53 => ?_)
  · exact sj_X12_more__309T_J23 hfu r0 s15 c16 f17 a1 0 (by omega) (by omega) (by omega) (by omega) (by omega) (by first | exact r34 | exact y_DD.z (by omega) (by omega)) (by omega) r39 (by omega) (by omega) r35 r36 (by first | exact r37 | exact y_K.b0 (by omega) | exact y_K.k0 (by omega) | exact y_K.bk (by omega)) r38
  · exact sj_X12_more__309T_J23 hfu r0 s15 c16 f17 a1 1 (by omega) (by omega) (by omega) (by omega) (by omega) (by first | exact r34 | exact y_DD.z (by omega) (by omega)) (by omega) r39 (by omega) (by omega) r35 r36 (by first | exact r37 | exact y_K.b0 (by omega) | exact y_K.k0 (by omega) | exact y_K.bk (by omega)) r38
abbrev P_X12_undo_309T (r0 : z_M) : z_V → z_M → Prop := fun v s' => z_CI s' ∧ z_Fr R_X12_undo_309 r0 s' ∧ (y_TA s') ∧ (y_DD s') ∧ (y_B s') ∧ (y_K s') ∧ (y_PU s') ∧ (∃ x, v = vI x ∧ -2147483648 ≤ x ∧ x ≤ 2147483647 ∧ (y_UZ r0 s' x))
set_option maxHeartbeats 4000000 in
theorem sf_X12_undo_309T {fu : Nat} (hfu : 8589934592 ≤ fu) (r0 : z_M) (c0 : z_CI r0) (p0 : y_TA r0) (p1 : y_DD r0) (p2 : y_B r0) (p3 : y_K r0) (p4 : y_PU r0) : z_T (fX12_undo fu r0 309) (P_X12_undo_309T r0) := by
  refine T_of (fX12_undo.eq_1 ..) ?_
  have u1 := CI_b c0 (k := 309) (j := 19) bd_309_19
  have u2 := CI_b c0 (k := 309) (j := 20) bd_309_20
  have u3 := CI_b c0 (k := 309) (j := 36) bd_309_36
  have u4 := CI_b c0 (k := 309) (j := 43) bd_309_43
  have u5 := CI_b c0 (k := 309) (j := 44) bd_309_44
  have u6 := CI_b c0 (k := 309) (j := 58) bd_309_58
  have u7 := CI_b c0 (k := 316) (j := 0) bd_316_0
  have u8 := CI_b c0 (k := 329) (j := 0) bd_329_0
  have u9 := CI_b c0 (k := 329) (j := 1) bd_329_1
  have r10 : y_TT r0 r0 := y_TT.rf
  refine T_if1 (by decide +kernel) ?_
  refine T_upg c0 bd_309_0 (by omega) (fun s11 c12 g14 g15 e16 => ?_)
  have f13 := z_Fr.upf (R := R_X12_undo_309) z_Fr.rf g14 g15 (Or.inr (Or.inr (⟨rfl, by decide⟩)))
  have t17 : s11 309 19 = r0 309 19 := g15 19 (by decide)
  have t18 : s11 309 20 = r0 309 20 := g15 20 (by decide)
  have t19 : s11 309 36 = r0 309 36 := g15 36 (by decide)
  have t20 : s11 309 43 = r0 309 43 := g15 43 (by decide)
  have t21 : s11 309 44 = r0 309 44 := g15 44 (by decide)
  have t22 : s11 309 58 = r0 309 58 := g15 58 (by decide)
  have t23 : s11 316 0 = r0 316 0 := g14 316 0 (by decide)
  have t24 : s11 329 0 = r0 329 0 := g14 329 0 (by decide)
  have t25 : s11 329 1 = r0 329 1 := g14 329 1 (by decide)
  have r26 := y_TA.fr p0 (fun a b h => g14 a b (by omega)) (fun a b h => g14 a b (by omega)) (fun a b h => g14 a b (by omega))
  have r27 := y_DD.fr p1 (g14 329 0 (by decide)) (g14 329 1 (by decide)) (fun b => g14 359 b (by decide)) (fun b => g14 374 b (by decide))
  have r28 := y_B.fr p2 (g15 20 (by decide)) (g14 316 0 (by decide)) (fun b => g14 3220 b (by decide)) (fun b => g14 3221 b (by decide)) (fun b => g14 3222 b (by decide)) (fun b => g14 361 b (by decide))
  have r29 := y_K.fr p3 (by omega) (by omega) (g15 44 (by decide)) (g15 20 (by decide)) (g15 58 (by decide)) (fun b => g14 3438 b (by decide)) (fun b => g14 3220 b (by decide)) (fun a b h => g14 a b (by omega))
  have r30 := y_PU.fr p4 (g15 20 (by decide)) (g14 316 0 (by decide)) (fun b => g14 346 b (by decide)) (fun b => g14 361 b (by decide)) (fun b => g14 3220 b (by decide)) (fun b => g14 3221 b (by decide)) (fun b => g14 3222 b (by decide)) (fun b => g14 3223 b (by decide))
  have r31 := y_TT.fr r10 (fun a b h => g14 a b (by omega)) (fun a b h => g14 a b (by omega)) (fun a b h => g14 a b (by omega)) (fun a b h => g14 a b (by omega)) (fun a b h => g14 a b (by omega)) (fun a b h => g14 a b (by omega)) (fun a b h => g14 a b (by omega))
  refine T_if1 (by decide +kernel) ?_
  refine T_leq (fun x32 e33 => ?_)
  have u34 := CI_b c12 (k := 309) (j := 19) bd_309_19
  refine T_ite (fun h35 => ?_) (fun h35 => ?_)
  · refine T_if1 (by decide +kernel) ?_
    refine T_leq (fun x36 e37 => ?_)
    have q38 : x32 = x36 := e33.symm.trans e37
    subst q38
    refine T_if1 (by decide +kernel) ?_
    refine T_useN (sf_X12_copies_309T hfu s11 c12 x32 0 (by omega) (by omega) (by omega)) (fun v44 s39 hq => ?_)
    obtain ⟨c40, f41, o45, o46, o47, rfl⟩ := hq
    refine T_vN ?_
    have f42 := z_Fr.tr (R := R_X12_undo_309) f13 f41 rs_X12_copies_309__X12_undo_309
    have t50 : s39 309 19 = x32 := (f41 309 19 (by decide)).trans e33
    have t51 : s39 309 20 = r0 309 20 := (f41 309 20 (by decide)).trans t18
    have t52 : s39 309 36 = r0 309 36 := (f41 309 36 (by decide)).trans t19
    have t53 : s39 309 43 = r0 309 43 := (f41 309 43 (by decide)).trans t20
    have t54 : s39 309 44 = r0 309 44 := (f41 309 44 (by decide)).trans t21
    have t55 : s39 309 58 = r0 309 58 := (f41 309 58 (by decide)).trans t22
    have u56 := CI_b c40 (k := 316) (j := 0) bd_316_0
    have u57 := CI_b c40 (k := 329) (j := 0) bd_329_0
    have u58 := CI_b c40 (k := 329) (j := 1) bd_329_1
    have r59 := y_K.fr r29 (by omega) (by omega) (f41 309 44 (by decide)) (f41 309 20 (by decide)) (f41 309 58 (by decide)) (fun b => f41 3438 b (nr_X12_copies_309__3438 b)) (fun b => f41 3220 b (nr_X12_copies_309__3220 b)) (fun a b h => f41 a b (nz_X12_copies_309__3452_3651 a b h))
    have r60 := y_CP.TA o45 c12 (by omega) r26
    have r61 := y_CP.DDk o45 (by omega) r27
    have r62 : y_UR r0 s39 := y_UR.mk r31 o46 o47 (by omega) (by omega)
    clear t18
    clear t19
    clear t20
    clear t21
    clear t22
    refine T_if1 (by decide +kernel) ?_
    refine T_leq (fun x63 e64 => ?_)
    have q65 : x32 = x63 := t50.symm.trans e64
    subst q65
    refine T_leq (fun x66 e67 => ?_)
    first | (have w68 := z_wx e67 (by omega)) | (have w68 := z_wr e67)
    refine T_if1 (by decide +kernel) ?_
    refine T_upg c40 bd_309_19 (by omega) (fun s69 c70 g72 g73 e74 => ?_)
    have f71 := z_Fr.upf (R := R_X12_undo_309) f42 g72 g73 (Or.inr (Or.inr (⟨rfl, by decide⟩)))
    have t75 : s69 309 20 = r0 309 20 := (g73 20 (by decide)).trans t51
    have t76 : s69 309 36 = r0 309 36 := (g73 36 (by decide)).trans t52
    have t77 : s69 309 43 = r0 309 43 := (g73 43 (by decide)).trans t53
    have t78 : s69 309 44 = r0 309 44 := (g73 44 (by decide)).trans t54
    have t79 : s69 309 58 = r0 309 58 := (g73 58 (by decide)).trans t55
    have t80 : s69 316 0 = s39 316 0 := g72 316 0 (by decide)
    have t81 : s69 329 0 = s39 329 0 := g72 329 0 (by decide)
    have t82 : s69 329 1 = s39 329 1 := g72 329 1 (by decide)
    have u83 := CI_b c70 (k := 309) (j := 19) bd_309_19
    have r84 := y_K.fr r59 (by omega) (by omega) (g73 44 (by decide)) (g73 20 (by decide)) (g73 58 (by decide)) (fun b => g72 3438 b (by decide)) (fun b => g72 3220 b (by decide)) (fun a b h => g72 a b (by omega))
    have r85 := y_TA.fr r60 (fun a b h => g72 a b (by omega)) (fun a b h => g72 a b (by omega)) (fun a b h => g72 a b (by omega))
    have r86 := y_DD.fr r61 (g72 329 0 (by decide)) (g72 329 1 (by decide)) (fun b => g72 359 b (by decide)) (fun b => g72 374 b (by decide))
    have r87 := y_UR.fr r62 (fun a b h => g72 a b (by omega)) (fun a b h => g72 a b (by omega)) (fun a b h => g72 a b (by omega)) (fun a b h => g72 a b (by omega)) (fun a b h => g72 a b (by omega)) (fun a b h => g72 a b (by omega)) (fun a b h => g72 a b (by omega))
    clear t51
    clear t52
    clear t53
    clear t54
    clear t55
    refine T_if1 (by decide +kernel) ?_
    refine T_useN (sf_X12_laysUnits_309T hfu s69 c70 r85) (fun v93 s88 hq => ?_)
    obtain ⟨c89, f90, o94, o95, o96, rfl⟩ := hq
    refine T_vN ?_
    have f91 := z_Fr.tr (R := R_X12_undo_309) f71 f90 rs_X12_laysUnits_309__X12_undo_309
    have t99 : s88 309 19 = s69 309 19 := f90 309 19 (by decide)
    have t100 : s88 309 43 = r0 309 43 := (f90 309 43 (by decide)).trans t77
    have t101 : s88 309 44 = r0 309 44 := (f90 309 44 (by decide)).trans t78
    have t102 : s88 309 58 = r0 309 58 := (f90 309 58 (by decide)).trans t79
    have t103 : s88 316 0 = s39 316 0 := (f90 316 0 (by decide)).trans t80
    have t104 : s88 329 0 = s39 329 0 := (f90 329 0 (by decide)).trans t81
    have t105 : s88 329 1 = s39 329 1 := (f90 329 1 (by decide)).trans t82
    have u106 := CI_b c89 (k := 309) (j := 20) bd_309_20
    have u107 := CI_b c89 (k := 309) (j := 36) bd_309_36
    have r108 := y_TA.fr r85 (fun a b h => f90 a b (nz_X12_laysUnits_309__316_328 a b h)) (fun a b h => f90 a b (nz_X12_laysUnits_309__346_358 a b h)) (fun a b h => f90 a b (nz_X12_laysUnits_309__361_373 a b h))
    have r109 := y_DD.fr r86 (f90 329 0 (by decide)) (f90 329 1 (by decide)) (fun b => f90 359 b (nr_X12_laysUnits_309__359 b)) (fun b => f90 374 b (nr_X12_laysUnits_309__374 b))
    have r110 := y_UR.fr r87 (fun a b h => f90 a b (nz_X12_laysUnits_309__316_329 a b h)) (fun a b h => f90 a b (nz_X12_laysUnits_309__331_344 a b h)) (fun a b h => f90 a b (nz_X12_laysUnits_309__346_359 a b h)) (fun a b h => f90 a b (nz_X12_laysUnits_309__361_374 a b h)) (fun a b h => f90 a b (nz_X12_laysUnits_309__376_389 a b h)) (fun a b h => f90 a b (nz_X12_laysUnits_309__391_404 a b h)) (fun a b h => f90 a b (nz_X12_laysUnits_309__407_3219 a b h))
    clear t77
    clear t78
    clear t79
    clear t80
    clear t81
    clear t82
    refine T_if1 (by decide +kernel) ?_
    refine T_leq (fun x111 e112 => ?_)
    have u113 := CI_b c89 (k := 309) (j := 20) bd_309_20
    exact T_ret ⟨c89, f91, r108, (by first | exact r109 | exact y_DD.z (by omega) (by omega)), o94, (by first | exact y_K.b0 (by omega) | exact y_K.k0 (by omega) | exact y_K.bk (by omega)), o96, ⟨x111, rfl, by omega, by omega, (by first | exact y_UZ.y r110 (by omega) (by omega))⟩⟩
  · exact T_ret ⟨c12, f13, r26, (by first | exact r27 | exact y_DD.z (by omega) (by omega)), r28, (by first | exact r29 | exact y_K.b0 (by omega) | exact y_K.k0 (by omega) | exact y_K.bk (by omega)), r30, ⟨(-1), rfl, by omega, by omega, (by first | exact y_UZ.z r31 (by omega) (by omega) (by omega))⟩⟩
abbrev P_X12_isUnit_309T (r0 : z_M) (a1 : Int) : z_V → z_M → Prop := fun v s' => z_CI s' ∧ z_Fr R_X12_isUnit_309 r0 s' ∧ (∃ x, v = vI x ∧ 0 ≤ x ∧ x ≤ 1 ∧ ((x = 1 ∧ 0 ≤ a1 ∧ a1 < r0 309 20) ∨ (x = 0 ∧ (a1 < 0 ∨ r0 309 20 ≤ a1))))
theorem sf_X12_isUnit_309T {fu : Nat} (hfu : 8589934592 ≤ fu) (r0 : z_M) (c0 : z_CI r0) (a1 : Int) (b1 : -2147483648 ≤ a1 ∧ a1 ≤ 2147483647) : z_T (fX12_isUnit fu r0 309 a1) (P_X12_isUnit_309T r0 a1) := by
  refine T_of (fX12_isUnit.eq_1 ..) ?_
  have u1 := CI_b c0 (k := 309) (j := 20) bd_309_20
  refine T_if1 (by decide +kernel) ?_
  refine T_leq (fun x2 e3 => ?_)
  have u4 := CI_b c0 (k := 309) (j := 20) bd_309_20
  refine T_leq (fun x5 e6 => ?_)
  first | (have w7 := z_wx e6 (by omega)) | (have w7 := z_wr e6)
  refine T_useI (sf_X12_in hfu r0 c0 a1 0 x5 (by omega) (by omega) (by omega)) (fun v13 s8 hq => ?_)
  obtain ⟨c9, f10, ⟨x12, rfl, b14, b15, o16⟩⟩ := hq
  refine T_vI ?_
  have q17 := z_Fr.eq (fun a b h => h) f10
  subst q17
  refine T_if1 (by unfold z_bl; omega) ?_
  exact T_ret ⟨c0, z_Fr.rf, ⟨x12, rfl, by omega, by omega, (by omega)⟩⟩
abbrev P_X12_cut_309T (r0 : z_M) (a1 : Int) (a2 : Int) : z_V → z_M → Prop := fun v s' => z_CI s' ∧ z_Fr R_X12_cut_309 r0 s' ∧ (y_TA s') ∧ (y_DD s') ∧ (y_B s') ∧ (y_K s') ∧ (y_PU s') ∧ (s' 309 5 = r0 309 5) ∧ ((s' 309 0 = 1 ∧ (a1 < 0 ∨ r0 309 20 ≤ a1 ∨ a2 < 0 ∨ r0 309 20 ≤ a2)) ∨ (s' 309 0 = 2 ∧ 0 ≤ a1 ∧ a1 < r0 309 20 ∧ 0 ≤ a2 ∧ a2 < r0 309 20 ∧ a2 < a1) ∨ (s' 309 0 = 0 ∧ 0 ≤ a1 ∧ a1 < r0 309 20 ∧ 0 ≤ a2 ∧ a2 < r0 309 20 ∧ a1 ≤ a2)) ∧ (∃ x, v = vI x ∧ -2147483648 ≤ x ∧ x ≤ 2147483647 ∧ (y_CCP r0 s' a1 a2 x))
theorem sj_X12_cut_309T_J54 {fu : Nat} (hfu : 8589934592 ≤ fu) (r0 s : z_M) (c : z_CI s) (f : z_Fr R_X12_cut_309 r0 s) (a1 : Int) (a2 : Int) (p0 : y_TA s) (p1 : y_DD s) (p2 : y_B s) (p3 : y_K s) (p4 : s 309 5 = r0 309 5) (p5 : s 309 19 = r0 309 19) (p6 : y_TT r0 s) (p7 : y_PU s) (p8 : y_WF s) (p9 : s 309 20 = r0 309 20) (p10 : y_FS r0 s) (p11 : s 316 2 = r0 316 2) (p12 : a1 < 0 ∨ r0 309 20 ≤ a1 ∨ a2 < 0 ∨ r0 309 20 ≤ a2 ∨ a2 < a1) (p13 : (s 309 0 = 1 ∧ (a1 < 0 ∨ r0 309 20 ≤ a1 ∨ a2 < 0 ∨ r0 309 20 ≤ a2)) ∨ (s 309 0 = 2 ∧ 0 ≤ a1 ∧ a1 < r0 309 20 ∧ 0 ≤ a2 ∧ a2 < r0 309 20 ∧ a2 < a1)) : z_T (fX12_cut_J54 fu s) (P_X12_cut_309T r0 a1 a2) := by
  refine T_of (fX12_cut_J54.eq_1 ..) ?_
  have u1 := CI_b c (k := 309) (j := 0) bd_309_0
  have u2 := CI_b c (k := 309) (j := 5) bd_309_5
  have u3 := CI_b c (k := 309) (j := 19) bd_309_19
  have u4 := CI_b c (k := 309) (j := 20) bd_309_20
  have u5 := CI_b c (k := 309) (j := 36) bd_309_36
  have u6 := CI_b c (k := 309) (j := 43) bd_309_43
  have u7 := CI_b c (k := 309) (j := 44) bd_309_44
  have u8 := CI_b c (k := 309) (j := 58) bd_309_58
  have u9 := CI_b c (k := 316) (j := 0) bd_316_0
  have u10 := CI_b c (k := 316) (j := 2) bd_316_2
  have u11 := CI_b c (k := 329) (j := 0) bd_329_0
  have u12 := CI_b c (k := 329) (j := 1) bd_329_1
  have u13 := CI_b c (k := 329) (j := 2) bd_329_2
  have t14 : s 309 5 = r0 309 5 := f 309 5 (by decide)
  have t15 : s 309 43 = r0 309 43 := f 309 43 (by decide)
  have t16 : s 309 44 = r0 309 44 := f 309 44 (by decide)
  have t17 : s 309 58 = r0 309 58 := f 309 58 (by decide)
  exact T_ret ⟨c, f, p0, (by first | exact p1 | exact y_DD.z (by omega) (by omega)), p2, (by first | exact p3 | exact y_K.b0 (by omega) | exact y_K.k0 (by omega) | exact y_K.bk (by omega)), p7, (by omega), (by omega), ⟨0, rfl, by omega, by omega, (by first | exact y_CCP.no p6 (by omega) (by omega))⟩⟩
theorem sl_X12_cut_309T_L100 {fu : Nat} (hfu : 8589934592 ≤ fu) (r0 : z_M) (a1 : Int) (a2 : Int) (a3 : Int) (a4 : Int) (a5 : Int) (a6 : Int) (a7 : Int) (a8 : Int) (b3 : -2147483648 ≤ a3 ∧ a3 ≤ 2147483647) (b4 : -2147483648 ≤ a4 ∧ a4 ≤ 2147483647) (b5 : -2147483648 ≤ a5 ∧ a5 ≤ 2147483647) (b6 : -2147483648 ≤ a6 ∧ a6 ≤ 2147483647) (b7 : -2147483648 ≤ a7 ∧ a7 ≤ 2147483647) (b8 : -2147483648 ≤ a8 ∧ a8 ≤ 2147483647) {k : z_M → z_O} (hk : ∀ (s' : z_M), z_CI s' → z_Fr R_X12_cut_309 r0 s' → (y_TA s') → (y_K s') → (s' 309 5 = r0 309 5) → (s' 309 19 = r0 309 19) → (y_TT r0 s') → (y_WF s') → (s' 329 2 = r0 316 2) → (y_UB s' a3 a4) → (y_AQ r0 a1 a2 a3 a4) → (y_CZ s' 200) → (s' 309 0 = 0) → (0 ≤ a1 ∧ a1 < r0 309 20 ∧ 0 ≤ a2 ∧ a2 < r0 309 20 ∧ a1 ≤ a2) → z_T (k s') (P_X12_cut_309T r0 a1 a2)) : ∀ (F : Nat) (s : z_M) (a9 : Int), z_CI s → z_Fr R_X12_cut_309 r0 s → (0 ≤ a9 ∧ a9 ≤ 200) → (y_TA s) → (y_K s) → (s 309 5 = r0 309 5) → (s 309 19 = r0 309 19) → (y_TT r0 s) → (y_WF s) → (s 329 2 = r0 316 2) → (y_UB s a3 a4) → (y_AQ r0 a1 a2 a3 a4) → (y_CZ s a9) → (s 309 0 = 0) → (0 ≤ a1 ∧ a1 < r0 309 20 ∧ 0 ≤ a2 ∧ a2 < r0 309 20 ∧ a1 ≤ a2) → (2147483647 - a9 < (F : Int)) → z_T (fX12_cut_L100 fu 309 a3 a4 a5 a6 a7 a8 F s a9 k) (P_X12_cut_309T r0 a1 a2) := by
  intro F
  induction F with
  | zero =>
    intro s a9 c f b9 i0 i1 i2 i3 i4 i5 i6 i7 i8 i9 i10 i11 hm
    have u48 := CI_b c (k := 309) (j := 0) bd_309_0
    have u49 := CI_b c (k := 309) (j := 5) bd_309_5
    have u50 := CI_b c (k := 309) (j := 19) bd_309_19
    have u51 := CI_b c (k := 309) (j := 20) bd_309_20
    have u52 := CI_b c (k := 309) (j := 36) bd_309_36
    have u53 := CI_b c (k := 309) (j := 43) bd_309_43
    have u54 := CI_b c (k := 309) (j := 44) bd_309_44
    have u55 := CI_b c (k := 309) (j := 58) bd_309_58
    have u56 := CI_b c (k := 316) (j := 0) bd_316_0
    have u57 := CI_b c (k := 316) (j := 2) bd_316_2
    have u58 := CI_b c (k := 329) (j := 0) bd_329_0
    have u59 := CI_b c (k := 329) (j := 1) bd_329_1
    have u60 := CI_b c (k := 329) (j := 2) bd_329_2
    exfalso; omega
  | succ F ih =>
    intro s a9 c f b9 i0 i1 i2 i3 i4 i5 i6 i7 i8 i9 i10 i11 hm
    refine T_of (fX12_cut_L100.eq_2 ..) ?_
    have u1 := CI_b c (k := 309) (j := 0) bd_309_0
    have u2 := CI_b c (k := 309) (j := 5) bd_309_5
    have u3 := CI_b c (k := 309) (j := 19) bd_309_19
    have u4 := CI_b c (k := 309) (j := 20) bd_309_20
    have u5 := CI_b c (k := 309) (j := 36) bd_309_36
    have u6 := CI_b c (k := 309) (j := 43) bd_309_43
    have u7 := CI_b c (k := 309) (j := 44) bd_309_44
    have u8 := CI_b c (k := 309) (j := 58) bd_309_58
    have u9 := CI_b c (k := 316) (j := 0) bd_316_0
    have u10 := CI_b c (k := 316) (j := 2) bd_316_2
    have u11 := CI_b c (k := 329) (j := 0) bd_329_0
    have u12 := CI_b c (k := 329) (j := 1) bd_329_1
    have u13 := CI_b c (k := 329) (j := 2) bd_329_2
    have t14 : s 309 5 = r0 309 5 := f 309 5 (by decide)
    have t15 : s 309 43 = r0 309 43 := f 309 43 (by decide)
    have t16 : s 309 44 = r0 309 44 := f 309 44 (by decide)
    have t17 : s 309 58 = r0 309 58 := f 309 58 (by decide)
    refine T_ite (fun h18 => ?_) (fun h18 => ?_)
    · exact hk s c f i0 (by first | exact i1 | exact y_K.b0 (by omega) | exact y_K.k0 (by omega) | exact y_K.bk (by omega)) (by omega) (by omega) i4 i5 (by omega) (by first | exact y_UB.cg i7 (by omega) (by omega)) (by first | exact y_AQ.cg i8 (by omega) (by omega) (by omega) (by omega)) (by first | exact y_CZ.cg i9 (by omega) | exact y_CZ.z (by omega)) (by omega) (by omega)
    · refine T_if1 (by decide +kernel) ?_
      refine T_let 7657 (by decide +kernel) ?_
      refine T_if1 (z_ixl (n := 200) (by decide +kernel) (by omega) (by omega)) ?_
      refine T_upg c (bdr_7657 a9) (by omega) (fun s19 c20 g22 g23 e24 => ?_)
      have f21 := z_Fr.up (R := R_X12_cut_309) f g22 (fun _ => (Or.inr (Or.inr (Or.inr (Or.inl (⟨by decide, by decide⟩))))))
      have t25 : s19 309 0 = s 309 0 := g22 309 0 (by decide)
      have t26 : s19 309 5 = s 309 5 := g22 309 5 (by decide)
      have t27 : s19 309 19 = s 309 19 := g22 309 19 (by decide)
      have t28 : s19 309 20 = s 309 20 := g22 309 20 (by decide)
      have t29 : s19 309 36 = s 309 36 := g22 309 36 (by decide)
      have t30 : s19 309 43 = s 309 43 := g22 309 43 (by decide)
      have t31 : s19 309 44 = s 309 44 := g22 309 44 (by decide)
      have t32 : s19 309 58 = s 309 58 := g22 309 58 (by decide)
      have t33 : s19 316 0 = s 316 0 := g22 316 0 (by decide)
      have t34 : s19 316 2 = s 316 2 := g22 316 2 (by decide)
      have t35 : s19 329 0 = s 329 0 := g22 329 0 (by decide)
      have t36 : s19 329 1 = s 329 1 := g22 329 1 (by decide)
      have t37 : s19 329 2 = s 329 2 := g22 329 2 (by decide)
      have r38 := y_TA.fr i0 (fun a b h => g22 a b (by omega)) (fun a b h => g22 a b (by omega)) (fun a b h => g22 a b (by omega))
      have r39 := y_K.fr i1 (by omega) (by omega) (g22 309 44 (by decide)) (g22 309 20 (by decide)) (g22 309 58 (by decide)) (fun b => g22 3438 b (by decide)) (fun b => g22 3220 b (by decide)) (fun a b h => g22 a b (by omega))
      have r40 := y_TT.fr i4 (fun a b h => g22 a b (by omega)) (fun a b h => g22 a b (by omega)) (fun a b h => g22 a b (by omega)) (fun a b h => g22 a b (by omega)) (fun a b h => g22 a b (by omega)) (fun a b h => g22 a b (by omega)) (fun a b h => g22 a b (by omega))
      have r41 := y_WF.fr i5 (g22 316 0 (by decide)) (fun b => g22 346 b (by decide)) (fun b => g22 361 b (by decide))
      have r42 := y_UB.fr i7 (g22 316 0 (by decide)) (fun b => g22 346 b (by decide)) (fun b => g22 361 b (by decide))
      have r43 := id i8 
      have r44 : y_CZ s19 (a9 + 1) := y_CZ.st i9 g23 e24 (by omega) (by omega)
      refine T_leq (fun x45 e46 => ?_)
      first | (have w47 := z_wx e46 (by omega)) | (have w47 := z_wr e46)
      exact ih s19 x45 c20 f21 (by omega) r38 (by first | exact r39 | exact y_K.b0 (by omega) | exact y_K.k0 (by omega) | exact y_K.bk (by omega)) (by omega) (by omega) r40 r41 (by omega) (by first | exact y_UB.cg r42 (by omega) (by omega)) (by first | exact y_AQ.cg r43 (by omega) (by omega) (by omega) (by omega)) (by first | exact y_CZ.cg r44 (by omega) | exact y_CZ.z (by omega)) (by omega) (by omega) (by omega)
theorem sj_X12_cut_309T_J369 {fu : Nat} (hfu : 8589934592 ≤ fu) (r0 s : z_M) (c : z_CI s) (f : z_Fr R_X12_cut_309 r0 s) (a3 : Int) (a4 : Int) (a5 : Int) (a6 : Int) (a7 : Int) (a8 : Int) (a9 : Int) (a1 : Int) (a2 : Int) (b3 : -2147483648 ≤ a3 ∧ a3 ≤ 2147483647) (b4 : -2147483648 ≤ a4 ∧ a4 ≤ 2147483647) (b5 : 0 ≤ a5 ∧ a5 ≤ 200) (b6 : 0 ≤ a6 ∧ a6 ≤ 200) (b7 : (-1) ≤ a7 ∧ a7 ≤ 199) (b8 : -2147483648 ≤ a8 ∧ a8 ≤ 2147483647) (b9 : 0 ≤ a9 ∧ a9 ≤ 199) (p0 : a6 ≤ a5) (p1 : a5 ≤ a9 + 1) (p2 : (a6 = 0 ∧ a7 = -1 ∧ a8 = -1) ∨ (0 ≤ a7 ∧ a7 ≤ a6 - 1)) (p3 : y_D s a5) (p4 : y_TA s) (p5 : y_K s) (p6 : a9 < s 316 0) (p7 : s 309 5 = r0 309 5) (p8 : s 309 19 = r0 309 19) (p9 : y_TT r0 s) (p10 : y_WF s) (p11 : s 329 2 = r0 316 2) (p12 : y_UB s a3 a4) (p13 : y_AQ r0 a1 a2 a3 a4) (p14 : y_CU s a3 a4 (a9 + 1) a5 a6) (p15 : s 309 0 = 0) (p16 : 0 ≤ a1 ∧ a1 < r0 309 20 ∧ 0 ≤ a2 ∧ a2 < r0 309 20 ∧ a1 ≤ a2) (p17 : y_CG s a6 a7 a8) (M : Int) (pm : 2147483647 - a9 ≤ M) {r : z_M → Int → Int → Int → Int → Int → z_O} {k : z_M → Int → Int → z_O} (hr : ∀ (s' : z_M) (v5 : Int) (v6 : Int) (v7 : Int) (v8 : Int) (v9 : Int), z_CI s' → z_Fr R_X12_cut_309 r0 s' → (0 ≤ v5 ∧ v5 ≤ 200) → (0 ≤ v6 ∧ v6 ≤ 200) → ((-1) ≤ v7 ∧ v7 ≤ 199) → (-2147483648 ≤ v8 ∧ v8 ≤ 2147483647) → (0 ≤ v9 ∧ v9 ≤ 200) → (v6 ≤ v5) → (v5 ≤ v9) → ((v6 = 0 ∧ v7 = -1 ∧ v8 = -1) ∨ (0 ≤ v7 ∧ v7 ≤ v6 - 1)) → (y_D s' v5) → (y_TA s') → (y_K s') → (v9 ≤ s' 316 0) → (s' 309 5 = r0 309 5) → (s' 309 19 = r0 309 19) → (y_TT r0 s') → (y_WF s') → (s' 329 2 = r0 316 2) → (y_UB s' a3 a4) → (y_AQ r0 a1 a2 a3 a4) → (y_CU s' a3 a4 v9 v5 v6) → (s' 309 0 = 0) → (0 ≤ a1 ∧ a1 < r0 309 20 ∧ 0 ≤ a2 ∧ a2 < r0 309 20 ∧ a1 ≤ a2) → (y_CG s' v6 v7 v8) → (2147483647 - v9 < M) → z_T (r s' v5 v6 v7 v8 v9) (P_X12_cut_309T r0 a1 a2)) (hk : ∀ (s' : z_M) (v5 : Int) (v6 : Int), z_CI s' → z_Fr R_X12_cut_309 r0 s' → (0 ≤ v5 ∧ v5 ≤ 200) → (0 ≤ v6 ∧ v6 ≤ 200) → (v6 ≤ v5) → (y_D s' v5) → (y_TA s') → (y_K s') → (s' 309 5 = r0 309 5) → (s' 309 19 = r0 309 19) → (y_TT r0 s') → (y_WF s') → (s' 329 2 = r0 316 2) → (y_UB s' a3 a4) → (y_AQ r0 a1 a2 a3 a4) → (y_CU s' a3 a4 (s' 316 0) v5 v6) → (s' 309 0 = 0) → (0 ≤ a1 ∧ a1 < r0 309 20 ∧ 0 ≤ a2 ∧ a2 < r0 309 20 ∧ a1 ≤ a2) → (y_CGe s' v6) → z_T (k s' v5 v6) (P_X12_cut_309T r0 a1 a2)) : z_T (fX12_cut_J369 fu s 309 a3 a4 a5 a6 a7 a8 a9 r k) (P_X12_cut_309T r0 a1 a2) := by
  refine T_of (fX12_cut_J369.eq_1 ..) ?_
  have u1 := CI_b c (k := 309) (j := 0) bd_309_0
  have u2 := CI_b c (k := 309) (j := 5) bd_309_5
  have u3 := CI_b c (k := 309) (j := 19) bd_309_19
  have u4 := CI_b c (k := 309) (j := 20) bd_309_20
  have u5 := CI_b c (k := 309) (j := 36) bd_309_36
  have u6 := CI_b c (k := 309) (j := 43) bd_309_43
  have u7 := CI_b c (k := 309) (j := 44) bd_309_44
  have u8 := CI_b c (k := 309) (j := 58) bd_309_58
  have u9 := CI_b c (k := 316) (j := 0) bd_316_0
  have u10 := CI_b c (k := 316) (j := 2) bd_316_2
  have u11 := CI_b c (k := 329) (j := 0) bd_329_0
  have u12 := CI_b c (k := 329) (j := 1) bd_329_1
  have u13 := CI_b c (k := 329) (j := 2) bd_329_2
  have t14 : s 309 5 = r0 309 5 := f 309 5 (by decide)
  have t15 : s 309 43 = r0 309 43 := f 309 43 (by decide)
  have t16 : s 309 44 = r0 309 44 := f 309 44 (by decide)
  have t17 : s 309 58 = r0 309 58 := f 309 58 (by decide)
  refine T_leq (fun x18 e19 => ?_)
  first | (have w20 := z_wx e19 (by omega)) | (have w20 := z_wr e19)
  exact hr s a5 a6 a7 a8 x18 c f (by omega) (by omega) (by omega) (by omega) (by omega) (by omega) (by omega) (by omega) (by first | exact y_D.cg p3 (by omega) | exact y_D.z (by omega) | exact y_D.ex p3 (by omega) (by omega)) p4 (by first | exact p5 | exact y_K.b0 (by omega) | exact y_K.k0 (by omega) | exact y_K.bk (by omega)) (by omega) (by omega) (by omega) p9 p10 (by omega) (by first | exact y_UB.cg p12 (by omega) (by omega)) (by first | exact y_AQ.cg p13 (by omega) (by omega) (by omega) (by omega)) (by first | exact y_CU.cg p14 (by omega) (by omega) (by omega) (by omega) (by omega) | exact y_CU.sk p14 (by omega) (by omega) (by omega) (by omega) (by omega)) (by omega) (by omega) (by first | exact y_CG.cg p17 (by omega) (by omega) (by omega) | exact y_CG.z (by omega) (by omega) (by omega)) (by omega)
set_option maxHeartbeats 4000000 in
theorem sj_X12_cut_309T_J346 {fu : Nat} (hfu : 8589934592 ≤ fu) (r0 s : z_M) (c : z_CI s) (f : z_Fr R_X12_cut_309 r0 s) (a3 : Int) (a4 : Int) (a5 : Int) (a6 : Int) (a7 : Int) (a8 : Int) (a9 : Int) (t1 : Int) (t2 : Int) (a1 : Int) (a2 : Int) (b3 : -2147483648 ≤ a3 ∧ a3 ≤ 2147483647) (b4 : -2147483648 ≤ a4 ∧ a4 ≤ 2147483647) (b5 : 0 ≤ a5 ∧ a5 ≤ 199) (b6 : 0 ≤ a6 ∧ a6 ≤ 200) (b7 : (-1) ≤ a7 ∧ a7 ≤ 199) (b8 : -2147483648 ≤ a8 ∧ a8 ≤ 2147483647) (b9 : 0 ≤ a9 ∧ a9 ≤ 199) (d1 : 0 ≤ t1 ∧ t1 ≤ 199) (d2 : (-1) ≤ t2 ∧ t2 ≤ 199) (p0 : a6 ≤ a5 + 1) (p1 : a5 ≤ a9) (p2 : (a6 = 0 ∧ a7 = -1 ∧ a8 = -1) ∨ (0 ≤ a7 ∧ a7 ≤ a6 - 1)) (p3 : y_TA s) (p4 : y_K s) (p5 : a9 < s 316 0) (p6 : y_D s a5) (p7 : t1 = a5) (p8 : s 359 t1 ≠ 7 ∨ 0 ≤ t2) (p9 : s 309 5 = r0 309 5) (p10 : s 309 19 = r0 309 19) (p11 : y_TT r0 s) (p12 : y_WF s) (p13 : s 329 2 = r0 316 2) (p14 : y_UB s a3 a4) (p15 : y_AQ r0 a1 a2 a3 a4) (p16 : y_CW s a3 a4 a9 a5 a6 t2) (p17 : y_E1 s a5 a9) (p18 : y_E2 s a5 a9) (p19 : s 309 0 = 0) (p20 : 0 ≤ a1 ∧ a1 < r0 309 20 ∧ 0 ≤ a2 ∧ a2 < r0 309 20 ∧ a1 ≤ a2) (p21 : y_CG s a6 a7 a8) (M : Int) (pm : 2147483647 - a9 ≤ M) {r : z_M → Int → Int → Int → Int → Int → z_O} {k : z_M → Int → Int → z_O} (hr : ∀ (s' : z_M) (v5 : Int) (v6 : Int) (v7 : Int) (v8 : Int) (v9 : Int), z_CI s' → z_Fr R_X12_cut_309 r0 s' → (0 ≤ v5 ∧ v5 ≤ 200) → (0 ≤ v6 ∧ v6 ≤ 200) → ((-1) ≤ v7 ∧ v7 ≤ 199) → (-2147483648 ≤ v8 ∧ v8 ≤ 2147483647) → (0 ≤ v9 ∧ v9 ≤ 200) → (v6 ≤ v5) → (v5 ≤ v9) → ((v6 = 0 ∧ v7 = -1 ∧ v8 = -1) ∨ (0 ≤ v7 ∧ v7 ≤ v6 - 1)) → (y_D s' v5) → (y_TA s') → (y_K s') → (v9 ≤ s' 316 0) → (s' 309 5 = r0 309 5) → (s' 309 19 = r0 309 19) → (y_TT r0 s') → (y_WF s') → (s' 329 2 = r0 316 2) → (y_UB s' a3 a4) → (y_AQ r0 a1 a2 a3 a4) → (y_CU s' a3 a4 v9 v5 v6) → (s' 309 0 = 0) → (0 ≤ a1 ∧ a1 < r0 309 20 ∧ 0 ≤ a2 ∧ a2 < r0 309 20 ∧ a1 ≤ a2) → (y_CG s' v6 v7 v8) → (2147483647 - v9 < M) → z_T (r s' v5 v6 v7 v8 v9) (P_X12_cut_309T r0 a1 a2)) (hk : ∀ (s' : z_M) (v5 : Int) (v6 : Int), z_CI s' → z_Fr R_X12_cut_309 r0 s' → (0 ≤ v5 ∧ v5 ≤ 200) → (0 ≤ v6 ∧ v6 ≤ 200) → (v6 ≤ v5) → (y_D s' v5) → (y_TA s') → (y_K s') → (s' 309 5 = r0 309 5) → (s' 309 19 = r0 309 19) → (y_TT r0 s') → (y_WF s') → (s' 329 2 = r0 316 2) → (y_UB s' a3 a4) → (y_AQ r0 a1 a2 a3 a4) → (y_CU s' a3 a4 (s' 316 0) v5 v6) → (s' 309 0 = 0) → (0 ≤ a1 ∧ a1 < r0 309 20 ∧ 0 ≤ a2 ∧ a2 < r0 309 20 ∧ a1 ≤ a2) → (y_CGe s' v6) → z_T (k s' v5 v6) (P_X12_cut_309T r0 a1 a2)) : z_T (fX12_cut_J346 fu s 309 a3 a4 a5 a6 a7 a8 a9 374 t1 t2 r k) (P_X12_cut_309T r0 a1 a2) := by
  refine T_of (fX12_cut_J346.eq_1 ..) ?_
  have u1 := CI_b c (k := 309) (j := 0) bd_309_0
  have u2 := CI_b c (k := 309) (j := 5) bd_309_5
  have u3 := CI_b c (k := 309) (j := 19) bd_309_19
  have u4 := CI_b c (k := 309) (j := 20) bd_309_20
  have u5 := CI_b c (k := 309) (j := 36) bd_309_36
  have u6 := CI_b c (k := 309) (j := 43) bd_309_43
  have u7 := CI_b c (k := 309) (j := 44) bd_309_44
  have u8 := CI_b c (k := 309) (j := 58) bd_309_58
  have u9 := CI_b c (k := 316) (j := 0) bd_316_0
  have u10 := CI_b c (k := 316) (j := 2) bd_316_2
  have u11 := CI_b c (k := 329) (j := 0) bd_329_0
  have u12 := CI_b c (k := 329) (j := 1) bd_329_1
  have u13 := CI_b c (k := 329) (j := 2) bd_329_2
  have t14 : s 309 5 = r0 309 5 := f 309 5 (by decide)
  have t15 : s 309 43 = r0 309 43 := f 309 43 (by decide)
  have t16 : s 309 44 = r0 309 44 := f 309 44 (by decide)
  have t17 : s 309 58 = r0 309 58 := f 309 58 (by decide)
  refine T_if1 (z_ixl (n := 200) (by decide +kernel) (by omega) (by omega)) ?_
  refine T_upg c (bdr_374 t1) (by omega) (fun s18 c19 g21 g22 e23 => ?_)
  have f20 := z_Fr.up (R := R_X12_cut_309) f g21 (fun _ => (Or.inr (Or.inl (⟨by decide, by decide⟩))))
  have t24 : s18 309 0 = s 309 0 := g21 309 0 (by decide)
  have t25 : s18 309 5 = s 309 5 := g21 309 5 (by decide)
  have t26 : s18 309 19 = s 309 19 := g21 309 19 (by decide)
  have t27 : s18 309 20 = s 309 20 := g21 309 20 (by decide)
  have t28 : s18 309 36 = s 309 36 := g21 309 36 (by decide)
  have t29 : s18 309 43 = s 309 43 := g21 309 43 (by decide)
  have t30 : s18 309 44 = s 309 44 := g21 309 44 (by decide)
  have t31 : s18 309 58 = s 309 58 := g21 309 58 (by decide)
  have t32 : s18 316 0 = s 316 0 := g21 316 0 (by decide)
  have t33 : s18 316 2 = s 316 2 := g21 316 2 (by decide)
  have t34 : s18 329 0 = s 329 0 := g21 329 0 (by decide)
  have t35 : s18 329 1 = s 329 1 := g21 329 1 (by decide)
  have t36 : s18 329 2 = s 329 2 := g21 329 2 (by decide)
  have r37 := y_TA.fr p3 (fun a b h => g21 a b (by omega)) (fun a b h => g21 a b (by omega)) (fun a b h => g21 a b (by omega))
  have r38 := y_K.fr p4 (by omega) (by omega) (g21 309 44 (by decide)) (g21 309 20 (by decide)) (g21 309 58 (by decide)) (fun b => g21 3438 b (by decide)) (fun b => g21 3220 b (by decide)) (fun a b h => g21 a b (by omega))
  have r39 := y_TT.fr p11 (fun a b h => g21 a b (by omega)) (fun a b h => g21 a b (by omega)) (fun a b h => g21 a b (by omega)) (fun a b h => g21 a b (by omega)) (fun a b h => g21 a b (by omega)) (fun a b h => g21 a b (by omega)) (fun a b h => g21 a b (by omega))
  have r40 := y_WF.fr p12 (g21 316 0 (by decide)) (fun b => g21 346 b (by decide)) (fun b => g21 361 b (by decide))
  have r41 := y_UB.fr p14 (g21 316 0 (by decide)) (fun b => g21 346 b (by decide)) (fun b => g21 361 b (by decide))
  have r42 := id p15 
  have r43 := y_E1.fr p17 (fun b => g21 344 b (by decide)) (fun b => g21 331 b (by decide))
  have r44 := y_E2.fr p18 (fun b => g21 359 b (by decide)) (fun b => g21 346 b (by decide))
  have r45 := y_CG.fr p21 (fun b => g21 391 b (by decide)) (fun b => g21 404 b (by decide)) (fun b => g21 7657 b (by decide)) (fun a b h => g21 a b (by omega)) (fun a b h => g21 a b (by omega))
  have r46 : y_C3 s18 a3 a4 a9 a5 a6 := y_CW.st p16 g21 g22 e23 (by omega) (by omega)
  have n47 := g21 359 t1 (by decide)
  have r48 : y_D s18 t1 := y_D.cg (y_D.st p6 (fun b h => g21 359 b (by decide)) (fun b h => g22 b (by omega))) (by omega)
  have r49 : y_D s18 (t1 + 1) := y_D.ex r48 (by omega) rfl
  refine T_if1 (by decide +kernel) ?_
  refine T_let 375 (by decide +kernel) ?_
  refine T_if1 (z_ixl (n := 14) (by decide +kernel) (by omega) (by omega)) ?_
  refine T_let 389 (by decide +kernel) ?_
  refine T_if1 (by decide +kernel) ?_
  refine T_let 375 (by decide +kernel) ?_
  refine T_if1 (z_ixl (n := 14) (by decide +kernel) (by omega) (by omega)) ?_
  refine T_let 376 (by decide +kernel) ?_
  refine T_if1 (z_ixl (n := 200) (by decide +kernel) (by omega) (by omega)) ?_
  refine T_leq (fun x50 e51 => ?_)
  have u52 := CI_b c19 (k := 376) (j := a9) (bdr_376 a9)
  refine T_if1 (z_ixl (n := 200) (by decide +kernel) (by omega) (by omega)) ?_
  refine T_upg c19 (bdr_389 a5) (by omega) (fun s53 c54 g56 g57 e58 => ?_)
  have f55 := z_Fr.up (R := R_X12_cut_309) f20 g56 (fun _ => (Or.inr (Or.inl (⟨by decide, by decide⟩))))
  have t59 : s53 309 0 = s 309 0 := (g56 309 0 (by decide)).trans t24
  have t60 : s53 309 5 = s 309 5 := (g56 309 5 (by decide)).trans t25
  have t61 : s53 309 19 = s 309 19 := (g56 309 19 (by decide)).trans t26
  have t62 : s53 309 20 = s 309 20 := (g56 309 20 (by decide)).trans t27
  have t63 : s53 309 36 = s 309 36 := (g56 309 36 (by decide)).trans t28
  have t64 : s53 309 43 = s 309 43 := (g56 309 43 (by decide)).trans t29
  have t65 : s53 309 44 = s 309 44 := (g56 309 44 (by decide)).trans t30
  have t66 : s53 309 58 = s 309 58 := (g56 309 58 (by decide)).trans t31
  have t67 : s53 316 0 = s 316 0 := (g56 316 0 (by decide)).trans t32
  have t68 : s53 316 2 = s 316 2 := (g56 316 2 (by decide)).trans t33
  have t69 : s53 329 0 = s 329 0 := (g56 329 0 (by decide)).trans t34
  have t70 : s53 329 1 = s 329 1 := (g56 329 1 (by decide)).trans t35
  have t71 : s53 329 2 = s 329 2 := (g56 329 2 (by decide)).trans t36
  have r72 := y_TA.fr r37 (fun a b h => g56 a b (by omega)) (fun a b h => g56 a b (by omega)) (fun a b h => g56 a b (by omega))
  have r73 := y_K.fr r38 (by omega) (by omega) (g56 309 44 (by decide)) (g56 309 20 (by decide)) (g56 309 58 (by decide)) (fun b => g56 3438 b (by decide)) (fun b => g56 3220 b (by decide)) (fun a b h => g56 a b (by omega))
  have r74 := y_TT.fr r39 (fun a b h => g56 a b (by omega)) (fun a b h => g56 a b (by omega)) (fun a b h => g56 a b (by omega)) (fun a b h => g56 a b (by omega)) (fun a b h => g56 a b (by omega)) (fun a b h => g56 a b (by omega)) (fun a b h => g56 a b (by omega))
  have r75 := y_WF.fr r40 (g56 316 0 (by decide)) (fun b => g56 346 b (by decide)) (fun b => g56 361 b (by decide))
  have r76 := y_UB.fr r41 (g56 316 0 (by decide)) (fun b => g56 346 b (by decide)) (fun b => g56 361 b (by decide))
  have r77 := id r42 
  have r78 := y_E1.fr r43 (fun b => g56 344 b (by decide)) (fun b => g56 331 b (by decide))
  have r79 := y_E2.fr r44 (fun b => g56 359 b (by decide)) (fun b => g56 346 b (by decide))
  have r80 := y_CG.fr r45 (fun b => g56 391 b (by decide)) (fun b => g56 404 b (by decide)) (fun b => g56 7657 b (by decide)) (fun a b h => g56 a b (by omega)) (fun a b h => g56 a b (by omega))
  have r81 := y_D.fr r48 (fun b => g56 359 b (by decide)) (fun b => g56 374 b (by decide))
  have r82 := y_D.fr r49 (fun b => g56 359 b (by decide)) (fun b => g56 374 b (by decide))
  have r83 : y_CU s53 a3 a4 (a9 + 1) (a5 + 1) a6 := y_C3.done r46 g56 g57 r75 r76 r78 r79 e58 ((g56 376 _ (by decide)).trans e51) rfl
  clear t24
  clear t25
  clear t26
  clear t27
  clear t28
  clear t29
  clear t30
  clear t31
  clear t32
  clear t33
  clear t34
  clear t35
  clear t36
  refine T_leq (fun x84 e85 => ?_)
  first | (have w86 := z_wx e85 (by omega)) | (have w86 := z_wr e85)
  exact sj_X12_cut_309T_J369 hfu r0 s53 c54 f55 a3 a4 x84 a6 a7 a8 a9 a1 a2 (by omega) (by omega) (by omega) (by omega) (by omega) (by omega) (by omega) (by omega) (by omega) (by omega) (by first | exact y_D.cg r82 (by omega) | exact y_D.cg r81 (by omega) | exact y_D.z (by omega) | exact y_D.ex r82 (by omega) (by omega) | exact y_D.ex r81 (by omega) (by omega)) r72 (by first | exact r73 | exact y_K.b0 (by omega) | exact y_K.k0 (by omega) | exact y_K.bk (by omega)) (by omega) (by omega) (by omega) r74 r75 (by omega) (by first | exact y_UB.cg r76 (by omega) (by omega)) (by first | exact y_AQ.cg r77 (by omega) (by omega) (by omega) (by omega)) (by first | exact y_CU.cg r83 (by omega) (by omega) (by omega) (by omega) (by omega) | exact y_CU.sk r83 (by omega) (by omega) (by omega) (by omega) (by omega)) (by omega) (by omega) (by first | exact y_CG.cg r80 (by omega) (by omega) (by omega) | exact y_CG.z (by omega) (by omega) (by omega)) M (by omega) (fun s' v5 v6 v7 v8 v9 c' f' w5 w6 w7 w8 w9 z0 z1 z2 z3 z4 z5 z6 z7 z8 z9 z10 z11 z12 z13 z14 z15 z16 z17 pg => hr s' v5 v6 v7 v8 v9 c' f' w5 w6 w7 w8 w9 z0 z1 z2 z3 z4 z5 z6 z7 z8 z9 z10 z11 z12 z13 z14 z15 z16 z17 (by omega)) hk
set_option maxHeartbeats 4000000 in
theorem sj_X12_cut_309T_J282 {fu : Nat} (hfu : 8589934592 ≤ fu) (r0 s : z_M) (c : z_CI s) (f : z_Fr R_X12_cut_309 r0 s) (a3 : Int) (a4 : Int) (a5 : Int) (a6 : Int) (a7 : Int) (a8 : Int) (a9 : Int) (a10 : Int) (a1 : Int) (a2 : Int) (b3 : -2147483648 ≤ a3 ∧ a3 ≤ 2147483647) (b4 : -2147483648 ≤ a4 ∧ a4 ≤ 2147483647) (b5 : 0 ≤ a5 ∧ a5 ≤ 200) (b6 : 0 ≤ a6 ∧ a6 ≤ 200) (b7 : (-1) ≤ a7 ∧ a7 ≤ 199) (b8 : -2147483648 ≤ a8 ∧ a8 ≤ 2147483647) (b9 : 0 ≤ a9 ∧ a9 ≤ 199) (b10 : (-1) ≤ a10 ∧ a10 ≤ 199) (p0 : a6 ≤ a5 + 1) (p1 : a5 ≤ a9) (p2 : (a6 = 0 ∧ a7 = -1 ∧ a8 = -1) ∨ (0 ≤ a7 ∧ a7 ≤ a6 - 1)) (p3 : y_D s a5) (p4 : y_TA s) (p5 : y_K s) (p6 : a9 < s 316 0) (p7 : y_CB s a9 a10) (p8 : s 309 5 = r0 309 5) (p9 : s 309 19 = r0 309 19) (p10 : y_TT r0 s) (p11 : y_WF s) (p12 : s 329 2 = r0 316 2) (p13 : y_UB s a3 a4) (p14 : y_AQ r0 a1 a2 a3 a4) (p15 : y_CV s a3 a4 a9 a5 a6 a10) (p16 : s 309 0 = 0) (p17 : 0 ≤ a1 ∧ a1 < r0 309 20 ∧ 0 ≤ a2 ∧ a2 < r0 309 20 ∧ a1 ≤ a2) (p18 : y_CG s a6 a7 a8) (M : Int) (pm : 2147483647 - a9 ≤ M) {r : z_M → Int → Int → Int → Int → Int → z_O} {k : z_M → Int → Int → z_O} (hr : ∀ (s' : z_M) (v5 : Int) (v6 : Int) (v7 : Int) (v8 : Int) (v9 : Int), z_CI s' → z_Fr R_X12_cut_309 r0 s' → (0 ≤ v5 ∧ v5 ≤ 200) → (0 ≤ v6 ∧ v6 ≤ 200) → ((-1) ≤ v7 ∧ v7 ≤ 199) → (-2147483648 ≤ v8 ∧ v8 ≤ 2147483647) → (0 ≤ v9 ∧ v9 ≤ 200) → (v6 ≤ v5) → (v5 ≤ v9) → ((v6 = 0 ∧ v7 = -1 ∧ v8 = -1) ∨ (0 ≤ v7 ∧ v7 ≤ v6 - 1)) → (y_D s' v5) → (y_TA s') → (y_K s') → (v9 ≤ s' 316 0) → (s' 309 5 = r0 309 5) → (s' 309 19 = r0 309 19) → (y_TT r0 s') → (y_WF s') → (s' 329 2 = r0 316 2) → (y_UB s' a3 a4) → (y_AQ r0 a1 a2 a3 a4) → (y_CU s' a3 a4 v9 v5 v6) → (s' 309 0 = 0) → (0 ≤ a1 ∧ a1 < r0 309 20 ∧ 0 ≤ a2 ∧ a2 < r0 309 20 ∧ a1 ≤ a2) → (y_CG s' v6 v7 v8) → (2147483647 - v9 < M) → z_T (r s' v5 v6 v7 v8 v9) (P_X12_cut_309T r0 a1 a2)) (hk : ∀ (s' : z_M) (v5 : Int) (v6 : Int), z_CI s' → z_Fr R_X12_cut_309 r0 s' → (0 ≤ v5 ∧ v5 ≤ 200) → (0 ≤ v6 ∧ v6 ≤ 200) → (v6 ≤ v5) → (y_D s' v5) → (y_TA s') → (y_K s') → (s' 309 5 = r0 309 5) → (s' 309 19 = r0 309 19) → (y_TT r0 s') → (y_WF s') → (s' 329 2 = r0 316 2) → (y_UB s' a3 a4) → (y_AQ r0 a1 a2 a3 a4) → (y_CU s' a3 a4 (s' 316 0) v5 v6) → (s' 309 0 = 0) → (0 ≤ a1 ∧ a1 < r0 309 20 ∧ 0 ≤ a2 ∧ a2 < r0 309 20 ∧ a1 ≤ a2) → (y_CGe s' v6) → z_T (k s' v5 v6) (P_X12_cut_309T r0 a1 a2)) : z_T (fX12_cut_J282 fu s 309 a3 a4 a5 a6 a7 a8 a9 a10 r k) (P_X12_cut_309T r0 a1 a2) := by
  refine T_of (fX12_cut_J282.eq_1 ..) ?_
  have u1 := CI_b c (k := 309) (j := 0) bd_309_0
  have u2 := CI_b c (k := 309) (j := 5) bd_309_5
  have u3 := CI_b c (k := 309) (j := 19) bd_309_19
  have u4 := CI_b c (k := 309) (j := 20) bd_309_20
  have u5 := CI_b c (k := 309) (j := 36) bd_309_36
  have u6 := CI_b c (k := 309) (j := 43) bd_309_43
  have u7 := CI_b c (k := 309) (j := 44) bd_309_44
  have u8 := CI_b c (k := 309) (j := 58) bd_309_58
  have u9 := CI_b c (k := 316) (j := 0) bd_316_0
  have u10 := CI_b c (k := 316) (j := 2) bd_316_2
  have u11 := CI_b c (k := 329) (j := 0) bd_329_0
  have u12 := CI_b c (k := 329) (j := 1) bd_329_1
  have u13 := CI_b c (k := 329) (j := 2) bd_329_2
  have t14 : s 309 5 = r0 309 5 := f 309 5 (by decide)
  have t15 : s 309 43 = r0 309 43 := f 309 43 (by decide)
  have t16 : s 309 44 = r0 309 44 := f 309 44 (by decide)
  have t17 : s 309 58 = r0 309 58 := f 309 58 (by decide)
  refine T_if1 (by decide +kernel) ?_
  refine T_let 330 (by decide +kernel) ?_
  refine T_if1 (z_ixl (n := 14) (by decide +kernel) (by omega) (by omega)) ?_
  refine T_let 344 (by decide +kernel) ?_
  refine T_if1 (by decide +kernel) ?_
  refine T_let 330 (by decide +kernel) ?_
  refine T_if1 (z_ixl (n := 14) (by decide +kernel) (by omega) (by omega)) ?_
  refine T_let 331 (by decide +kernel) ?_
  refine T_if1 (z_ixl (n := 200) (by decide +kernel) (by omega) (by omega)) ?_
  refine T_leq (fun x18 e19 => ?_)
  have u20 := CI_b c (k := 331) (j := a9) (bdr_331 a9)
  refine T_if1 (z_ixl (n := 200) (by decide +kernel) (by omega) (by omega)) ?_
  refine T_upg c (bdr_344 a5) (by omega) (fun s21 c22 g24 g25 e26 => ?_)
  have f23 := z_Fr.up (R := R_X12_cut_309) f g24 (fun _ => (Or.inr (Or.inl (⟨by decide, by decide⟩))))
  have t27 : s21 309 0 = s 309 0 := g24 309 0 (by decide)
  have t28 : s21 309 5 = s 309 5 := g24 309 5 (by decide)
  have t29 : s21 309 19 = s 309 19 := g24 309 19 (by decide)
  have t30 : s21 309 20 = s 309 20 := g24 309 20 (by decide)
  have t31 : s21 309 36 = s 309 36 := g24 309 36 (by decide)
  have t32 : s21 309 43 = s 309 43 := g24 309 43 (by decide)
  have t33 : s21 309 44 = s 309 44 := g24 309 44 (by decide)
  have t34 : s21 309 58 = s 309 58 := g24 309 58 (by decide)
  have t35 : s21 316 0 = s 316 0 := g24 316 0 (by decide)
  have t36 : s21 316 2 = s 316 2 := g24 316 2 (by decide)
  have t37 : s21 329 0 = s 329 0 := g24 329 0 (by decide)
  have t38 : s21 329 1 = s 329 1 := g24 329 1 (by decide)
  have t39 : s21 329 2 = s 329 2 := g24 329 2 (by decide)
  have r40 := y_D.fr p3 (fun b => g24 359 b (by decide)) (fun b => g24 374 b (by decide))
  have r41 := y_TA.fr p4 (fun a b h => g24 a b (by omega)) (fun a b h => g24 a b (by omega)) (fun a b h => g24 a b (by omega))
  have r42 := y_K.fr p5 (by omega) (by omega) (g24 309 44 (by decide)) (g24 309 20 (by decide)) (g24 309 58 (by decide)) (fun b => g24 3438 b (by decide)) (fun b => g24 3220 b (by decide)) (fun a b h => g24 a b (by omega))
  have r43 := y_CB.fr p7 (fun b => g24 346 b (by decide)) (fun b => g24 7657 b (by decide))
  have r44 := y_TT.fr p10 (fun a b h => g24 a b (by omega)) (fun a b h => g24 a b (by omega)) (fun a b h => g24 a b (by omega)) (fun a b h => g24 a b (by omega)) (fun a b h => g24 a b (by omega)) (fun a b h => g24 a b (by omega)) (fun a b h => g24 a b (by omega))
  have r45 := y_WF.fr p11 (g24 316 0 (by decide)) (fun b => g24 346 b (by decide)) (fun b => g24 361 b (by decide))
  have r46 := y_UB.fr p13 (g24 316 0 (by decide)) (fun b => g24 346 b (by decide)) (fun b => g24 361 b (by decide))
  have r47 := id p14 
  have r48 := y_CG.fr p18 (fun b => g24 391 b (by decide)) (fun b => g24 404 b (by decide)) (fun b => g24 7657 b (by decide)) (fun a b h => g24 a b (by omega)) (fun a b h => g24 a b (by omega))
  have r49 := y_CV.st p15 (fun a b h => g24 a b (by omega)) (fun b h => g25 b (by omega)) (fun b h => g24 359 b (by decide)) (fun b h => g24 374 b (by decide)) (fun b h => g24 389 b (by decide))
  have r50 : y_E1 s21 a5 a9 := y_E1.mk e26 e19 g24
  refine T_if1 (by decide +kernel) ?_
  refine T_let 345 (by decide +kernel) ?_
  refine T_if1 (z_ixl (n := 14) (by decide +kernel) (by omega) (by omega)) ?_
  refine T_let 359 (by decide +kernel) ?_
  refine T_if1 (by decide +kernel) ?_
  refine T_let 345 (by decide +kernel) ?_
  refine T_if1 (z_ixl (n := 14) (by decide +kernel) (by omega) (by omega)) ?_
  refine T_let 346 (by decide +kernel) ?_
  refine T_if1 (z_ixl (n := 200) (by decide +kernel) (by omega) (by omega)) ?_
  refine T_leq (fun x51 e52 => ?_)
  have u53 := CI_b c22 (k := 346) (j := a9) (bdr_346 a9)
  refine T_if1 (z_ixl (n := 200) (by decide +kernel) (by omega) (by omega)) ?_
  refine T_upg c22 (bdr_359 a5) (by omega) (fun s54 c55 g57 g58 e59 => ?_)
  have f56 := z_Fr.up (R := R_X12_cut_309) f23 g57 (fun _ => (Or.inr (Or.inl (⟨by decide, by decide⟩))))
  have t60 : s54 309 0 = s 309 0 := (g57 309 0 (by decide)).trans t27
  have t61 : s54 309 5 = s 309 5 := (g57 309 5 (by decide)).trans t28
  have t62 : s54 309 19 = s 309 19 := (g57 309 19 (by decide)).trans t29
  have t63 : s54 309 20 = s 309 20 := (g57 309 20 (by decide)).trans t30
  have t64 : s54 309 36 = s 309 36 := (g57 309 36 (by decide)).trans t31
  have t65 : s54 309 43 = s 309 43 := (g57 309 43 (by decide)).trans t32
  have t66 : s54 309 44 = s 309 44 := (g57 309 44 (by decide)).trans t33
  have t67 : s54 309 58 = s 309 58 := (g57 309 58 (by decide)).trans t34
  have t68 : s54 316 0 = s 316 0 := (g57 316 0 (by decide)).trans t35
  have t69 : s54 316 2 = s 316 2 := (g57 316 2 (by decide)).trans t36
  have t70 : s54 329 0 = s 329 0 := (g57 329 0 (by decide)).trans t37
  have t71 : s54 329 1 = s 329 1 := (g57 329 1 (by decide)).trans t38
  have t72 : s54 329 2 = s 329 2 := (g57 329 2 (by decide)).trans t39
  have r73 := y_TA.fr r41 (fun a b h => g57 a b (by omega)) (fun a b h => g57 a b (by omega)) (fun a b h => g57 a b (by omega))
  have r74 := y_K.fr r42 (by omega) (by omega) (g57 309 44 (by decide)) (g57 309 20 (by decide)) (g57 309 58 (by decide)) (fun b => g57 3438 b (by decide)) (fun b => g57 3220 b (by decide)) (fun a b h => g57 a b (by omega))
  have r75 := y_CB.fr r43 (fun b => g57 346 b (by decide)) (fun b => g57 7657 b (by decide))
  have r76 := y_TT.fr r44 (fun a b h => g57 a b (by omega)) (fun a b h => g57 a b (by omega)) (fun a b h => g57 a b (by omega)) (fun a b h => g57 a b (by omega)) (fun a b h => g57 a b (by omega)) (fun a b h => g57 a b (by omega)) (fun a b h => g57 a b (by omega))
  have r77 := y_WF.fr r45 (g57 316 0 (by decide)) (fun b => g57 346 b (by decide)) (fun b => g57 361 b (by decide))
  have r78 := y_UB.fr r46 (g57 316 0 (by decide)) (fun b => g57 346 b (by decide)) (fun b => g57 361 b (by decide))
  have r79 := id r47 
  have r80 := y_CG.fr r48 (fun b => g57 391 b (by decide)) (fun b => g57 404 b (by decide)) (fun b => g57 7657 b (by decide)) (fun a b h => g57 a b (by omega)) (fun a b h => g57 a b (by omega))
  have r81 := y_E1.fr r50 (fun b => g57 344 b (by decide)) (fun b => g57 331 b (by decide))
  have t82 : s54 346 a9 = x51 := by first | exact (g57 346 a9 (by omega)).trans e52 | exact (g58 a9 (by omega)).trans e52
  have r83 := y_CV.st r49 (fun a b h => g57 a b (by omega)) (fun b h => g57 344 b (by decide)) (fun b h => g58 b (by omega)) (fun b h => g57 374 b (by decide)) (fun b h => g57 389 b (by decide))
  have r84 : y_E2 s54 a5 a9 := y_E2.mk e59 e52 g57
  have r85 := y_D.st r40 (fun b h => g58 b (by omega)) (fun b h => g57 374 b (by decide))
  clear t27
  clear t28
  clear t29
  clear t30
  clear t31
  clear t32
  clear t33
  clear t34
  clear t35
  clear t36
  clear t37
  clear t38
  clear t39
  refine T_if1 (by decide +kernel) ?_
  refine T_let 360 (by decide +kernel) ?_
  refine T_if1 (z_ixl (n := 14) (by decide +kernel) (by omega) (by omega)) ?_
  refine T_let 374 (by decide +kernel) ?_
  have n86 := y_CB.to r75
  refine T_ite (fun h87 => ?_) (fun h87 => ?_)
  · refine T_if1 (by decide +kernel) ?_
    refine T_let 7657 (by decide +kernel) ?_
    refine T_if1 (z_ixl (n := 200) (by decide +kernel) (by omega) (by omega)) ?_
    refine T_leq (fun x88 e89 => ?_)
    have u90 := CI_b c55 (k := 7657) (j := a10) (bdr_7657 a10)
    exact sj_X12_cut_309T_J346 hfu r0 s54 c55 f56 a3 a4 a5 a6 a7 a8 a9 a5 x88 a1 a2 (by omega) (by omega) (by omega) (by omega) (by omega) (by omega) (by omega) (by omega) (by omega) (by omega) (by omega) (by omega) r73 (by first | exact r74 | exact y_K.b0 (by omega) | exact y_K.k0 (by omega) | exact y_K.bk (by omega)) (by omega) (by first | exact y_D.cg r85 (by omega) | exact y_D.z (by omega) | exact y_D.ex r85 (by omega) (by omega)) (by omega) (by omega) (by omega) (by omega) r76 r77 (by omega) (by first | exact y_UB.cg r78 (by omega) (by omega)) (by first | exact y_AQ.cg r79 (by omega) (by omega) (by omega) (by omega)) (by first | exact y_CW.mk r83 (by first | exact y_nwb_n (by omega) | exact y_nwb_y (by omega) (by assumption))) (by first | exact y_E1.cg r81 (by omega) (by omega)) (by first | exact y_E2.cg r84 (by omega) (by omega)) (by omega) (by omega) (by first | exact y_CG.cg r80 (by omega) (by omega) (by omega) | exact y_CG.z (by omega) (by omega) (by omega)) M (by omega) (fun s' v5 v6 v7 v8 v9 c' f' w5 w6 w7 w8 w9 z0 z1 z2 z3 z4 z5 z6 z7 z8 z9 z10 z11 z12 z13 z14 z15 z16 z17 pg => hr s' v5 v6 v7 v8 v9 c' f' w5 w6 w7 w8 w9 z0 z1 z2 z3 z4 z5 z6 z7 z8 z9 z10 z11 z12 z13 z14 z15 z16 z17 (by omega)) hk
  · exact sj_X12_cut_309T_J346 hfu r0 s54 c55 f56 a3 a4 a5 a6 a7 a8 a9 a5 (-1) a1 a2 (by omega) (by omega) (by omega) (by omega) (by omega) (by omega) (by omega) (by omega) (by omega) (by omega) (by omega) (by omega) r73 (by first | exact r74 | exact y_K.b0 (by omega) | exact y_K.k0 (by omega) | exact y_K.bk (by omega)) (by omega) (by first | exact y_D.cg r85 (by omega) | exact y_D.z (by omega) | exact y_D.ex r85 (by omega) (by omega)) (by omega) (by omega) (by omega) (by omega) r76 r77 (by omega) (by first | exact y_UB.cg r78 (by omega) (by omega)) (by first | exact y_AQ.cg r79 (by omega) (by omega) (by omega) (by omega)) (by first | exact y_CW.mk r83 (by first | exact y_nwb_n (by omega) | exact y_nwb_y (by omega) (by assumption))) (by first | exact y_E1.cg r81 (by omega) (by omega)) (by first | exact y_E2.cg r84 (by omega) (by omega)) (by omega) (by omega) (by first | exact y_CG.cg r80 (by omega) (by omega) (by omega) | exact y_CG.z (by omega) (by omega) (by omega)) M (by omega) (fun s' v5 v6 v7 v8 v9 c' f' w5 w6 w7 w8 w9 z0 z1 z2 z3 z4 z5 z6 z7 z8 z9 z10 z11 z12 z13 z14 z15 z16 z17 pg => hr s' v5 v6 v7 v8 v9 c' f' w5 w6 w7 w8 w9 z0 z1 z2 z3 z4 z5 z6 z7 z8 z9 z10 z11 z12 z13 z14 z15 z16 z17 (by omega)) hk
set_option maxHeartbeats 4000000 in
theorem sl_X12_cut_309T_L241 {fu : Nat} (hfu : 8589934592 ≤ fu) (r0 : z_M) (a1 : Int) (a2 : Int) (a3 : Int) (a4 : Int) (a5 : Int) (a6 : Int) (a7 : Int) (a8 : Int) (a9 : Int) (a10 : Int) (b3 : -2147483648 ≤ a3 ∧ a3 ≤ 2147483647) (b4 : -2147483648 ≤ a4 ∧ a4 ≤ 2147483647) (b5 : 0 ≤ a5 ∧ a5 ≤ 200) (b6 : 0 ≤ a6 ∧ a6 ≤ 199) (b7 : (-1) ≤ a7 ∧ a7 ≤ 199) (b8 : -2147483648 ≤ a8 ∧ a8 ≤ 2147483647) (b9 : 0 ≤ a9 ∧ a9 ≤ 199) (b10 : 0 ≤ a10 ∧ a10 ≤ 199) {k : z_M → z_O} (hk : ∀ (s' : z_M), z_CI s' → z_Fr R_X12_cut_309 r0 s' → (y_D s' a5) → (y_CB s' a9 a10) → (a9 < s' 316 0) → (y_TA s') → (y_K s') → (s' 309 5 = r0 309 5) → (s' 309 19 = r0 309 19) → (y_TT r0 s') → (y_WF s') → (s' 329 2 = r0 316 2) → (y_UB s' a3 a4) → (y_AQ r0 a1 a2 a3 a4) → (y_CV s' a3 a4 a9 a5 (a6 + 1) a10) → (s' 309 0 = 0) → (0 ≤ a1 ∧ a1 < r0 309 20 ∧ 0 ≤ a2 ∧ a2 < r0 309 20 ∧ a1 ≤ a2) → (y_CH s' a6 a10 a7 a8 20) → z_T (k s') (P_X12_cut_309T r0 a1 a2)) : ∀ (F : Nat) (s : z_M) (a11 : Int), z_CI s → z_Fr R_X12_cut_309 r0 s → (0 ≤ a11 ∧ a11 ≤ 20) → (y_D s a5) → (y_CB s a9 a10) → (a9 < s 316 0) → (y_TA s) → (y_K s) → (s 309 5 = r0 309 5) → (s 309 19 = r0 309 19) → (y_TT r0 s) → (y_WF s) → (s 329 2 = r0 316 2) → (y_UB s a3 a4) → (y_AQ r0 a1 a2 a3 a4) → (y_CV s a3 a4 a9 a5 (a6 + 1) a10) → (s 309 0 = 0) → (0 ≤ a1 ∧ a1 < r0 309 20 ∧ 0 ≤ a2 ∧ a2 < r0 309 20 ∧ a1 ≤ a2) → (y_CH s a6 a10 a7 a8 a11) → (2147483647 - a11 < (F : Int)) → z_T (fX12_cut_L241 fu 309 a3 a4 a5 a6 a7 a8 a9 a10 F s a11 k) (P_X12_cut_309T r0 a1 a2) := by
  intro F
  induction F with
  | zero =>
    intro s a11 c f b11 i0 i1 i2 i3 i4 i5 i6 i7 i8 i9 i10 i11 i12 i13 i14 i15 hm
    have u54 := CI_b c (k := 309) (j := 0) bd_309_0
    have u55 := CI_b c (k := 309) (j := 5) bd_309_5
    have u56 := CI_b c (k := 309) (j := 19) bd_309_19
    have u57 := CI_b c (k := 309) (j := 20) bd_309_20
    have u58 := CI_b c (k := 309) (j := 36) bd_309_36
    have u59 := CI_b c (k := 309) (j := 43) bd_309_43
    have u60 := CI_b c (k := 309) (j := 44) bd_309_44
    have u61 := CI_b c (k := 309) (j := 58) bd_309_58
    have u62 := CI_b c (k := 316) (j := 0) bd_316_0
    have u63 := CI_b c (k := 316) (j := 2) bd_316_2
    have u64 := CI_b c (k := 329) (j := 0) bd_329_0
    have u65 := CI_b c (k := 329) (j := 1) bd_329_1
    have u66 := CI_b c (k := 329) (j := 2) bd_329_2
    exfalso; omega
  | succ F ih =>
    intro s a11 c f b11 i0 i1 i2 i3 i4 i5 i6 i7 i8 i9 i10 i11 i12 i13 i14 i15 hm
    refine T_of (fX12_cut_L241.eq_2 ..) ?_
    have u1 := CI_b c (k := 309) (j := 0) bd_309_0
    have u2 := CI_b c (k := 309) (j := 5) bd_309_5
    have u3 := CI_b c (k := 309) (j := 19) bd_309_19
    have u4 := CI_b c (k := 309) (j := 20) bd_309_20
    have u5 := CI_b c (k := 309) (j := 36) bd_309_36
    have u6 := CI_b c (k := 309) (j := 43) bd_309_43
    have u7 := CI_b c (k := 309) (j := 44) bd_309_44
    have u8 := CI_b c (k := 309) (j := 58) bd_309_58
    have u9 := CI_b c (k := 316) (j := 0) bd_316_0
    have u10 := CI_b c (k := 316) (j := 2) bd_316_2
    have u11 := CI_b c (k := 329) (j := 0) bd_329_0
    have u12 := CI_b c (k := 329) (j := 1) bd_329_1
    have u13 := CI_b c (k := 329) (j := 2) bd_329_2
    have t14 : s 309 5 = r0 309 5 := f 309 5 (by decide)
    have t15 : s 309 43 = r0 309 43 := f 309 43 (by decide)
    have t16 : s 309 44 = r0 309 44 := f 309 44 (by decide)
    have t17 : s 309 58 = r0 309 58 := f 309 58 (by decide)
    refine T_ite (fun h18 => ?_) (fun h18 => ?_)
    · exact hk s c f (by first | exact y_D.cg i0 (by omega) | exact y_D.z (by omega) | exact y_D.ex i0 (by omega) (by omega)) (by first | exact y_CB.cg i1 (by omega) (by omega) | exact y_CB.a (by omega) (by omega) | exact y_CB.b (by omega) (by assumption) (by omega)) (by omega) i3 (by first | exact i4 | exact y_K.b0 (by omega) | exact y_K.k0 (by omega) | exact y_K.bk (by omega)) (by omega) (by omega) i7 i8 (by omega) (by first | exact y_UB.cg i10 (by omega) (by omega)) (by first | exact y_AQ.cg i11 (by omega) (by omega) (by omega) (by omega)) (by first | exact y_CV.cg i12 (by omega) (by omega) (by omega) (by omega) (by omega) (by omega)) (by omega) (by omega) (by first | exact y_CH.cg i15 (by omega) (by omega) (by omega) (by omega) (by omega))
    · refine T_if1 (by decide +kernel) ?_
      refine T_let 405 (by decide +kernel) ?_
      refine T_if1 (z_ixl (n := 14) (by decide +kernel) (by omega) (by omega)) ?_
      refine T_let 3019 (by decide +kernel) ?_
      refine T_if1 (z_ixl (n := 200) (by decide +kernel) (by omega) (by omega)) ?_
      refine T_let (3020 + a6) (gr_3019 a6) ?_
      refine T_if1 (by decide +kernel) ?_
      refine T_let 405 (by decide +kernel) ?_
      refine T_if1 (z_ixl (n := 14) (by decide +kernel) (by omega) (by omega)) ?_
      refine T_let 406 (by decide +kernel) ?_
      refine T_if1 (z_ixl (n := 200) (by decide +kernel) (by omega) (by omega)) ?_
      refine T_let (407 + a10) (gr_406 a10) ?_
      refine T_if1 (z_ixs (sh_L0 (by omega)) (by omega) (by omega) (by omega)) ?_
      refine T_leq (fun x19 e20 => ?_)
      have u21 := CI_w c (k := (407 + a10)) (j := a11) (by rw [sh_L0 (by omega)]; decide)
      refine T_if1 (z_ixs (sh_L13 (by omega)) (by omega) (by omega) (by omega)) ?_
      refine T_upg c (z_bdLe (c2 := 407 + a10) (by omega) (by omega)) (by rw [← (by assumption : s (407 + a10) a11 = x19)]; exact c _ _) (fun s22 c23 g25 g26 e27 => ?_)
      have f24 := z_Fr.up (R := R_X12_cut_309) f g25 (fun b => by unfold R_X12_cut_309; omega)
      have t28 : s22 309 0 = s 309 0 := g25 309 0 (by omega)
      have t29 : s22 309 5 = s 309 5 := g25 309 5 (by omega)
      have t30 : s22 309 19 = s 309 19 := g25 309 19 (by omega)
      have t31 : s22 309 20 = s 309 20 := g25 309 20 (by omega)
      have t32 : s22 309 36 = s 309 36 := g25 309 36 (by omega)
      have t33 : s22 309 43 = s 309 43 := g25 309 43 (by omega)
      have t34 : s22 309 44 = s 309 44 := g25 309 44 (by omega)
      have t35 : s22 309 58 = s 309 58 := g25 309 58 (by omega)
      have t36 : s22 316 0 = s 316 0 := g25 316 0 (by omega)
      have t37 : s22 316 2 = s 316 2 := g25 316 2 (by omega)
      have t38 : s22 329 0 = s 329 0 := g25 329 0 (by omega)
      have t39 : s22 329 1 = s 329 1 := g25 329 1 (by omega)
      have t40 : s22 329 2 = s 329 2 := g25 329 2 (by omega)
      have r41 := y_D.fr i0 (fun b => g25 359 b (by omega)) (fun b => g25 374 b (by omega))
      have r42 := y_CB.fr i1 (fun b => g25 346 b (by omega)) (fun b => g25 7657 b (by omega))
      have r43 := y_TA.fr i3 (fun a b h => g25 a b (by omega)) (fun a b h => g25 a b (by omega)) (fun a b h => g25 a b (by omega))
      have r44 := y_K.fr i4 (by omega) (by omega) (g25 309 44 (by omega)) (g25 309 20 (by omega)) (g25 309 58 (by omega)) (fun b => g25 3438 b (by omega)) (fun b => g25 3220 b (by omega)) (fun a b h => g25 a b (by omega))
      have r45 := y_TT.fr i7 (fun a b h => g25 a b (by omega)) (fun a b h => g25 a b (by omega)) (fun a b h => g25 a b (by omega)) (fun a b h => g25 a b (by omega)) (fun a b h => g25 a b (by omega)) (fun a b h => g25 a b (by omega)) (fun a b h => g25 a b (by omega))
      have r46 := y_WF.fr i8 (g25 316 0 (by omega)) (fun b => g25 346 b (by omega)) (fun b => g25 361 b (by omega))
      have r47 := y_UB.fr i10 (g25 316 0 (by omega)) (fun b => g25 346 b (by omega)) (fun b => g25 361 b (by omega))
      have r48 := id i11 
      have r49 := y_CV.fr i12 (fun b => g25 331 b (by omega)) (fun b => g25 346 b (by omega)) (fun b => g25 361 b (by omega)) (fun b => g25 376 b (by omega)) (fun b => g25 344 b (by omega)) (fun b => g25 359 b (by omega)) (fun b => g25 374 b (by omega)) (fun b => g25 389 b (by omega)) (fun b => g25 7657 b (by omega))
      have r50 : y_CH s22 a6 a10 a7 a8 (a11 + 1) := y_CH.st i15 g25 g26 e27 (by assumption) rfl
      refine T_leq (fun x51 e52 => ?_)
      first | (have w53 := z_wx e52 (by omega)) | (have w53 := z_wr e52)
      exact ih s22 x51 c23 f24 (by omega) (by first | exact y_D.cg r41 (by omega) | exact y_D.z (by omega) | exact y_D.ex r41 (by omega) (by omega)) (by first | exact y_CB.cg r42 (by omega) (by omega) | exact y_CB.a (by omega) (by omega) | exact y_CB.b (by omega) (by assumption) (by omega)) (by omega) r43 (by first | exact r44 | exact y_K.b0 (by omega) | exact y_K.k0 (by omega) | exact y_K.bk (by omega)) (by omega) (by omega) r45 r46 (by omega) (by first | exact y_UB.cg r47 (by omega) (by omega)) (by first | exact y_AQ.cg r48 (by omega) (by omega) (by omega) (by omega)) (by first | exact y_CV.cg r49 (by omega) (by omega) (by omega) (by omega) (by omega) (by omega)) (by omega) (by omega) (by first | exact y_CH.cg r50 (by omega) (by omega) (by omega) (by omega) (by omega)) (by omega)
set_option maxHeartbeats 4000000 in
theorem sj_X12_cut_309T_J212 {fu : Nat} (hfu : 8589934592 ≤ fu) (r0 s : z_M) (c : z_CI s) (f : z_Fr R_X12_cut_309 r0 s) (a3 : Int) (a4 : Int) (a5 : Int) (a6 : Int) (a9 : Int) (a10 : Int) (t0 : Int) (t1 : Int) (a1 : Int) (a2 : Int) (b3 : -2147483648 ≤ a3 ∧ a3 ≤ 2147483647) (b4 : -2147483648 ≤ a4 ∧ a4 ≤ 2147483647) (b5 : 0 ≤ a5 ∧ a5 ≤ 200) (b6 : 0 ≤ a6 ∧ a6 ≤ 199) (b9 : 0 ≤ a9 ∧ a9 ≤ 199) (b10 : 0 ≤ a10 ∧ a10 ≤ 199) (d0 : (-1) ≤ t0 ∧ t0 ≤ 199) (d1 : 0 ≤ t1 ∧ t1 ≤ 1) (p0 : a6 ≤ a5) (p1 : a5 ≤ a9) (p2 : y_D s a5) (p3 : a9 < s 316 0) (p4 : (a6 = 0 ∧ t0 = -1 ∧ t1 = 1) ∨ (0 ≤ t0 ∧ t0 ≤ a6 - 1)) (p5 : y_CB s a9 a10) (p6 : y_TA s) (p7 : y_K s) (p8 : s 309 5 = r0 309 5) (p9 : s 309 19 = r0 309 19) (p10 : y_TT r0 s) (p11 : y_WF s) (p12 : s 329 2 = r0 316 2) (p13 : y_UB s a3 a4) (p14 : y_AQ r0 a1 a2 a3 a4) (p15 : y_CV s a3 a4 a9 a5 (a6 + 1) a10) (p16 : s 309 0 = 0) (p17 : 0 ≤ a1 ∧ a1 < r0 309 20 ∧ 0 ≤ a2 ∧ a2 < r0 309 20 ∧ a1 ≤ a2) (p18 : y_CGy s a6 t0 t1 a10) (M : Int) (pm : 2147483647 - a9 ≤ M) {r : z_M → Int → Int → Int → Int → Int → z_O} {k : z_M → Int → Int → z_O} (hr : ∀ (s' : z_M) (v5 : Int) (v6 : Int) (v7 : Int) (v8 : Int) (v9 : Int), z_CI s' → z_Fr R_X12_cut_309 r0 s' → (0 ≤ v5 ∧ v5 ≤ 200) → (0 ≤ v6 ∧ v6 ≤ 200) → ((-1) ≤ v7 ∧ v7 ≤ 199) → (-2147483648 ≤ v8 ∧ v8 ≤ 2147483647) → (0 ≤ v9 ∧ v9 ≤ 200) → (v6 ≤ v5) → (v5 ≤ v9) → ((v6 = 0 ∧ v7 = -1 ∧ v8 = -1) ∨ (0 ≤ v7 ∧ v7 ≤ v6 - 1)) → (y_D s' v5) → (y_TA s') → (y_K s') → (v9 ≤ s' 316 0) → (s' 309 5 = r0 309 5) → (s' 309 19 = r0 309 19) → (y_TT r0 s') → (y_WF s') → (s' 329 2 = r0 316 2) → (y_UB s' a3 a4) → (y_AQ r0 a1 a2 a3 a4) → (y_CU s' a3 a4 v9 v5 v6) → (s' 309 0 = 0) → (0 ≤ a1 ∧ a1 < r0 309 20 ∧ 0 ≤ a2 ∧ a2 < r0 309 20 ∧ a1 ≤ a2) → (y_CG s' v6 v7 v8) → (2147483647 - v9 < M) → z_T (r s' v5 v6 v7 v8 v9) (P_X12_cut_309T r0 a1 a2)) (hk : ∀ (s' : z_M) (v5 : Int) (v6 : Int), z_CI s' → z_Fr R_X12_cut_309 r0 s' → (0 ≤ v5 ∧ v5 ≤ 200) → (0 ≤ v6 ∧ v6 ≤ 200) → (v6 ≤ v5) → (y_D s' v5) → (y_TA s') → (y_K s') → (s' 309 5 = r0 309 5) → (s' 309 19 = r0 309 19) → (y_TT r0 s') → (y_WF s') → (s' 329 2 = r0 316 2) → (y_UB s' a3 a4) → (y_AQ r0 a1 a2 a3 a4) → (y_CU s' a3 a4 (s' 316 0) v5 v6) → (s' 309 0 = 0) → (0 ≤ a1 ∧ a1 < r0 309 20 ∧ 0 ≤ a2 ∧ a2 < r0 309 20 ∧ a1 ≤ a2) → (y_CGe s' v6) → z_T (k s' v5 v6) (P_X12_cut_309T r0 a1 a2)) : z_T (fX12_cut_J212 fu s 309 a3 a4 a5 a6 a9 a10 t0 t1 r k) (P_X12_cut_309T r0 a1 a2) := by
  refine T_of (fX12_cut_J212.eq_1 ..) ?_
  have u1 := CI_b c (k := 309) (j := 0) bd_309_0
  have u2 := CI_b c (k := 309) (j := 5) bd_309_5
  have u3 := CI_b c (k := 309) (j := 19) bd_309_19
  have u4 := CI_b c (k := 309) (j := 20) bd_309_20
  have u5 := CI_b c (k := 309) (j := 36) bd_309_36
  have u6 := CI_b c (k := 309) (j := 43) bd_309_43
  have u7 := CI_b c (k := 309) (j := 44) bd_309_44
  have u8 := CI_b c (k := 309) (j := 58) bd_309_58
  have u9 := CI_b c (k := 316) (j := 0) bd_316_0
  have u10 := CI_b c (k := 316) (j := 2) bd_316_2
  have u11 := CI_b c (k := 329) (j := 0) bd_329_0
  have u12 := CI_b c (k := 329) (j := 1) bd_329_1
  have u13 := CI_b c (k := 329) (j := 2) bd_329_2
  have t14 : s 309 5 = r0 309 5 := f 309 5 (by decide)
  have t15 : s 309 43 = r0 309 43 := f 309 43 (by decide)
  have t16 : s 309 44 = r0 309 44 := f 309 44 (by decide)
  have t17 : s 309 58 = r0 309 58 := f 309 58 (by decide)
  refine T_leq (fun x18 e19 => ?_)
  first | (have w20 := z_wx e19 (by omega)) | (have w20 := z_wr e19)
  refine T_if1 (by decide +kernel) ?_
  refine T_let 390 (by decide +kernel) ?_
  refine T_if1 (z_ixl (n := 14) (by decide +kernel) (by omega) (by omega)) ?_
  refine T_let 391 (by decide +kernel) ?_
  refine T_if1 (z_ixl (n := 200) (by decide +kernel) (by omega) (by omega)) ?_
  refine T_leq (fun x21 e22 => ?_)
  have u23 := CI_b c (k := 391) (j := a10) (bdg (c := 391) (by omega) (by omega))
  refine T_if1 (by decide +kernel) ?_
  refine T_let 390 (by decide +kernel) ?_
  refine T_if1 (z_ixl (n := 14) (by decide +kernel) (by omega) (by omega)) ?_
  refine T_let 404 (by decide +kernel) ?_
  refine T_if1 (z_ixl (n := 200) (by decide +kernel) (by omega) (by omega)) ?_
  refine T_upg c (bdg (c := 404) (by omega) (by omega)) (by omega) (fun s24 c25 g27 g28 e29 => ?_)
  have f26 := z_Fr.up (R := R_X12_cut_309) f g27 (fun _ => (Or.inr (Or.inl (⟨by decide, by decide⟩))))
  have t30 : s24 309 0 = s 309 0 := g27 309 0 (by decide)
  have t31 : s24 309 5 = s 309 5 := g27 309 5 (by decide)
  have t32 : s24 309 19 = s 309 19 := g27 309 19 (by decide)
  have t33 : s24 309 20 = s 309 20 := g27 309 20 (by decide)
  have t34 : s24 309 36 = s 309 36 := g27 309 36 (by decide)
  have t35 : s24 309 43 = s 309 43 := g27 309 43 (by decide)
  have t36 : s24 309 44 = s 309 44 := g27 309 44 (by decide)
  have t37 : s24 309 58 = s 309 58 := g27 309 58 (by decide)
  have t38 : s24 316 0 = s 316 0 := g27 316 0 (by decide)
  have t39 : s24 316 2 = s 316 2 := g27 316 2 (by decide)
  have t40 : s24 329 0 = s 329 0 := g27 329 0 (by decide)
  have t41 : s24 329 1 = s 329 1 := g27 329 1 (by decide)
  have t42 : s24 329 2 = s 329 2 := g27 329 2 (by decide)
  have r43 := y_D.fr p2 (fun b => g27 359 b (by decide)) (fun b => g27 374 b (by decide))
  have r44 := y_CB.fr p5 (fun b => g27 346 b (by decide)) (fun b => g27 7657 b (by decide))
  have r45 := y_TA.fr p6 (fun a b h => g27 a b (by omega)) (fun a b h => g27 a b (by omega)) (fun a b h => g27 a b (by omega))
  have r46 := y_K.fr p7 (by omega) (by omega) (g27 309 44 (by decide)) (g27 309 20 (by decide)) (g27 309 58 (by decide)) (fun b => g27 3438 b (by decide)) (fun b => g27 3220 b (by decide)) (fun a b h => g27 a b (by omega))
  have r47 := y_TT.fr p10 (fun a b h => g27 a b (by omega)) (fun a b h => g27 a b (by omega)) (fun a b h => g27 a b (by omega)) (fun a b h => g27 a b (by omega)) (fun a b h => g27 a b (by omega)) (fun a b h => g27 a b (by omega)) (fun a b h => g27 a b (by omega))
  have r48 := y_WF.fr p11 (g27 316 0 (by decide)) (fun b => g27 346 b (by decide)) (fun b => g27 361 b (by decide))
  have r49 := y_UB.fr p13 (g27 316 0 (by decide)) (fun b => g27 346 b (by decide)) (fun b => g27 361 b (by decide))
  have r50 := id p14 
  have r51 := y_CV.fr p15 (fun b => g27 331 b (by decide)) (fun b => g27 346 b (by decide)) (fun b => g27 361 b (by decide)) (fun b => g27 376 b (by decide)) (fun b => g27 344 b (by decide)) (fun b => g27 359 b (by decide)) (fun b => g27 374 b (by decide)) (fun b => g27 389 b (by decide)) (fun b => g27 7657 b (by decide))
  have r52 : y_CH s24 a6 a10 x18 x21 0 := y_CH.mk (i := 0) p18 g27 g28 e29 (by omega) (by omega) (by assumption) (by omega) rfl (by omega)
  refine sl_X12_cut_309T_L241 hfu r0 a1 a2 a3 a4 a5 a6 x18 x21 a9 a10 (by omega) (by omega) (by omega) (by omega) (by omega) (by omega) (by omega) (by omega) (fun s53 c54 f55 g56 g57 g58 g59 g60 g61 g62 g63 g64 g65 g66 g67 g68 g69 g70 g71 => ?_) fu s24 0 c25 f26 (by omega) (by first | exact y_D.cg r43 (by omega) | exact y_D.z (by omega) | exact y_D.ex r43 (by omega) (by omega)) (by first | exact y_CB.cg r44 (by omega) (by omega) | exact y_CB.a (by omega) (by omega) | exact y_CB.b (by omega) (by assumption) (by omega)) (by omega) r45 (by first | exact r46 | exact y_K.b0 (by omega) | exact y_K.k0 (by omega) | exact y_K.bk (by omega)) (by omega) (by omega) r47 r48 (by omega) (by first | exact y_UB.cg r49 (by omega) (by omega)) (by first | exact y_AQ.cg r50 (by omega) (by omega) (by omega) (by omega)) (by first | exact y_CV.cg r51 (by omega) (by omega) (by omega) (by omega) (by omega) (by omega)) (by omega) (by omega) (by first | exact y_CH.cg r52 (by omega) (by omega) (by omega) (by omega) (by omega)) (by omega)
  have u72 := CI_b c54 (k := 309) (j := 0) bd_309_0
  have u73 := CI_b c54 (k := 309) (j := 5) bd_309_5
  have u74 := CI_b c54 (k := 309) (j := 19) bd_309_19
  have u75 := CI_b c54 (k := 309) (j := 20) bd_309_20
  have u76 := CI_b c54 (k := 309) (j := 36) bd_309_36
  have u77 := CI_b c54 (k := 309) (j := 43) bd_309_43
  have u78 := CI_b c54 (k := 309) (j := 44) bd_309_44
  have u79 := CI_b c54 (k := 309) (j := 58) bd_309_58
  have u80 := CI_b c54 (k := 316) (j := 0) bd_316_0
  have u81 := CI_b c54 (k := 316) (j := 2) bd_316_2
  have u82 := CI_b c54 (k := 329) (j := 0) bd_329_0
  have u83 := CI_b c54 (k := 329) (j := 1) bd_329_1
  have u84 := CI_b c54 (k := 329) (j := 2) bd_329_2
  have t85 : s53 309 5 = r0 309 5 := f55 309 5 (by decide)
  have t86 : s53 309 43 = r0 309 43 := f55 309 43 (by decide)
  have t87 : s53 309 44 = r0 309 44 := f55 309 44 (by decide)
  have t88 : s53 309 58 = r0 309 58 := f55 309 58 (by decide)
  refine T_leq (fun x89 e90 => ?_)
  first | (have w91 := z_wx e90 (by omega)) | (have w91 := z_wr e90)
  exact sj_X12_cut_309T_J282 hfu r0 s53 c54 f55 a3 a4 a5 x89 x18 x21 a9 a10 a1 a2 (by omega) (by omega) (by omega) (by omega) (by omega) (by omega) (by omega) (by omega) (by omega) (by omega) (by omega) (by first | exact y_D.cg g56 (by omega) | exact y_D.z (by omega) | exact y_D.ex g56 (by omega) (by omega)) g59 (by first | exact g60 | exact y_K.b0 (by omega) | exact y_K.k0 (by omega) | exact y_K.bk (by omega)) (by omega) (by first | exact y_CB.cg g57 (by omega) (by omega) | exact y_CB.a (by omega) (by omega) | exact y_CB.b (by omega) (by assumption) (by omega)) (by omega) (by omega) g63 g64 (by omega) (by first | exact y_UB.cg g66 (by omega) (by omega)) (by first | exact y_AQ.cg g67 (by omega) (by omega) (by omega) (by omega)) (by first | exact y_CV.cg g68 (by omega) (by omega) (by omega) (by omega) (by omega) (by omega)) (by omega) (by omega) (by first | exact y_CG.z (by omega) (by omega) (by omega) | exact y_CH.end g71 (by omega) (by omega) (by omega) (by omega)) M (by omega) (fun s' v5 v6 v7 v8 v9 c' f' w5 w6 w7 w8 w9 z0 z1 z2 z3 z4 z5 z6 z7 z8 z9 z10 z11 z12 z13 z14 z15 z16 z17 pg => hr s' v5 v6 v7 v8 v9 c' f' w5 w6 w7 w8 w9 z0 z1 z2 z3 z4 z5 z6 z7 z8 z9 z10 z11 z12 z13 z14 z15 z16 z17 (by omega)) hk
set_option maxHeartbeats 4000000 in
theorem sj_X12_cut_309T_J154 {fu : Nat} (hfu : 8589934592 ≤ fu) (r0 s : z_M) (c : z_CI s) (f : z_Fr R_X12_cut_309 r0 s) (a3 : Int) (a4 : Int) (a5 : Int) (a6 : Int) (a7 : Int) (a8 : Int) (a9 : Int) (a1 : Int) (a2 : Int) (b3 : -2147483648 ≤ a3 ∧ a3 ≤ 2147483647) (b4 : -2147483648 ≤ a4 ∧ a4 ≤ 2147483647) (b5 : 0 ≤ a5 ∧ a5 ≤ 200) (b6 : 0 ≤ a6 ∧ a6 ≤ 200) (b7 : (-1) ≤ a7 ∧ a7 ≤ 199) (b8 : -2147483648 ≤ a8 ∧ a8 ≤ 2147483647) (b9 : 0 ≤ a9 ∧ a9 ≤ 199) (p0 : a6 ≤ a5) (p1 : a5 ≤ a9) (p2 : (a6 = 0 ∧ a7 = -1 ∧ a8 = -1) ∨ (0 ≤ a7 ∧ a7 ≤ a6 - 1)) (p3 : y_D s a5) (p4 : y_TA s) (p5 : y_K s) (p6 : a9 < s 316 0) (p7 : s 309 5 = r0 309 5) (p8 : s 309 19 = r0 309 19) (p9 : y_TT r0 s) (p10 : y_WF s) (p11 : s 329 2 = r0 316 2) (p12 : y_UB s a3 a4) (p13 : y_AQ r0 a1 a2 a3 a4) (p14 : y_CU s a3 a4 a9 a5 a6) (p15 : a9 < a3 ∨ a4 ≤ a9) (p16 : s 309 0 = 0) (p17 : 0 ≤ a1 ∧ a1 < r0 309 20 ∧ 0 ≤ a2 ∧ a2 < r0 309 20 ∧ a1 ≤ a2) (p18 : y_CG s a6 a7 a8) (M : Int) (pm : 2147483647 - a9 ≤ M) {r : z_M → Int → Int → Int → Int → Int → z_O} {k : z_M → Int → Int → z_O} (hr : ∀ (s' : z_M) (v5 : Int) (v6 : Int) (v7 : Int) (v8 : Int) (v9 : Int), z_CI s' → z_Fr R_X12_cut_309 r0 s' → (0 ≤ v5 ∧ v5 ≤ 200) → (0 ≤ v6 ∧ v6 ≤ 200) → ((-1) ≤ v7 ∧ v7 ≤ 199) → (-2147483648 ≤ v8 ∧ v8 ≤ 2147483647) → (0 ≤ v9 ∧ v9 ≤ 200) → (v6 ≤ v5) → (v5 ≤ v9) → ((v6 = 0 ∧ v7 = -1 ∧ v8 = -1) ∨ (0 ≤ v7 ∧ v7 ≤ v6 - 1)) → (y_D s' v5) → (y_TA s') → (y_K s') → (v9 ≤ s' 316 0) → (s' 309 5 = r0 309 5) → (s' 309 19 = r0 309 19) → (y_TT r0 s') → (y_WF s') → (s' 329 2 = r0 316 2) → (y_UB s' a3 a4) → (y_AQ r0 a1 a2 a3 a4) → (y_CU s' a3 a4 v9 v5 v6) → (s' 309 0 = 0) → (0 ≤ a1 ∧ a1 < r0 309 20 ∧ 0 ≤ a2 ∧ a2 < r0 309 20 ∧ a1 ≤ a2) → (y_CG s' v6 v7 v8) → (2147483647 - v9 < M) → z_T (r s' v5 v6 v7 v8 v9) (P_X12_cut_309T r0 a1 a2)) (hk : ∀ (s' : z_M) (v5 : Int) (v6 : Int), z_CI s' → z_Fr R_X12_cut_309 r0 s' → (0 ≤ v5 ∧ v5 ≤ 200) → (0 ≤ v6 ∧ v6 ≤ 200) → (v6 ≤ v5) → (y_D s' v5) → (y_TA s') → (y_K s') → (s' 309 5 = r0 309 5) → (s' 309 19 = r0 309 19) → (y_TT r0 s') → (y_WF s') → (s' 329 2 = r0 316 2) → (y_UB s' a3 a4) → (y_AQ r0 a1 a2 a3 a4) → (y_CU s' a3 a4 (s' 316 0) v5 v6) → (s' 309 0 = 0) → (0 ≤ a1 ∧ a1 < r0 309 20 ∧ 0 ≤ a2 ∧ a2 < r0 309 20 ∧ a1 ≤ a2) → (y_CGe s' v6) → z_T (k s' v5 v6) (P_X12_cut_309T r0 a1 a2)) : z_T (fX12_cut_J154 fu s 309 a3 a4 a5 a6 a7 a8 a9 r k) (P_X12_cut_309T r0 a1 a2) := by
  refine T_of (fX12_cut_J154.eq_1 ..) ?_
  have u1 := CI_b c (k := 309) (j := 0) bd_309_0
  have u2 := CI_b c (k := 309) (j := 5) bd_309_5
  have u3 := CI_b c (k := 309) (j := 19) bd_309_19
  have u4 := CI_b c (k := 309) (j := 20) bd_309_20
  have u5 := CI_b c (k := 309) (j := 36) bd_309_36
  have u6 := CI_b c (k := 309) (j := 43) bd_309_43
  have u7 := CI_b c (k := 309) (j := 44) bd_309_44
  have u8 := CI_b c (k := 309) (j := 58) bd_309_58
  have u9 := CI_b c (k := 316) (j := 0) bd_316_0
  have u10 := CI_b c (k := 316) (j := 2) bd_316_2
  have u11 := CI_b c (k := 329) (j := 0) bd_329_0
  have u12 := CI_b c (k := 329) (j := 1) bd_329_1
  have u13 := CI_b c (k := 329) (j := 2) bd_329_2
  have t14 : s 309 5 = r0 309 5 := f 309 5 (by decide)
  have t15 : s 309 43 = r0 309 43 := f 309 43 (by decide)
  have t16 : s 309 44 = r0 309 44 := f 309 44 (by decide)
  have t17 : s 309 58 = r0 309 58 := f 309 58 (by decide)
  refine T_if1 (by decide +kernel) ?_
  refine T_let 360 (by decide +kernel) ?_
  refine T_if1 (z_ixl (n := 14) (by decide +kernel) (by omega) (by omega)) ?_
  refine T_let 361 (by decide +kernel) ?_
  refine T_if1 (z_ixl (n := 200) (by decide +kernel) (by omega) (by omega)) ?_
  refine T_leq (fun x18 e19 => ?_)
  have u20 := CI_b c (k := 361) (j := a9) (bdr_361 a9)
  have n21 := y_TA.at0 p4 (i := a9) (by omega) (by omega)
  refine T_ite (fun h22 => ?_) (fun h22 => ?_)
  · exact sj_X12_cut_309T_J282 hfu r0 s c f a3 a4 a5 a6 a7 a8 a9 x18 a1 a2 (by omega) (by omega) (by omega) (by omega) (by omega) (by omega) (by omega) (by omega) (by omega) (by omega) (by omega) (by first | exact y_D.cg p3 (by omega) | exact y_D.z (by omega) | exact y_D.ex p3 (by omega) (by omega)) p4 (by first | exact p5 | exact y_K.b0 (by omega) | exact y_K.k0 (by omega) | exact y_K.bk (by omega)) (by omega) (by first | exact y_CB.a (by omega) (by omega) | exact y_CB.b (by omega) (by assumption) (by omega)) (by omega) (by omega) p9 p10 (by omega) (by first | exact y_UB.cg p12 (by omega) (by omega)) (by first | exact y_AQ.cg p13 (by omega) (by omega) (by omega) (by omega)) (by first | exact y_CU.old1 p14 p10 p12 (by omega) (by omega) (by omega) (by omega) (by omega) (by omega) (by omega) | exact y_CU.old2 p14 p10 p12 (by omega) (by omega) (by omega) (by omega) (by omega) (by omega) (by omega) (by omega)) (by omega) (by omega) (by first | exact y_CG.cg p18 (by omega) (by omega) (by omega) | exact y_CG.z (by omega) (by omega) (by omega)) M (by omega) (fun s' v5 v6 v7 v8 v9 c' f' w5 w6 w7 w8 w9 z0 z1 z2 z3 z4 z5 z6 z7 z8 z9 z10 z11 z12 z13 z14 z15 z16 z17 pg => hr s' v5 v6 v7 v8 v9 c' f' w5 w6 w7 w8 w9 z0 z1 z2 z3 z4 z5 z6 z7 z8 z9 z10 z11 z12 z13 z14 z15 z16 z17 (by omega)) hk
  · refine T_if1 (by decide +kernel) ?_
    refine T_let 7657 (by decide +kernel) ?_
    refine T_if1 (z_ixl (n := 200) (by decide +kernel) (by omega) (by omega)) ?_
    refine T_leq (fun x23 e24 => ?_)
    have u25 := CI_b c (k := 7657) (j := x18) (bdr_7657 x18)
    refine T_ite (fun h26 => ?_) (fun h26 => ?_)
    · exact sj_X12_cut_309T_J282 hfu r0 s c f a3 a4 a5 a6 a7 a8 a9 x18 a1 a2 (by omega) (by omega) (by omega) (by omega) (by omega) (by omega) (by omega) (by omega) (by omega) (by omega) (by omega) (by first | exact y_D.cg p3 (by omega) | exact y_D.z (by omega) | exact y_D.ex p3 (by omega) (by omega)) p4 (by first | exact p5 | exact y_K.b0 (by omega) | exact y_K.k0 (by omega) | exact y_K.bk (by omega)) (by omega) (by first | exact y_CB.a (by omega) (by omega) | exact y_CB.b (by omega) (by assumption) (by omega)) (by omega) (by omega) p9 p10 (by omega) (by first | exact y_UB.cg p12 (by omega) (by omega)) (by first | exact y_AQ.cg p13 (by omega) (by omega) (by omega) (by omega)) (by first | exact y_CU.old1 p14 p10 p12 (by omega) (by omega) (by omega) (by omega) (by omega) (by omega) (by omega) | exact y_CU.old2 p14 p10 p12 (by omega) (by omega) (by omega) (by omega) (by omega) (by omega) (by omega) (by omega)) (by omega) (by omega) (by first | exact y_CG.cg p18 (by omega) (by omega) (by omega) | exact y_CG.z (by omega) (by omega) (by omega)) M (by omega) (fun s' v5 v6 v7 v8 v9 c' f' w5 w6 w7 w8 w9 z0 z1 z2 z3 z4 z5 z6 z7 z8 z9 z10 z11 z12 z13 z14 z15 z16 z17 pg => hr s' v5 v6 v7 v8 v9 c' f' w5 w6 w7 w8 w9 z0 z1 z2 z3 z4 z5 z6 z7 z8 z9 z10 z11 z12 z13 z14 z15 z16 z17 (by omega)) hk
    · refine T_if1 (by decide +kernel) ?_
      refine T_let 7657 (by decide +kernel) ?_
      refine T_if1 (z_ixl (n := 200) (by decide +kernel) (by omega) (by omega)) ?_
      refine T_upg c (bdr_7657 x18) (by omega) (fun s27 c28 g30 g31 e32 => ?_)
      have f29 := z_Fr.up (R := R_X12_cut_309) f g30 (fun _ => (Or.inr (Or.inr (Or.inr (Or.inl (⟨by decide, by decide⟩))))))
      have t33 : s27 309 0 = s 309 0 := g30 309 0 (by decide)
      have t34 : s27 309 5 = s 309 5 := g30 309 5 (by decide)
      have t35 : s27 309 19 = s 309 19 := g30 309 19 (by decide)
      have t36 : s27 309 20 = s 309 20 := g30 309 20 (by decide)
      have t37 : s27 309 36 = s 309 36 := g30 309 36 (by decide)
      have t38 : s27 309 43 = s 309 43 := g30 309 43 (by decide)
      have t39 : s27 309 44 = s 309 44 := g30 309 44 (by decide)
      have t40 : s27 309 58 = s 309 58 := g30 309 58 (by decide)
      have t41 : s27 316 0 = s 316 0 := g30 316 0 (by decide)
      have t42 : s27 316 2 = s 316 2 := g30 316 2 (by decide)
      have t43 : s27 329 0 = s 329 0 := g30 329 0 (by decide)
      have t44 : s27 329 1 = s 329 1 := g30 329 1 (by decide)
      have t45 : s27 329 2 = s 329 2 := g30 329 2 (by decide)
      have r46 := y_D.fr p3 (fun b => g30 359 b (by decide)) (fun b => g30 374 b (by decide))
      have r47 := y_TA.fr p4 (fun a b h => g30 a b (by omega)) (fun a b h => g30 a b (by omega)) (fun a b h => g30 a b (by omega))
      have r48 := y_K.fr p5 (by omega) (by omega) (g30 309 44 (by decide)) (g30 309 20 (by decide)) (g30 309 58 (by decide)) (fun b => g30 3438 b (by decide)) (fun b => g30 3220 b (by decide)) (fun a b h => g30 a b (by omega))
      have r49 := y_TT.fr p9 (fun a b h => g30 a b (by omega)) (fun a b h => g30 a b (by omega)) (fun a b h => g30 a b (by omega)) (fun a b h => g30 a b (by omega)) (fun a b h => g30 a b (by omega)) (fun a b h => g30 a b (by omega)) (fun a b h => g30 a b (by omega))
      have r50 := y_WF.fr p10 (g30 316 0 (by decide)) (fun b => g30 346 b (by decide)) (fun b => g30 361 b (by decide))
      have r51 := y_UB.fr p12 (g30 316 0 (by decide)) (fun b => g30 346 b (by decide)) (fun b => g30 361 b (by decide))
      have r52 := id p13 
      have r53 : y_CB s27 a9 x18 := Or.inr ⟨by omega, by omega⟩
      have r54 : y_CV s27 a3 a4 a9 a5 (a6 + 1) x18 := y_CU.new p14 p10 p12 g30 g31 e32 (by assumption) (by omega) (by omega) (by omega) (by omega) (by omega) (by omega) (by omega) rfl
      have r55 : y_CGx s27 a6 a7 a8 x18 := y_CGx.mk p18 g30 g31 e32 (by omega) (by omega) (by omega)
      refine T_if1 (by decide +kernel) ?_
      refine T_let 390 (by decide +kernel) ?_
      refine T_if1 (z_ixl (n := 14) (by decide +kernel) (by omega) (by omega)) ?_
      refine T_let 391 (by decide +kernel) ?_
      refine T_if1 (z_ixl (n := 200) (by decide +kernel) (by omega) (by omega)) ?_
      refine T_leq (fun x56 e57 => ?_)
      have u58 := CI_b c28 (k := 391) (j := x18) (bdg (c := 391) (by omega) (by omega))
      refine T_ite (fun h59 => ?_) (fun h59 => ?_)
      · exact sj_X12_cut_309T_J212 hfu r0 s27 c28 f29 a3 a4 a5 a6 a9 x18 a7 1 a1 a2 (by omega) (by omega) (by omega) (by omega) (by omega) (by omega) (by omega) (by omega) (by omega) (by omega) (by first | exact y_D.cg r46 (by omega) | exact y_D.z (by omega) | exact y_D.ex r46 (by omega) (by omega)) (by omega) (by omega) (by first | exact y_CB.cg r53 (by omega) (by omega) | exact y_CB.a (by omega) (by omega) | exact y_CB.b (by omega) (by assumption) (by omega)) r47 (by first | exact r48 | exact y_K.b0 (by omega) | exact y_K.k0 (by omega) | exact y_K.bk (by omega)) (by omega) (by omega) r49 r50 (by omega) (by first | exact y_UB.cg r51 (by omega) (by omega)) (by first | exact y_AQ.cg r52 (by omega) (by omega) (by omega) (by omega)) (by first | exact y_CV.cg r54 (by omega) (by omega) (by omega) (by omega) (by omega) (by omega)) (by omega) (by omega) (by first | exact y_CGy.mk r55 (by omega) (by omega) (by omega) (by omega)) M (by omega) (fun s' v5 v6 v7 v8 v9 c' f' w5 w6 w7 w8 w9 z0 z1 z2 z3 z4 z5 z6 z7 z8 z9 z10 z11 z12 z13 z14 z15 z16 z17 pg => hr s' v5 v6 v7 v8 v9 c' f' w5 w6 w7 w8 w9 z0 z1 z2 z3 z4 z5 z6 z7 z8 z9 z10 z11 z12 z13 z14 z15 z16 z17 (by omega)) hk
      · exact sj_X12_cut_309T_J212 hfu r0 s27 c28 f29 a3 a4 a5 a6 a9 x18 a7 0 a1 a2 (by omega) (by omega) (by omega) (by omega) (by omega) (by omega) (by omega) (by omega) (by omega) (by omega) (by first | exact y_D.cg r46 (by omega) | exact y_D.z (by omega) | exact y_D.ex r46 (by omega) (by omega)) (by omega) (by omega) (by first | exact y_CB.cg r53 (by omega) (by omega) | exact y_CB.a (by omega) (by omega) | exact y_CB.b (by omega) (by assumption) (by omega)) r47 (by first | exact r48 | exact y_K.b0 (by omega) | exact y_K.k0 (by omega) | exact y_K.bk (by omega)) (by omega) (by omega) r49 r50 (by omega) (by first | exact y_UB.cg r51 (by omega) (by omega)) (by first | exact y_AQ.cg r52 (by omega) (by omega) (by omega) (by omega)) (by first | exact y_CV.cg r54 (by omega) (by omega) (by omega) (by omega) (by omega) (by omega)) (by omega) (by omega) (by first | exact y_CGy.mk r55 (by omega) (by omega) (by omega) (by omega)) M (by omega) (fun s' v5 v6 v7 v8 v9 c' f' w5 w6 w7 w8 w9 z0 z1 z2 z3 z4 z5 z6 z7 z8 z9 z10 z11 z12 z13 z14 z15 z16 z17 pg => hr s' v5 v6 v7 v8 v9 c' f' w5 w6 w7 w8 w9 z0 z1 z2 z3 z4 z5 z6 z7 z8 z9 z10 z11 z12 z13 z14 z15 z16 z17 (by omega)) hk
set_option maxHeartbeats 4000000 in
theorem sl_X12_cut_309T_L125 {fu : Nat} (hfu : 8589934592 ≤ fu) (r0 : z_M) (a1 : Int) (a2 : Int) (a3 : Int) (a4 : Int) (b3 : -2147483648 ≤ a3 ∧ a3 ≤ 2147483647) (b4 : -2147483648 ≤ a4 ∧ a4 ≤ 2147483647) {k : z_M → Int → Int → z_O} (hk : ∀ (s' : z_M) (v5 : Int) (v6 : Int), z_CI s' → z_Fr R_X12_cut_309 r0 s' → (0 ≤ v5 ∧ v5 ≤ 200) → (0 ≤ v6 ∧ v6 ≤ 200) → (v6 ≤ v5) → (y_D s' v5) → (y_TA s') → (y_K s') → (s' 309 5 = r0 309 5) → (s' 309 19 = r0 309 19) → (y_TT r0 s') → (y_WF s') → (s' 329 2 = r0 316 2) → (y_UB s' a3 a4) → (y_AQ r0 a1 a2 a3 a4) → (y_CU s' a3 a4 (s' 316 0) v5 v6) → (s' 309 0 = 0) → (0 ≤ a1 ∧ a1 < r0 309 20 ∧ 0 ≤ a2 ∧ a2 < r0 309 20 ∧ a1 ≤ a2) → (y_CGe s' v6) → z_T (k s' v5 v6) (P_X12_cut_309T r0 a1 a2)) : ∀ (F : Nat) (s : z_M) (a5 : Int) (a6 : Int) (a7 : Int) (a8 : Int) (a9 : Int), z_CI s → z_Fr R_X12_cut_309 r0 s → (0 ≤ a5 ∧ a5 ≤ 200) → (0 ≤ a6 ∧ a6 ≤ 200) → ((-1) ≤ a7 ∧ a7 ≤ 199) → (-2147483648 ≤ a8 ∧ a8 ≤ 2147483647) → (0 ≤ a9 ∧ a9 ≤ 200) → (a6 ≤ a5) → (a5 ≤ a9) → ((a6 = 0 ∧ a7 = -1 ∧ a8 = -1) ∨ (0 ≤ a7 ∧ a7 ≤ a6 - 1)) → (y_D s a5) → (y_TA s) → (y_K s) → (a9 ≤ s 316 0) → (s 309 5 = r0 309 5) → (s 309 19 = r0 309 19) → (y_TT r0 s) → (y_WF s) → (s 329 2 = r0 316 2) → (y_UB s a3 a4) → (y_AQ r0 a1 a2 a3 a4) → (y_CU s a3 a4 a9 a5 a6) → (s 309 0 = 0) → (0 ≤ a1 ∧ a1 < r0 309 20 ∧ 0 ≤ a2 ∧ a2 < r0 309 20 ∧ a1 ≤ a2) → (y_CG s a6 a7 a8) → (2147483647 - a9 < (F : Int)) → z_T (fX12_cut_L125 fu 309 a3 a4 F s a5 a6 a7 a8 a9 k) (P_X12_cut_309T r0 a1 a2) := by
  intro F
  induction F with
  | zero =>
    intro s a5 a6 a7 a8 a9 c f b5 b6 b7 b8 b9 i0 i1 i2 i3 i4 i5 i6 i7 i8 i9 i10 i11 i12 i13 i14 i15 i16 i17 hm
    have u24 := CI_b c (k := 309) (j := 0) bd_309_0
    have u25 := CI_b c (k := 309) (j := 5) bd_309_5
    have u26 := CI_b c (k := 309) (j := 19) bd_309_19
    have u27 := CI_b c (k := 309) (j := 20) bd_309_20
    have u28 := CI_b c (k := 309) (j := 36) bd_309_36
    have u29 := CI_b c (k := 309) (j := 43) bd_309_43
    have u30 := CI_b c (k := 309) (j := 44) bd_309_44
    have u31 := CI_b c (k := 309) (j := 58) bd_309_58
    have u32 := CI_b c (k := 316) (j := 0) bd_316_0
    have u33 := CI_b c (k := 316) (j := 2) bd_316_2
    have u34 := CI_b c (k := 329) (j := 0) bd_329_0
    have u35 := CI_b c (k := 329) (j := 1) bd_329_1
    have u36 := CI_b c (k := 329) (j := 2) bd_329_2
    exfalso; omega
  | succ F ih =>
    intro s a5 a6 a7 a8 a9 c f b5 b6 b7 b8 b9 i0 i1 i2 i3 i4 i5 i6 i7 i8 i9 i10 i11 i12 i13 i14 i15 i16 i17 hm
    refine T_of (fX12_cut_L125.eq_2 ..) ?_
    have u1 := CI_b c (k := 309) (j := 0) bd_309_0
    have u2 := CI_b c (k := 309) (j := 5) bd_309_5
    have u3 := CI_b c (k := 309) (j := 19) bd_309_19
    have u4 := CI_b c (k := 309) (j := 20) bd_309_20
    have u5 := CI_b c (k := 309) (j := 36) bd_309_36
    have u6 := CI_b c (k := 309) (j := 43) bd_309_43
    have u7 := CI_b c (k := 309) (j := 44) bd_309_44
    have u8 := CI_b c (k := 309) (j := 58) bd_309_58
    have u9 := CI_b c (k := 316) (j := 0) bd_316_0
    have u10 := CI_b c (k := 316) (j := 2) bd_316_2
    have u11 := CI_b c (k := 329) (j := 0) bd_329_0
    have u12 := CI_b c (k := 329) (j := 1) bd_329_1
    have u13 := CI_b c (k := 329) (j := 2) bd_329_2
    have t14 : s 309 5 = r0 309 5 := f 309 5 (by decide)
    have t15 : s 309 43 = r0 309 43 := f 309 43 (by decide)
    have t16 : s 309 44 = r0 309 44 := f 309 44 (by decide)
    have t17 : s 309 58 = r0 309 58 := f 309 58 (by decide)
    refine T_if1 (by decide +kernel) ?_
    refine T_let 315 (by decide +kernel) ?_
    refine T_if1 (z_ixl (n := 14) (by decide +kernel) (by omega) (by omega)) ?_
    refine T_let 316 (by decide +kernel) ?_
    refine T_if1 (z_ixl (n := 3) (by decide +kernel) (by omega) (by omega)) ?_
    refine T_leq (fun x18 e19 => ?_)
    have u20 := CI_b c (k := 316) (j := 0) bd_316_0
    refine T_ite (fun h21 => ?_) (fun h21 => ?_)
    · exact hk s a5 a6 c f (by omega) (by omega) (by omega) (by first | exact y_D.cg i3 (by omega) | exact y_D.z (by omega) | exact y_D.ex i3 (by omega) (by omega)) i4 (by first | exact i5 | exact y_K.b0 (by omega) | exact y_K.k0 (by omega) | exact y_K.bk (by omega)) (by omega) (by omega) i9 i10 (by omega) (by first | exact y_UB.cg i12 (by omega) (by omega)) (by first | exact y_AQ.cg i13 (by omega) (by omega) (by omega) (by omega)) (by first | exact y_CU.cg i14 (by omega) (by omega) (by omega) (by omega) (by omega) | exact y_CU.sk i14 (by omega) (by omega) (by omega) (by omega) (by omega)) (by omega) (by omega) (by first | exact y_CGe.of i17 (by omega))
    · refine T_ite (fun h22 => ?_) (fun h22 => ?_)
      · exact sj_X12_cut_309T_J154 hfu r0 s c f a3 a4 a5 a6 a7 a8 a9 a1 a2 (by omega) (by omega) (by omega) (by omega) (by omega) (by omega) (by omega) (by omega) (by omega) (by omega) (by first | exact y_D.cg i3 (by omega) | exact y_D.z (by omega) | exact y_D.ex i3 (by omega) (by omega)) i4 (by first | exact i5 | exact y_K.b0 (by omega) | exact y_K.k0 (by omega) | exact y_K.bk (by omega)) (by omega) (by omega) (by omega) i9 i10 (by omega) (by first | exact y_UB.cg i12 (by omega) (by omega)) (by first | exact y_AQ.cg i13 (by omega) (by omega) (by omega) (by omega)) (by first | exact y_CU.cg i14 (by omega) (by omega) (by omega) (by omega) (by omega) | exact y_CU.sk i14 (by omega) (by omega) (by omega) (by omega) (by omega)) (by omega) (by omega) (by omega) (by first | exact y_CG.cg i17 (by omega) (by omega) (by omega) | exact y_CG.z (by omega) (by omega) (by omega)) (2147483647 - a9) (by omega) (fun s' v5 v6 v7 v8 v9 c' f' w5 w6 w7 w8 w9 z0 z1 z2 z3 z4 z5 z6 z7 z8 z9 z10 z11 z12 z13 z14 z15 z16 z17 pg => ih s' v5 v6 v7 v8 v9 c' f' w5 w6 w7 w8 w9 z0 z1 z2 z3 z4 z5 z6 z7 z8 z9 z10 z11 z12 z13 z14 z15 z16 z17 (by omega)) hk
      · refine T_ite (fun h23 => ?_) (fun h23 => ?_)
        · exact sj_X12_cut_309T_J154 hfu r0 s c f a3 a4 a5 a6 a7 a8 a9 a1 a2 (by omega) (by omega) (by omega) (by omega) (by omega) (by omega) (by omega) (by omega) (by omega) (by omega) (by first | exact y_D.cg i3 (by omega) | exact y_D.z (by omega) | exact y_D.ex i3 (by omega) (by omega)) i4 (by first | exact i5 | exact y_K.b0 (by omega) | exact y_K.k0 (by omega) | exact y_K.bk (by omega)) (by omega) (by omega) (by omega) i9 i10 (by omega) (by first | exact y_UB.cg i12 (by omega) (by omega)) (by first | exact y_AQ.cg i13 (by omega) (by omega) (by omega) (by omega)) (by first | exact y_CU.cg i14 (by omega) (by omega) (by omega) (by omega) (by omega) | exact y_CU.sk i14 (by omega) (by omega) (by omega) (by omega) (by omega)) (by omega) (by omega) (by omega) (by first | exact y_CG.cg i17 (by omega) (by omega) (by omega) | exact y_CG.z (by omega) (by omega) (by omega)) (2147483647 - a9) (by omega) (fun s' v5 v6 v7 v8 v9 c' f' w5 w6 w7 w8 w9 z0 z1 z2 z3 z4 z5 z6 z7 z8 z9 z10 z11 z12 z13 z14 z15 z16 z17 pg => ih s' v5 v6 v7 v8 v9 c' f' w5 w6 w7 w8 w9 z0 z1 z2 z3 z4 z5 z6 z7 z8 z9 z10 z11 z12 z13 z14 z15 z16 z17 (by omega)) hk
        · exact sj_X12_cut_309T_J369 hfu r0 s c f a3 a4 a5 a6 a7 a8 a9 a1 a2 (by omega) (by omega) (by omega) (by omega) (by omega) (by omega) (by omega) (by omega) (by omega) (by omega) (by first | exact y_D.cg i3 (by omega) | exact y_D.z (by omega) | exact y_D.ex i3 (by omega) (by omega)) i4 (by first | exact i5 | exact y_K.b0 (by omega) | exact y_K.k0 (by omega) | exact y_K.bk (by omega)) (by omega) (by omega) (by omega) i9 i10 (by omega) (by first | exact y_UB.cg i12 (by omega) (by omega)) (by first | exact y_AQ.cg i13 (by omega) (by omega) (by omega) (by omega)) (by first | exact y_CU.cg i14 (by omega) (by omega) (by omega) (by omega) (by omega) | exact y_CU.sk i14 (by omega) (by omega) (by omega) (by omega) (by omega)) (by omega) (by omega) (by first | exact y_CG.cg i17 (by omega) (by omega) (by omega) | exact y_CG.z (by omega) (by omega) (by omega)) (2147483647 - a9) (by omega) (fun s' v5 v6 v7 v8 v9 c' f' w5 w6 w7 w8 w9 z0 z1 z2 z3 z4 z5 z6 z7 z8 z9 z10 z11 z12 z13 z14 z15 z16 z17 pg => ih s' v5 v6 v7 v8 v9 c' f' w5 w6 w7 w8 w9 z0 z1 z2 z3 z4 z5 z6 z7 z8 z9 z10 z11 z12 z13 z14 z15 z16 z17 (by omega)) hk
theorem nr_X12_stands_309__7657 (b : Int) : ¬ R_X12_stands_309 7657 b := by
  unfold R_X12_stands_309; omega
set_option maxHeartbeats 4000000 in
theorem sj_X12_cut_309T_J46 {fu : Nat} (hfu : 8589934592 ≤ fu) (r0 s : z_M) (c : z_CI s) (f : z_Fr R_X12_cut_309 r0 s) (a1 : Int) (a2 : Int) (t1 : Int) (b1 : -2147483648 ≤ a1 ∧ a1 ≤ 2147483647) (b2 : -2147483648 ≤ a2 ∧ a2 ≤ 2147483647) (d1 : 0 ≤ t1 ∧ t1 ≤ 1) (p0 : y_TA s) (p1 : y_DD s) (p2 : y_B s) (p3 : y_K s) (p4 : 0 ≤ a1 ∧ a1 < s 309 20 ∧ 0 ≤ a2 ∧ a2 < s 309 20) (p5 : t1 = 1 ∨ a1 ≤ a2) (p6 : s 309 5 = r0 309 5) (p7 : s 309 19 = r0 309 19) (p8 : y_TT r0 s) (p9 : y_PU s) (p10 : y_WF s) (p11 : s 309 20 = r0 309 20) (p12 : y_FS r0 s) (p13 : s 316 2 = r0 316 2) (p14 : s 309 0 = 0) (p15 : t1 = 0 ∨ a2 < a1) : z_T (fX12_cut_J46 fu s 309 a1 a2 309 t1) (P_X12_cut_309T r0 a1 a2) := by
  refine T_of (fX12_cut_J46.eq_1 ..) ?_
  have u1 := CI_b c (k := 309) (j := 0) bd_309_0
  have u2 := CI_b c (k := 309) (j := 5) bd_309_5
  have u3 := CI_b c (k := 309) (j := 19) bd_309_19
  have u4 := CI_b c (k := 309) (j := 20) bd_309_20
  have u5 := CI_b c (k := 309) (j := 36) bd_309_36
  have u6 := CI_b c (k := 309) (j := 43) bd_309_43
  have u7 := CI_b c (k := 309) (j := 44) bd_309_44
  have u8 := CI_b c (k := 309) (j := 58) bd_309_58
  have u9 := CI_b c (k := 316) (j := 0) bd_316_0
  have u10 := CI_b c (k := 316) (j := 2) bd_316_2
  have u11 := CI_b c (k := 329) (j := 0) bd_329_0
  have u12 := CI_b c (k := 329) (j := 1) bd_329_1
  have u13 := CI_b c (k := 329) (j := 2) bd_329_2
  have t14 : s 309 5 = r0 309 5 := f 309 5 (by decide)
  have t15 : s 309 43 = r0 309 43 := f 309 43 (by decide)
  have t16 : s 309 44 = r0 309 44 := f 309 44 (by decide)
  have t17 : s 309 58 = r0 309 58 := f 309 58 (by decide)
  refine T_if1 (by decide +kernel) ?_
  refine T_useI (sf_X12_bad_309 hfu s c t1 2 1 (by omega) (by omega) (by omega) (by omega)) (fun v23 s18 hq => ?_)
  obtain ⟨c19, f20, o24, ⟨x22, rfl, b25, b26, o27, o28⟩⟩ := hq
  refine T_vI ?_
  have f21 := z_Fr.tr (R := R_X12_cut_309) f f20 rs_X12_bad_309__X12_cut_309
  have t29 : s18 309 5 = s 309 5 := f20 309 5 (by decide)
  have t30 : s18 309 19 = s 309 19 := f20 309 19 (by decide)
  have t31 : s18 309 20 = s 309 20 := f20 309 20 (by decide)
  have t32 : s18 309 36 = s 309 36 := f20 309 36 (by decide)
  have t33 : s18 309 43 = s 309 43 := f20 309 43 (by decide)
  have t34 : s18 309 44 = s 309 44 := f20 309 44 (by decide)
  have t35 : s18 309 58 = s 309 58 := f20 309 58 (by decide)
  have t36 : s18 316 0 = s 316 0 := f20 316 0 (by decide)
  have t37 : s18 316 2 = s 316 2 := f20 316 2 (by decide)
  have t38 : s18 329 0 = s 329 0 := f20 329 0 (by decide)
  have t39 : s18 329 1 = s 329 1 := f20 329 1 (by decide)
  have t40 : s18 329 2 = s 329 2 := f20 329 2 (by decide)
  have u41 := CI_b c19 (k := 309) (j := 0) bd_309_0
  have r42 := y_TA.fr p0 (fun a b h => f20 a b (nz_X12_bad_309__316_328 a b h)) (fun a b h => f20 a b (nz_X12_bad_309__346_358 a b h)) (fun a b h => f20 a b (nz_X12_bad_309__361_373 a b h))
  have r43 := y_DD.fr p1 (f20 329 0 (by decide)) (f20 329 1 (by decide)) (fun b => f20 359 b (nr_X12_bad_309__359 b)) (fun b => f20 374 b (nr_X12_bad_309__374 b))
  have r44 := y_B.fr p2 (f20 309 20 (by decide)) (f20 316 0 (by decide)) (fun b => f20 3220 b (nr_X12_bad_309__3220 b)) (fun b => f20 3221 b (nr_X12_bad_309__3221 b)) (fun b => f20 3222 b (nr_X12_bad_309__3222 b)) (fun b => f20 361 b (nr_X12_bad_309__361 b))
  have r45 := y_K.fr p3 (by omega) (by omega) (f20 309 44 (by decide)) (f20 309 20 (by decide)) (f20 309 58 (by decide)) (fun b => f20 3438 b (nr_X12_bad_309__3438 b)) (fun b => f20 3220 b (nr_X12_bad_309__3220 b)) (fun a b h => f20 a b (nz_X12_bad_309__3452_3651 a b h))
  have r46 := y_TT.fr p8 (fun a b h => f20 a b (nz_X12_bad_309__316_328 a b h)) (fun a b h => f20 a b (nz_X12_bad_309__331_343 a b h)) (fun a b h => f20 a b (nz_X12_bad_309__346_358 a b h)) (fun a b h => f20 a b (nz_X12_bad_309__361_373 a b h)) (fun a b h => f20 a b (nz_X12_bad_309__376_388 a b h)) (fun a b h => f20 a b (nz_X12_bad_309__391_403 a b h)) (fun a b h => f20 a b (nz_X12_bad_309__407_3018 a b h))
  have r47 := y_PU.fr p9 (f20 309 20 (by decide)) (f20 316 0 (by decide)) (fun b => f20 346 b (nr_X12_bad_309__346 b)) (fun b => f20 361 b (nr_X12_bad_309__361 b)) (fun b => f20 3220 b (nr_X12_bad_309__3220 b)) (fun b => f20 3221 b (nr_X12_bad_309__3221 b)) (fun b => f20 3222 b (nr_X12_bad_309__3222 b)) (fun b => f20 3223 b (nr_X12_bad_309__3223 b))
  have r48 := y_WF.fr p10 (f20 316 0 (by decide)) (fun b => f20 346 b (nr_X12_bad_309__346 b)) (fun b => f20 361 b (nr_X12_bad_309__361 b))
  have r49 := y_FS.fr p12 (fun b => f20 3221 b (nr_X12_bad_309__3221 b)) (fun b => f20 3222 b (nr_X12_bad_309__3222 b))
  refine T_ite (fun h50 => ?_) (fun h50 => ?_)
  · refine T_if1 (by decide +kernel) ?_
    refine T_useN (sf_X12_copies_309T hfu s18 c19 0 13 (by omega) (by omega) (by omega)) (fun v56 s51 hq => ?_)
    obtain ⟨c52, f53, o57, o58, o59, rfl⟩ := hq
    refine T_vN ?_
    have f54 := z_Fr.tr (R := R_X12_cut_309) f21 f53 rs_X12_copies_309__X12_cut_309
    have t62 : s51 309 0 = s18 309 0 := f53 309 0 (by decide)
    have t63 : s51 309 5 = s 309 5 := (f53 309 5 (by decide)).trans t29
    have t64 : s51 309 19 = s 309 19 := (f53 309 19 (by decide)).trans t30
    have t65 : s51 309 20 = s 309 20 := (f53 309 20 (by decide)).trans t31
    have t66 : s51 309 36 = s 309 36 := (f53 309 36 (by decide)).trans t32
    have t67 : s51 309 43 = s 309 43 := (f53 309 43 (by decide)).trans t33
    have t68 : s51 309 44 = s 309 44 := (f53 309 44 (by decide)).trans t34
    have t69 : s51 309 58 = s 309 58 := (f53 309 58 (by decide)).trans t35
    have u70 := CI_b c52 (k := 316) (j := 0) bd_316_0
    have u71 := CI_b c52 (k := 316) (j := 2) bd_316_2
    have u72 := CI_b c52 (k := 329) (j := 0) bd_329_0
    have u73 := CI_b c52 (k := 329) (j := 1) bd_329_1
    have u74 := CI_b c52 (k := 329) (j := 2) bd_329_2
    have r75 := y_K.fr r45 (by omega) (by omega) (f53 309 44 (by decide)) (f53 309 20 (by decide)) (f53 309 58 (by decide)) (fun b => f53 3438 b (nr_X12_copies_309__3438 b)) (fun b => f53 3220 b (nr_X12_copies_309__3220 b)) (fun a b h => f53 a b (nz_X12_copies_309__3452_3651 a b h))
    have r76 := y_FS.fr r49 (fun b => f53 3221 b (nr_X12_copies_309__3221 b)) (fun b => f53 3222 b (nr_X12_copies_309__3222 b))
    have r77 : y_PU s51 := y_CF.PU o58 (by omega) r47 (f53 309 20 (by unfold R_X12_copies_309; omega)) (fun b => f53 3220 b (by unfold R_X12_copies_309; omega)) (fun b => f53 3221 b (by unfold R_X12_copies_309; omega)) (fun b => f53 3222 b (by unfold R_X12_copies_309; omega)) (fun b => f53 3223 b (by unfold R_X12_copies_309; omega))
    have r78 : y_WF s51 := y_CF.WF o58 r48
    have r79 : y_TT r0 s51 := y_CF.TT o58 o59 r46
    have n80 := y_CF.h2 o58
    have r81 := y_CP.TA o57 c19 (by omega) r42
    clear t29
    clear t30
    clear t31
    clear t32
    clear t33
    clear t34
    clear t35
    refine T_if1 (by decide +kernel) ?_
    refine T_let 3221 (by decide +kernel) ?_
    refine T_if1 (z_ixl (n := 200) (by decide +kernel) (by omega) (by omega)) ?_
    refine T_leq (fun x82 e83 => ?_)
    have u84 := CI_b c52 (k := 3221) (j := a1) (bdr_3221 a1)
    refine T_if1 (by decide +kernel) ?_
    refine T_let 3221 (by decide +kernel) ?_
    refine T_if1 (z_ixl (n := 200) (by decide +kernel) (by omega) (by omega)) ?_
    refine T_leq (fun x85 e86 => ?_)
    have u87 := CI_b c52 (k := 3221) (j := a2) (bdr_3221 a2)
    refine T_if1 (by decide +kernel) ?_
    refine T_let 3222 (by decide +kernel) ?_
    refine T_if1 (z_ixl (n := 200) (by decide +kernel) (by omega) (by omega)) ?_
    refine T_leq (fun x88 e89 => ?_)
    have u90 := CI_b c52 (k := 3222) (j := a2) (bdr_3222 a2)
    refine T_leq (fun x91 e92 => ?_)
    first | (have w93 := z_wx e92 (by omega)) | (have w93 := z_wr e92)
    have r94 : y_UB s51 x82 x91 := y_PU.UB r77 (a := a1) (b := a2) (by assumption) (by assumption) (by assumption) (by omega) (by omega) (by omega) (by omega)
    have r95 : y_AQ r0 a1 a2 x82 x91 := y_AQ.mk (s := s51) (a := a1) (b := a2) (by assumption) (by assumption) (by assumption) (by omega) (r76).1 (r76).2 (by omega) (by omega) (by omega) (by omega) (by omega)
    refine sl_X12_cut_309T_L100 hfu r0 a1 a2 x82 x91 0 0 (-1) (-1) (by omega) (by omega) (by omega) (by omega) (by omega) (by omega) (fun s96 c97 f98 g99 g100 g101 g102 g103 g104 g105 g106 g107 g108 g109 g110 => ?_) fu s51 0 c52 f54 (by omega) r81 (by first | exact r75 | exact y_K.b0 (by omega) | exact y_K.k0 (by omega) | exact y_K.bk (by omega)) (by omega) (by omega) r79 r78 (by omega) (by first | exact y_UB.cg r94 (by omega) (by omega)) (by first | exact y_AQ.cg r95 (by omega) (by omega) (by omega) (by omega)) (by first | exact y_CZ.z (by omega)) (by omega) (by omega) (by omega)
    have u111 := CI_b c97 (k := 309) (j := 0) bd_309_0
    have u112 := CI_b c97 (k := 309) (j := 5) bd_309_5
    have u113 := CI_b c97 (k := 309) (j := 19) bd_309_19
    have u114 := CI_b c97 (k := 309) (j := 20) bd_309_20
    have u115 := CI_b c97 (k := 309) (j := 36) bd_309_36
    have u116 := CI_b c97 (k := 309) (j := 43) bd_309_43
    have u117 := CI_b c97 (k := 309) (j := 44) bd_309_44
    have u118 := CI_b c97 (k := 309) (j := 58) bd_309_58
    have u119 := CI_b c97 (k := 316) (j := 0) bd_316_0
    have u120 := CI_b c97 (k := 316) (j := 2) bd_316_2
    have u121 := CI_b c97 (k := 329) (j := 0) bd_329_0
    have u122 := CI_b c97 (k := 329) (j := 1) bd_329_1
    have u123 := CI_b c97 (k := 329) (j := 2) bd_329_2
    have t124 : s96 309 5 = r0 309 5 := f98 309 5 (by decide)
    have t125 : s96 309 43 = r0 309 43 := f98 309 43 (by decide)
    have t126 : s96 309 44 = r0 309 44 := f98 309 44 (by decide)
    have t127 : s96 309 58 = r0 309 58 := f98 309 58 (by decide)
    refine sl_X12_cut_309T_L125 hfu r0 a1 a2 x82 x91 (by omega) (by omega) (fun s128 y131 y132 c129 f130 b133 b134 g135 g136 g137 g138 g139 g140 g141 g142 g143 g144 g145 g146 g147 g148 g149 => ?_) fu s96 0 0 (-1) (-1) 0 c97 f98 (by omega) (by omega) (by omega) (by omega) (by omega) (by omega) (by omega) (by omega) (by first | exact y_D.z (by omega)) g99 (by first | exact g100 | exact y_K.b0 (by omega) | exact y_K.k0 (by omega) | exact y_K.bk (by omega)) (by omega) (by omega) (by omega) g103 g104 (by omega) (by first | exact y_UB.cg g106 (by omega) (by omega)) (by first | exact y_AQ.cg g107 (by omega) (by omega) (by omega) (by omega)) (by first | exact y_CU.z g108 g106 (by omega) (by omega) (by omega)) (by omega) (by omega) (by first | exact y_CG.z (by omega) (by omega) (by omega)) (by omega)
    have u150 := CI_b c129 (k := 309) (j := 0) bd_309_0
    have u151 := CI_b c129 (k := 309) (j := 5) bd_309_5
    have u152 := CI_b c129 (k := 309) (j := 19) bd_309_19
    have u153 := CI_b c129 (k := 309) (j := 20) bd_309_20
    have u154 := CI_b c129 (k := 309) (j := 36) bd_309_36
    have u155 := CI_b c129 (k := 309) (j := 43) bd_309_43
    have u156 := CI_b c129 (k := 309) (j := 44) bd_309_44
    have u157 := CI_b c129 (k := 309) (j := 58) bd_309_58
    have u158 := CI_b c129 (k := 316) (j := 0) bd_316_0
    have u159 := CI_b c129 (k := 316) (j := 2) bd_316_2
    have u160 := CI_b c129 (k := 329) (j := 0) bd_329_0
    have u161 := CI_b c129 (k := 329) (j := 1) bd_329_1
    have u162 := CI_b c129 (k := 329) (j := 2) bd_329_2
    have t163 : s128 309 5 = r0 309 5 := f130 309 5 (by decide)
    have t164 : s128 309 43 = r0 309 43 := f130 309 43 (by decide)
    have t165 : s128 309 44 = r0 309 44 := f130 309 44 (by decide)
    have t166 : s128 309 58 = r0 309 58 := f130 309 58 (by decide)
    refine T_if1 (by decide +kernel) ?_
    refine T_let 315 (by decide +kernel) ?_
    refine T_if1 (z_ixl (n := 14) (by decide +kernel) (by omega) (by omega)) ?_
    refine T_let 329 (by decide +kernel) ?_
    refine T_if1 (z_ixl (n := 3) (by decide +kernel) (by omega) (by omega)) ?_
    refine T_upg c129 bd_329_0 (by omega) (fun s167 c168 g170 g171 e172 => ?_)
    have f169 := z_Fr.up (R := R_X12_cut_309) f130 g170 (fun _ => (Or.inr (Or.inl (⟨by decide, by decide⟩))))
    have t173 : s167 309 0 = s128 309 0 := g170 309 0 (by decide)
    have t174 : s167 309 5 = s128 309 5 := g170 309 5 (by decide)
    have t175 : s167 309 19 = s128 309 19 := g170 309 19 (by decide)
    have t176 : s167 309 20 = s128 309 20 := g170 309 20 (by decide)
    have t177 : s167 309 36 = s128 309 36 := g170 309 36 (by decide)
    have t178 : s167 309 43 = s128 309 43 := g170 309 43 (by decide)
    have t179 : s167 309 44 = s128 309 44 := g170 309 44 (by decide)
    have t180 : s167 309 58 = s128 309 58 := g170 309 58 (by decide)
    have t181 : s167 316 0 = s128 316 0 := g170 316 0 (by decide)
    have t182 : s167 316 2 = s128 316 2 := g170 316 2 (by decide)
    have t183 : s167 329 1 = s128 329 1 := g171 1 (by decide)
    have t184 : s167 329 2 = s128 329 2 := g171 2 (by decide)
    have u185 := CI_b c168 (k := 329) (j := 0) bd_329_0
    have r186 := y_D.fr g136 (fun b => g170 359 b (by decide)) (fun b => g170 374 b (by decide))
    have r187 := y_TA.fr g137 (fun a b h => g170 a b (by omega)) (fun a b h => g170 a b (by omega)) (fun a b h => g170 a b (by omega))
    have r188 := y_K.fr g138 (by omega) (by omega) (g170 309 44 (by decide)) (g170 309 20 (by decide)) (g170 309 58 (by decide)) (fun b => g170 3438 b (by decide)) (fun b => g170 3220 b (by decide)) (fun a b h => g170 a b (by omega))
    have r189 := y_TT.fr g141 (fun a b h => g170 a b (by omega)) (fun a b h => g170 a b (by omega)) (fun a b h => g170 a b (by omega)) (fun a b h => g170 a b (by omega)) (fun a b h => g170 a b (by omega)) (fun a b h => g170 a b (by omega)) (fun a b h => g170 a b (by omega))
    have r190 := y_WF.fr g142 (g170 316 0 (by decide)) (fun b => g170 346 b (by decide)) (fun b => g170 361 b (by decide))
    have r191 := y_UB.fr g144 (g170 316 0 (by decide)) (fun b => g170 346 b (by decide)) (fun b => g170 361 b (by decide))
    have r192 := id g145 
    have r193 := y_CU.fr g146 (fun b => g170 331 b (by decide)) (fun b => g170 346 b (by decide)) (fun b => g170 361 b (by decide)) (fun b => g170 376 b (by decide)) (fun b => g170 344 b (by decide)) (fun b => g170 359 b (by decide)) (fun b => g170 374 b (by decide)) (fun b => g170 389 b (by decide)) (fun b => g170 7657 b (by decide))
    have r194 := y_CGe.fr g149 (fun b => g170 391 b (by decide)) (fun b => g170 404 b (by decide)) (fun b => g170 7657 b (by decide)) (fun a b h => g170 a b (by omega)) (fun a b h => g170 a b (by omega))
    refine T_if1 (by decide +kernel) ?_
    refine T_let 315 (by decide +kernel) ?_
    refine T_if1 (z_ixl (n := 14) (by decide +kernel) (by omega) (by omega)) ?_
    refine T_let 329 (by decide +kernel) ?_
    refine T_if1 (z_ixl (n := 3) (by decide +kernel) (by omega) (by omega)) ?_
    refine T_upg c168 bd_329_1 (by omega) (fun s195 c196 g198 g199 e200 => ?_)
    have f197 := z_Fr.up (R := R_X12_cut_309) f169 g198 (fun _ => (Or.inr (Or.inl (⟨by decide, by decide⟩))))
    have t201 : s195 309 0 = s128 309 0 := (g198 309 0 (by decide)).trans t173
    have t202 : s195 309 5 = s128 309 5 := (g198 309 5 (by decide)).trans t174
    have t203 : s195 309 19 = s128 309 19 := (g198 309 19 (by decide)).trans t175
    have t204 : s195 309 20 = s128 309 20 := (g198 309 20 (by decide)).trans t176
    have t205 : s195 309 36 = s128 309 36 := (g198 309 36 (by decide)).trans t177
    have t206 : s195 309 43 = s128 309 43 := (g198 309 43 (by decide)).trans t178
    have t207 : s195 309 44 = s128 309 44 := (g198 309 44 (by decide)).trans t179
    have t208 : s195 309 58 = s128 309 58 := (g198 309 58 (by decide)).trans t180
    have t209 : s195 316 0 = s128 316 0 := (g198 316 0 (by decide)).trans t181
    have t210 : s195 316 2 = s128 316 2 := (g198 316 2 (by decide)).trans t182
    have t211 : s195 329 0 = s167 329 0 := g199 0 (by decide)
    have t212 : s195 329 2 = s128 329 2 := (g199 2 (by decide)).trans t184
    have u213 := CI_b c196 (k := 329) (j := 1) bd_329_1
    have r214 := y_D.fr r186 (fun b => g198 359 b (by decide)) (fun b => g198 374 b (by decide))
    have r215 := y_TA.fr r187 (fun a b h => g198 a b (by omega)) (fun a b h => g198 a b (by omega)) (fun a b h => g198 a b (by omega))
    have r216 := y_K.fr r188 (by omega) (by omega) (g198 309 44 (by decide)) (g198 309 20 (by decide)) (g198 309 58 (by decide)) (fun b => g198 3438 b (by decide)) (fun b => g198 3220 b (by decide)) (fun a b h => g198 a b (by omega))
    have r217 := y_TT.fr r189 (fun a b h => g198 a b (by omega)) (fun a b h => g198 a b (by omega)) (fun a b h => g198 a b (by omega)) (fun a b h => g198 a b (by omega)) (fun a b h => g198 a b (by omega)) (fun a b h => g198 a b (by omega)) (fun a b h => g198 a b (by omega))
    have r218 := y_WF.fr r190 (g198 316 0 (by decide)) (fun b => g198 346 b (by decide)) (fun b => g198 361 b (by decide))
    have r219 := y_UB.fr r191 (g198 316 0 (by decide)) (fun b => g198 346 b (by decide)) (fun b => g198 361 b (by decide))
    have r220 := id r192 
    have r221 := y_CU.fr r193 (fun b => g198 331 b (by decide)) (fun b => g198 346 b (by decide)) (fun b => g198 361 b (by decide)) (fun b => g198 376 b (by decide)) (fun b => g198 344 b (by decide)) (fun b => g198 359 b (by decide)) (fun b => g198 374 b (by decide)) (fun b => g198 389 b (by decide)) (fun b => g198 7657 b (by decide))
    have r222 := y_CGe.fr r194 (fun b => g198 391 b (by decide)) (fun b => g198 404 b (by decide)) (fun b => g198 7657 b (by decide)) (fun a b h => g198 a b (by omega)) (fun a b h => g198 a b (by omega))
    clear t173
    clear t174
    clear t175
    clear t176
    clear t177
    clear t178
    clear t179
    clear t180
    clear t181
    clear t182
    clear t184
    refine T_if1 (by decide +kernel) ?_
    refine T_useN (sf_X12_stands_309T hfu s195 c196 r215 (by first | exact ⟨by omega, y_D.cg r214 (by omega)⟩ | exact y_DD.z (by omega) (by omega))) (fun v228 s223 hq => ?_)
    obtain ⟨c224, f225, o229, o230, o231, o232, o233, o234, rfl⟩ := hq
    refine T_vN ?_
    have f226 := z_Fr.tr (R := R_X12_cut_309) f197 f225 rs_X12_stands_309__X12_cut_309
    have t237 : s223 309 0 = s128 309 0 := (f225 309 0 (by decide)).trans t201
    have t238 : s223 309 5 = s128 309 5 := (f225 309 5 (by decide)).trans t202
    have t239 : s223 309 43 = s128 309 43 := (f225 309 43 (by decide)).trans t206
    have t240 : s223 309 44 = s128 309 44 := (f225 309 44 (by decide)).trans t207
    have t241 : s223 309 58 = s128 309 58 := (f225 309 58 (by decide)).trans t208
    have u242 := CI_b c224 (k := 309) (j := 19) bd_309_19
    have u243 := CI_b c224 (k := 309) (j := 20) bd_309_20
    have u244 := CI_b c224 (k := 309) (j := 36) bd_309_36
    have u245 := CI_b c224 (k := 316) (j := 0) bd_316_0
    have u246 := CI_b c224 (k := 316) (j := 2) bd_316_2
    have u247 := CI_b c224 (k := 329) (j := 0) bd_329_0
    have u248 := CI_b c224 (k := 329) (j := 1) bd_329_1
    have u249 := CI_b c224 (k := 329) (j := 2) bd_329_2
    have r250 := id r220 
    have hAQ398 := r220
    have r251 : y_CC r0 s223 a1 a2 := y_CC.mk r221 r219 r220 r217 o233 (by omega) (by omega) (by omega) (by omega) (by omega) r222
    clear t201
    clear t202
    clear t206
    clear t207
    clear t208
    refine T_if1 (by decide +kernel) ?_
    refine T_leq (fun x252 e253 => ?_)
    have u254 := CI_b c224 (k := 309) (j := 20) bd_309_20
    exact T_ret ⟨c224, f226, o229, (by first | exact o230 | exact y_DD.z (by omega) (by omega)), o231, (by first | exact y_K.b0 (by omega) | exact y_K.k0 (by omega) | exact y_K.bk (by omega)), o234, (by omega), (by omega), ⟨x252, rfl, by omega, by omega, (by first | exact y_CCP.y r251 hAQ398 (by omega))⟩⟩
  · exact sj_X12_cut_309T_J54 hfu r0 s18 c19 f21 a1 a2 r42 (by first | exact r43 | exact y_DD.z (by omega) (by omega)) r44 (by first | exact r45 | exact y_K.b0 (by omega) | exact y_K.k0 (by omega) | exact y_K.bk (by omega)) (by omega) (by omega) r46 r47 r48 (by omega) r49 (by omega) (by omega) (by omega)
theorem sj_X12_cut_309T_J27 {fu : Nat} (hfu : 8589934592 ≤ fu) (r0 s : z_M) (c : z_CI s) (f : z_Fr R_X12_cut_309 r0 s) (a1 : Int) (a2 : Int) (t1 : Int) (b1 : -2147483648 ≤ a1 ∧ a1 ≤ 2147483647) (b2 : -2147483648 ≤ a2 ∧ a2 ≤ 2147483647) (d1 : 0 ≤ t1 ∧ t1 ≤ 1) (p0 : y_TA s) (p1 : y_DD s) (p2 : y_B s) (p3 : y_K s) (p4 : t1 = 1 ∨ (0 ≤ a1 ∧ a1 < s 309 20 ∧ 0 ≤ a2 ∧ a2 < s 309 20)) (p5 : s 309 5 = r0 309 5) (p6 : s 309 19 = r0 309 19) (p7 : y_TT r0 s) (p8 : y_PU s) (p9 : y_WF s) (p10 : s 309 20 = r0 309 20) (p11 : y_FS r0 s) (p12 : s 316 2 = r0 316 2) (p13 : s 309 0 = 0) (p14 : t1 = 0 ∨ (a1 < 0 ∨ r0 309 20 ≤ a1 ∨ a2 < 0 ∨ r0 309 20 ≤ a2)) : z_T (fX12_cut_J27 fu s 309 a1 a2 309 t1) (P_X12_cut_309T r0 a1 a2) := by
  refine T_of (fX12_cut_J27.eq_1 ..) ?_
  have u1 := CI_b c (k := 309) (j := 0) bd_309_0
  have u2 := CI_b c (k := 309) (j := 5) bd_309_5
  have u3 := CI_b c (k := 309) (j := 19) bd_309_19
  have u4 := CI_b c (k := 309) (j := 20) bd_309_20
  have u5 := CI_b c (k := 309) (j := 36) bd_309_36
  have u6 := CI_b c (k := 309) (j := 43) bd_309_43
  have u7 := CI_b c (k := 309) (j := 44) bd_309_44
  have u8 := CI_b c (k := 309) (j := 58) bd_309_58
  have u9 := CI_b c (k := 316) (j := 0) bd_316_0
  have u10 := CI_b c (k := 316) (j := 2) bd_316_2
  have u11 := CI_b c (k := 329) (j := 0) bd_329_0
  have u12 := CI_b c (k := 329) (j := 1) bd_329_1
  have u13 := CI_b c (k := 329) (j := 2) bd_329_2
  have t14 : s 309 5 = r0 309 5 := f 309 5 (by decide)
  have t15 : s 309 43 = r0 309 43 := f 309 43 (by decide)
  have t16 : s 309 44 = r0 309 44 := f 309 44 (by decide)
  have t17 : s 309 58 = r0 309 58 := f 309 58 (by decide)
  refine T_if1 (by decide +kernel) ?_
  refine T_useI (sf_X12_bad_309 hfu s c t1 1 0 (by omega) (by omega) (by omega) (by omega)) (fun v23 s18 hq => ?_)
  obtain ⟨c19, f20, o24, ⟨x22, rfl, b25, b26, o27, o28⟩⟩ := hq
  refine T_vI ?_
  have f21 := z_Fr.tr (R := R_X12_cut_309) f f20 rs_X12_bad_309__X12_cut_309
  have t29 : s18 309 5 = s 309 5 := f20 309 5 (by decide)
  have t30 : s18 309 19 = s 309 19 := f20 309 19 (by decide)
  have t31 : s18 309 20 = s 309 20 := f20 309 20 (by decide)
  have t32 : s18 309 36 = s 309 36 := f20 309 36 (by decide)
  have t33 : s18 309 43 = s 309 43 := f20 309 43 (by decide)
  have t34 : s18 309 44 = s 309 44 := f20 309 44 (by decide)
  have t35 : s18 309 58 = s 309 58 := f20 309 58 (by decide)
  have t36 : s18 316 0 = s 316 0 := f20 316 0 (by decide)
  have t37 : s18 316 2 = s 316 2 := f20 316 2 (by decide)
  have t38 : s18 329 0 = s 329 0 := f20 329 0 (by decide)
  have t39 : s18 329 1 = s 329 1 := f20 329 1 (by decide)
  have t40 : s18 329 2 = s 329 2 := f20 329 2 (by decide)
  have u41 := CI_b c19 (k := 309) (j := 0) bd_309_0
  have r42 := y_TA.fr p0 (fun a b h => f20 a b (nz_X12_bad_309__316_328 a b h)) (fun a b h => f20 a b (nz_X12_bad_309__346_358 a b h)) (fun a b h => f20 a b (nz_X12_bad_309__361_373 a b h))
  have r43 := y_DD.fr p1 (f20 329 0 (by decide)) (f20 329 1 (by decide)) (fun b => f20 359 b (nr_X12_bad_309__359 b)) (fun b => f20 374 b (nr_X12_bad_309__374 b))
  have r44 := y_B.fr p2 (f20 309 20 (by decide)) (f20 316 0 (by decide)) (fun b => f20 3220 b (nr_X12_bad_309__3220 b)) (fun b => f20 3221 b (nr_X12_bad_309__3221 b)) (fun b => f20 3222 b (nr_X12_bad_309__3222 b)) (fun b => f20 361 b (nr_X12_bad_309__361 b))
  have r45 := y_K.fr p3 (by omega) (by omega) (f20 309 44 (by decide)) (f20 309 20 (by decide)) (f20 309 58 (by decide)) (fun b => f20 3438 b (nr_X12_bad_309__3438 b)) (fun b => f20 3220 b (nr_X12_bad_309__3220 b)) (fun a b h => f20 a b (nz_X12_bad_309__3452_3651 a b h))
  have r46 := y_TT.fr p7 (fun a b h => f20 a b (nz_X12_bad_309__316_328 a b h)) (fun a b h => f20 a b (nz_X12_bad_309__331_343 a b h)) (fun a b h => f20 a b (nz_X12_bad_309__346_358 a b h)) (fun a b h => f20 a b (nz_X12_bad_309__361_373 a b h)) (fun a b h => f20 a b (nz_X12_bad_309__376_388 a b h)) (fun a b h => f20 a b (nz_X12_bad_309__391_403 a b h)) (fun a b h => f20 a b (nz_X12_bad_309__407_3018 a b h))
  have r47 := y_PU.fr p8 (f20 309 20 (by decide)) (f20 316 0 (by decide)) (fun b => f20 346 b (nr_X12_bad_309__346 b)) (fun b => f20 361 b (nr_X12_bad_309__361 b)) (fun b => f20 3220 b (nr_X12_bad_309__3220 b)) (fun b => f20 3221 b (nr_X12_bad_309__3221 b)) (fun b => f20 3222 b (nr_X12_bad_309__3222 b)) (fun b => f20 3223 b (nr_X12_bad_309__3223 b))
  have r48 := y_WF.fr p9 (f20 316 0 (by decide)) (fun b => f20 346 b (nr_X12_bad_309__346 b)) (fun b => f20 361 b (nr_X12_bad_309__361 b))
  have r49 := y_FS.fr p11 (fun b => f20 3221 b (nr_X12_bad_309__3221 b)) (fun b => f20 3222 b (nr_X12_bad_309__3222 b))
  refine T_ite (fun h50 => ?_) (fun h50 => ?_)
  · exact sj_X12_cut_309T_J54 hfu r0 s18 c19 f21 a1 a2 r42 (by first | exact r43 | exact y_DD.z (by omega) (by omega)) r44 (by first | exact r45 | exact y_K.b0 (by omega) | exact y_K.k0 (by omega) | exact y_K.bk (by omega)) (by omega) (by omega) r46 r47 r48 (by omega) r49 (by omega) (by omega) (by omega)
  · refine T_ite (fun h51 => ?_) (fun h51 => ?_)
    · exact sj_X12_cut_309T_J46 hfu r0 s18 c19 f21 a1 a2 0 (by omega) (by omega) (by omega) r42 (by first | exact r43 | exact y_DD.z (by omega) (by omega)) r44 (by first | exact r45 | exact y_K.b0 (by omega) | exact y_K.k0 (by omega) | exact y_K.bk (by omega)) (by omega) (by omega) (by omega) (by omega) r46 r47 r48 (by omega) r49 (by omega) (by omega) (by omega)
    · exact sj_X12_cut_309T_J46 hfu r0 s18 c19 f21 a1 a2 1 (by omega) (by omega) (by omega) r42 (by first | exact r43 | exact y_DD.z (by omega) (by omega)) r44 (by first | exact r45 | exact y_K.b0 (by omega) | exact y_K.k0 (by omega) | exact y_K.bk (by omega)) (by omega) (by omega) (by omega) (by omega) r46 r47 r48 (by omega) r49 (by omega) (by omega) (by omega)
theorem sj_X12_cut_309T_J22 {fu : Nat} (hfu : 8589934592 ≤ fu) (r0 s : z_M) (c : z_CI s) (f : z_Fr R_X12_cut_309 r0 s) (a1 : Int) (a2 : Int) (b1 : -2147483648 ≤ a1 ∧ a1 ≤ 2147483647) (b2 : -2147483648 ≤ a2 ∧ a2 ≤ 2147483647) (p0 : y_TA s) (p1 : y_DD s) (p2 : y_B s) (p3 : y_K s) (p4 : s 309 5 = r0 309 5) (p5 : s 309 19 = r0 309 19) (p6 : y_TT r0 s) (p7 : y_PU s) (p8 : y_WF s) (p9 : s 309 20 = r0 309 20) (p10 : y_FS r0 s) (p11 : s 316 2 = r0 316 2) (p12 : s 309 0 = 0) (p13 : (a1 < 0 ∨ r0 309 20 ≤ a1 ∨ a2 < 0 ∨ r0 309 20 ≤ a2)) : z_T (fX12_cut_J22 fu s 309 a1 a2 309) (P_X12_cut_309T r0 a1 a2) := by
  refine T_of (fX12_cut_J22.eq_1 ..) ?_
  have u1 := CI_b c (k := 309) (j := 0) bd_309_0
  have u2 := CI_b c (k := 309) (j := 5) bd_309_5
  have u3 := CI_b c (k := 309) (j := 19) bd_309_19
  have u4 := CI_b c (k := 309) (j := 20) bd_309_20
  have u5 := CI_b c (k := 309) (j := 36) bd_309_36
  have u6 := CI_b c (k := 309) (j := 43) bd_309_43
  have u7 := CI_b c (k := 309) (j := 44) bd_309_44
  have u8 := CI_b c (k := 309) (j := 58) bd_309_58
  have u9 := CI_b c (k := 316) (j := 0) bd_316_0
  have u10 := CI_b c (k := 316) (j := 2) bd_316_2
  have u11 := CI_b c (k := 329) (j := 0) bd_329_0
  have u12 := CI_b c (k := 329) (j := 1) bd_329_1
  have u13 := CI_b c (k := 329) (j := 2) bd_329_2
  have t14 : s 309 5 = r0 309 5 := f 309 5 (by decide)
  have t15 : s 309 43 = r0 309 43 := f 309 43 (by decide)
  have t16 : s 309 44 = r0 309 44 := f 309 44 (by decide)
  have t17 : s 309 58 = r0 309 58 := f 309 58 (by decide)
  exact sj_X12_cut_309T_J27 hfu r0 s c f a1 a2 1 (by omega) (by omega) (by omega) p0 (by first | exact p1 | exact y_DD.z (by omega) (by omega)) p2 (by first | exact p3 | exact y_K.b0 (by omega) | exact y_K.k0 (by omega) | exact y_K.bk (by omega)) (by omega) (by omega) (by omega) p6 p7 p8 (by omega) p10 (by omega) (by omega) (by omega)
theorem sf_X12_cut_309T {fu : Nat} (hfu : 8589934592 ≤ fu) (r0 : z_M) (c0 : z_CI r0) (a1 : Int) (a2 : Int) (b1 : -2147483648 ≤ a1 ∧ a1 ≤ 2147483647) (b2 : -2147483648 ≤ a2 ∧ a2 ≤ 2147483647) (p0 : y_TA r0) (p1 : y_DD r0) (p2 : y_B r0) (p3 : y_K r0) (p4 : y_PU r0) (p5 : y_WF r0) : z_T (fX12_cut fu r0 309 a1 a2) (P_X12_cut_309T r0 a1 a2) := by
  refine T_of (fX12_cut.eq_1 ..) ?_
  have u1 := CI_b c0 (k := 309) (j := 0) bd_309_0
  have u2 := CI_b c0 (k := 309) (j := 5) bd_309_5
  have u3 := CI_b c0 (k := 309) (j := 19) bd_309_19
  have u4 := CI_b c0 (k := 309) (j := 20) bd_309_20
  have u5 := CI_b c0 (k := 309) (j := 36) bd_309_36
  have u6 := CI_b c0 (k := 309) (j := 43) bd_309_43
  have u7 := CI_b c0 (k := 309) (j := 44) bd_309_44
  have u8 := CI_b c0 (k := 309) (j := 58) bd_309_58
  have u9 := CI_b c0 (k := 316) (j := 0) bd_316_0
  have u10 := CI_b c0 (k := 316) (j := 2) bd_316_2
  have u11 := CI_b c0 (k := 329) (j := 0) bd_329_0
  have u12 := CI_b c0 (k := 329) (j := 1) bd_329_1
  have u13 := CI_b c0 (k := 329) (j := 2) bd_329_2
  have r14 : y_TT r0 r0 := y_TT.rf
  have r15 : y_FS r0 r0 := y_FS.rf
  refine T_if1 (by decide +kernel) ?_
  refine T_upg c0 bd_309_0 (by omega) (fun s16 c17 g19 g20 e21 => ?_)
  have f18 := z_Fr.upf (R := R_X12_cut_309) z_Fr.rf g19 g20 (Or.inr (Or.inr (Or.inr (Or.inr (⟨rfl, by decide⟩)))))
  have t22 : s16 309 5 = r0 309 5 := g20 5 (by decide)
  have t23 : s16 309 19 = r0 309 19 := g20 19 (by decide)
  have t24 : s16 309 20 = r0 309 20 := g20 20 (by decide)
  have t25 : s16 309 36 = r0 309 36 := g20 36 (by decide)
  have t26 : s16 309 43 = r0 309 43 := g20 43 (by decide)
  have t27 : s16 309 44 = r0 309 44 := g20 44 (by decide)
  have t28 : s16 309 58 = r0 309 58 := g20 58 (by decide)
  have t29 : s16 316 0 = r0 316 0 := g19 316 0 (by decide)
  have t30 : s16 316 2 = r0 316 2 := g19 316 2 (by decide)
  have t31 : s16 329 0 = r0 329 0 := g19 329 0 (by decide)
  have t32 : s16 329 1 = r0 329 1 := g19 329 1 (by decide)
  have t33 : s16 329 2 = r0 329 2 := g19 329 2 (by decide)
  have u34 := CI_b c17 (k := 309) (j := 0) bd_309_0
  have r35 := y_TA.fr p0 (fun a b h => g19 a b (by omega)) (fun a b h => g19 a b (by omega)) (fun a b h => g19 a b (by omega))
  have r36 := y_DD.fr p1 (g19 329 0 (by decide)) (g19 329 1 (by decide)) (fun b => g19 359 b (by decide)) (fun b => g19 374 b (by decide))
  have r37 := y_B.fr p2 (g20 20 (by decide)) (g19 316 0 (by decide)) (fun b => g19 3220 b (by decide)) (fun b => g19 3221 b (by decide)) (fun b => g19 3222 b (by decide)) (fun b => g19 361 b (by decide))
  have r38 := y_K.fr p3 (by omega) (by omega) (g20 44 (by decide)) (g20 20 (by decide)) (g20 58 (by decide)) (fun b => g19 3438 b (by decide)) (fun b => g19 3220 b (by decide)) (fun a b h => g19 a b (by omega))
  have r39 := y_PU.fr p4 (g20 20 (by decide)) (g19 316 0 (by decide)) (fun b => g19 346 b (by decide)) (fun b => g19 361 b (by decide)) (fun b => g19 3220 b (by decide)) (fun b => g19 3221 b (by decide)) (fun b => g19 3222 b (by decide)) (fun b => g19 3223 b (by decide))
  have r40 := y_WF.fr p5 (g19 316 0 (by decide)) (fun b => g19 346 b (by decide)) (fun b => g19 361 b (by decide))
  have r41 := y_TT.fr r14 (fun a b h => g19 a b (by omega)) (fun a b h => g19 a b (by omega)) (fun a b h => g19 a b (by omega)) (fun a b h => g19 a b (by omega)) (fun a b h => g19 a b (by omega)) (fun a b h => g19 a b (by omega)) (fun a b h => g19 a b (by omega))
  have r42 := y_FS.fr r15 (fun b => g19 3221 b (by decide)) (fun b => g19 3222 b (by decide))
  refine T_if1 (by decide +kernel) ?_
  refine T_useI (sf_X12_isUnit_309T hfu s16 c17 a1 (by omega)) (fun v48 s43 hq => ?_)
  obtain ⟨c44, f45, ⟨x47, rfl, b49, b50, o51⟩⟩ := hq
  refine T_vI ?_
  have q52 := z_Fr.eq (fun a b h => h) f45
  subst q52
  refine T_ite (fun h53 => ?_) (fun h53 => ?_)
  · exact sj_X12_cut_309T_J22 hfu r0 s16 c17 f18 a1 a2 (by omega) (by omega) r35 (by first | exact r36 | exact y_DD.z (by omega) (by omega)) r37 (by first | exact r38 | exact y_K.b0 (by omega) | exact y_K.k0 (by omega) | exact y_K.bk (by omega)) (by omega) (by omega) r41 r39 r40 (by omega) r42 (by omega) (by omega) (by omega)
  · refine T_if1 (by decide +kernel) ?_
    refine T_useI (sf_X12_isUnit_309T hfu s16 c17 a2 (by omega)) (fun v59 s54 hq => ?_)
    obtain ⟨c55, f56, ⟨x58, rfl, b60, b61, o62⟩⟩ := hq
    refine T_vI ?_
    have q63 := z_Fr.eq (fun a b h => h) f56
    subst q63
    refine T_ite (fun h64 => ?_) (fun h64 => ?_)
    · exact sj_X12_cut_309T_J27 hfu r0 s16 c17 f18 a1 a2 0 (by omega) (by omega) (by omega) r35 (by first | exact r36 | exact y_DD.z (by omega) (by omega)) r37 (by first | exact r38 | exact y_K.b0 (by omega) | exact y_K.k0 (by omega) | exact y_K.bk (by omega)) (by omega) (by omega) (by omega) r41 r39 r40 (by omega) r42 (by omega) (by omega) (by omega)
    · exact sj_X12_cut_309T_J22 hfu r0 s16 c17 f18 a1 a2 (by omega) (by omega) r35 (by first | exact r36 | exact y_DD.z (by omega) (by omega)) r37 (by first | exact r38 | exact y_K.b0 (by omega) | exact y_K.k0 (by omega) | exact y_K.bk (by omega)) (by omega) (by omega) r41 r39 r40 (by omega) r42 (by omega) (by omega) (by omega)
