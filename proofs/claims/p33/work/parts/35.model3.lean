/-! SAFETY, further (by program) -/
abbrev R_X12_fault_309 (a b : Int) : Prop := (a = 309 ∧ (b = 0))
abbrev P_X12_fault_309 (r0 : z_M) : z_V → z_M → Prop := fun v s' => z_CI s' ∧ z_Fr R_X12_fault_309 r0 s' ∧ (y_TA s') ∧ (y_DD s') ∧ (y_B s') ∧ (y_K s') ∧ (∃ x, v = vI x ∧ -2147483648 ≤ x ∧ x ≤ 2147483647)
theorem sf_X12_fault_309 {fu : Nat} (hfu : 8589934592 ≤ fu) (r0 : z_M) (c0 : z_CI r0) (p0 : y_TA r0) (p1 : y_DD r0) (p2 : y_B r0) (p3 : y_K r0) : z_T (fX12_fault fu r0 309) (P_X12_fault_309 r0) := by
  refine T_of (fX12_fault.eq_1 ..) ?_
  have u1 := CI_b c0 (k := 309) (j := 20) bd_309_20
  have u2 := CI_b c0 (k := 309) (j := 36) bd_309_36
  have u3 := CI_b c0 (k := 309) (j := 43) bd_309_43
  have u4 := CI_b c0 (k := 309) (j := 44) bd_309_44
  have u5 := CI_b c0 (k := 309) (j := 58) bd_309_58
  have u6 := CI_b c0 (k := 316) (j := 0) bd_316_0
  have u7 := CI_b c0 (k := 329) (j := 0) bd_329_0
  have u8 := CI_b c0 (k := 329) (j := 1) bd_329_1
  refine T_if1 (by decide +kernel) ?_
  refine T_upg c0 bd_309_0 (by omega) (fun s9 c10 g12 g13 e14 => ?_)
  have f11 := z_Fr.upf (R := R_X12_fault_309) z_Fr.rf g12 g13 (⟨rfl, by decide⟩)
  have t15 : s9 309 20 = r0 309 20 := g13 20 (by decide)
  have t16 : s9 309 36 = r0 309 36 := g13 36 (by decide)
  have t17 : s9 309 43 = r0 309 43 := g13 43 (by decide)
  have t18 : s9 309 44 = r0 309 44 := g13 44 (by decide)
  have t19 : s9 309 58 = r0 309 58 := g13 58 (by decide)
  have t20 : s9 316 0 = r0 316 0 := g12 316 0 (by decide)
  have t21 : s9 329 0 = r0 329 0 := g12 329 0 (by decide)
  have t22 : s9 329 1 = r0 329 1 := g12 329 1 (by decide)
  have r23 := y_TA.fr p0 (fun a b h => g12 a b (by omega)) (fun a b h => g12 a b (by omega)) (fun a b h => g12 a b (by omega))
  have r24 := y_DD.fr p1 (g12 329 0 (by decide)) (g12 329 1 (by decide)) (fun b => g12 359 b (by decide)) (fun b => g12 374 b (by decide))
  have r25 := y_B.fr p2 (g13 20 (by decide)) (g12 316 0 (by decide)) (fun b => g12 3220 b (by decide)) (fun b => g12 3221 b (by decide)) (fun b => g12 3222 b (by decide)) (fun b => g12 361 b (by decide))
  have r26 := y_K.fr p3 (by omega) (by omega) (g13 44 (by decide)) (g13 20 (by decide)) (g13 58 (by decide)) (fun b => g12 3438 b (by decide)) (fun b => g12 3220 b (by decide)) (fun a b h => g12 a b (by omega))
  refine T_if1 (by decide +kernel) ?_
  refine T_leq (fun x27 e28 => ?_)
  have u29 := CI_b c10 (k := 309) (j := 5) bd_309_5
  exact T_ret ⟨c10, f11, r23, (by first | exact r24 | exact y_DD.z (by omega) (by omega)), r25, (by first | exact r26 | exact y_K.b0 (by omega) | exact y_K.k0 (by omega) | exact y_K.bk (by omega)), ⟨x27, rfl, by omega, by omega⟩⟩
abbrev R_X12_status_309 (a b : Int) : Prop := (a = 309 ∧ (b = 0))
abbrev P_X12_status_309 (r0 : z_M) : z_V → z_M → Prop := fun v s' => z_CI s' ∧ z_Fr R_X12_status_309 r0 s' ∧ (y_TA s') ∧ (y_DD s') ∧ (y_B s') ∧ (y_K s') ∧ (∃ x, v = vI x ∧ -2147483648 ≤ x ∧ x ≤ 2147483647)
theorem sj_X12_status_309_J24 {fu : Nat} (hfu : 8589934592 ≤ fu) (r0 s : z_M) (c : z_CI s) (f : z_Fr R_X12_status_309 r0 s) (t0 : Int) (d0 : -2147483648 ≤ t0 ∧ t0 ≤ 2147483647) (p0 : y_TA s) (p1 : y_DD s) (p2 : y_B s) (p3 : y_K s) : z_T (fX12_status_J24 fu s t0) (P_X12_status_309 r0) := by
  refine T_of (fX12_status_J24.eq_1 ..) ?_
  have u1 := CI_b c (k := 309) (j := 20) bd_309_20
  have u2 := CI_b c (k := 309) (j := 36) bd_309_36
  have u3 := CI_b c (k := 309) (j := 43) bd_309_43
  have u4 := CI_b c (k := 309) (j := 44) bd_309_44
  have u5 := CI_b c (k := 309) (j := 58) bd_309_58
  have u6 := CI_b c (k := 316) (j := 0) bd_316_0
  have u7 := CI_b c (k := 329) (j := 0) bd_329_0
  have u8 := CI_b c (k := 329) (j := 1) bd_329_1
  have t9 : s 309 20 = r0 309 20 := f 309 20 (by decide)
  have t10 : s 309 36 = r0 309 36 := f 309 36 (by decide)
  have t11 : s 309 43 = r0 309 43 := f 309 43 (by decide)
  have t12 : s 309 44 = r0 309 44 := f 309 44 (by decide)
  have t13 : s 309 58 = r0 309 58 := f 309 58 (by decide)
  have t14 : s 316 0 = r0 316 0 := f 316 0 (by decide)
  have t15 : s 329 0 = r0 329 0 := f 329 0 (by decide)
  have t16 : s 329 1 = r0 329 1 := f 329 1 (by decide)
  exact T_ret ⟨c, f, p0, (by first | exact p1 | exact y_DD.z (by omega) (by omega)), p2, (by first | exact p3 | exact y_K.b0 (by omega) | exact y_K.k0 (by omega) | exact y_K.bk (by omega)), ⟨t0, rfl, by omega, by omega⟩⟩
theorem sf_X12_status_309 {fu : Nat} (hfu : 8589934592 ≤ fu) (r0 : z_M) (c0 : z_CI r0) (a1 : Int) (b1 : -2147483648 ≤ a1 ∧ a1 ≤ 2147483647) (p0 : y_TA r0) (p1 : y_DD r0) (p2 : y_B r0) (p3 : y_K r0) : z_T (fX12_status fu r0 309 a1) (P_X12_status_309 r0) := by
  refine T_of (fX12_status.eq_1 ..) ?_
  have u1 := CI_b c0 (k := 309) (j := 20) bd_309_20
  have u2 := CI_b c0 (k := 309) (j := 36) bd_309_36
  have u3 := CI_b c0 (k := 309) (j := 43) bd_309_43
  have u4 := CI_b c0 (k := 309) (j := 44) bd_309_44
  have u5 := CI_b c0 (k := 309) (j := 58) bd_309_58
  have u6 := CI_b c0 (k := 316) (j := 0) bd_316_0
  have u7 := CI_b c0 (k := 329) (j := 0) bd_329_0
  have u8 := CI_b c0 (k := 329) (j := 1) bd_329_1
  refine T_if1 (by decide +kernel) ?_
  refine T_upg c0 bd_309_0 (by omega) (fun s9 c10 g12 g13 e14 => ?_)
  have f11 := z_Fr.upf (R := R_X12_status_309) z_Fr.rf g12 g13 (⟨rfl, by decide⟩)
  have t15 : s9 309 20 = r0 309 20 := g13 20 (by decide)
  have t16 : s9 309 36 = r0 309 36 := g13 36 (by decide)
  have t17 : s9 309 43 = r0 309 43 := g13 43 (by decide)
  have t18 : s9 309 44 = r0 309 44 := g13 44 (by decide)
  have t19 : s9 309 58 = r0 309 58 := g13 58 (by decide)
  have t20 : s9 316 0 = r0 316 0 := g12 316 0 (by decide)
  have t21 : s9 329 0 = r0 329 0 := g12 329 0 (by decide)
  have t22 : s9 329 1 = r0 329 1 := g12 329 1 (by decide)
  have r23 := y_TA.fr p0 (fun a b h => g12 a b (by omega)) (fun a b h => g12 a b (by omega)) (fun a b h => g12 a b (by omega))
  have r24 := y_DD.fr p1 (g12 329 0 (by decide)) (g12 329 1 (by decide)) (fun b => g12 359 b (by decide)) (fun b => g12 374 b (by decide))
  have r25 := y_B.fr p2 (g13 20 (by decide)) (g12 316 0 (by decide)) (fun b => g12 3220 b (by decide)) (fun b => g12 3221 b (by decide)) (fun b => g12 3222 b (by decide)) (fun b => g12 361 b (by decide))
  have r26 := y_K.fr p3 (by omega) (by omega) (g13 44 (by decide)) (g13 20 (by decide)) (g13 58 (by decide)) (fun b => g12 3438 b (by decide)) (fun b => g12 3220 b (by decide)) (fun a b h => g12 a b (by omega))
  refine T_useI (sf_X12_in hfu s9 c10 a1 0 1 (by omega) (by omega) (by omega)) (fun v32 s27 hq => ?_)
  obtain ⟨c28, f29, ⟨x31, rfl, b33, b34, o35⟩⟩ := hq
  refine T_vI ?_
  have q36 := z_Fr.eq (fun a b h => h) f29
  subst q36
  refine T_ite (fun h37 => ?_) (fun h37 => ?_)
  · exact sj_X12_status_309_J24 hfu r0 s9 c10 f11 (-1) (by omega) r23 (by first | exact r24 | exact y_DD.z (by omega) (by omega)) r25 (by first | exact r26 | exact y_K.b0 (by omega) | exact y_K.k0 (by omega) | exact y_K.bk (by omega))
  · refine T_if1 (by decide +kernel) ?_
    refine T_let 310 (by decide +kernel) ?_
    refine T_if1 (z_ixl (n := 2) (by decide +kernel) (by omega) (by omega)) ?_
    refine T_leq (fun x38 e39 => ?_)
    have u40 := CI_b c10 (k := 310) (j := a1) (bdr_310 a1)
    exact sj_X12_status_309_J24 hfu r0 s9 c10 f11 x38 (by omega) r23 (by first | exact r24 | exact y_DD.z (by omega) (by omega)) r25 (by first | exact r26 | exact y_K.b0 (by omega) | exact y_K.k0 (by omega) | exact y_K.bk (by omega))
abbrev R_X12_told_309 (a b : Int) : Prop := (310 ≤ a ∧ a ≤ 310) ∨ (3224 ≤ a ∧ a ≤ 3651) ∨ (a = 309 ∧ (b = 0 ∨ b = 35 ∨ b = 36 ∨ b = 38 ∨ b = 39 ∨ b = 43 ∨ b = 44 ∨ b = 58))
abbrev P_X12_told_309 (r0 : z_M) : z_V → z_M → Prop := fun v s' => z_CI s' ∧ z_Fr R_X12_told_309 r0 s' ∧ (y_TA s') ∧ (y_DD s') ∧ (y_B s') ∧ (y_K s') ∧ (∃ x, v = vL x ∧ -9223372036854775808 ≤ x ∧ x ≤ 9223372036854775807)
theorem rs_X12_bad_309__X12_told_309 (a b : Int) (h : R_X12_bad_309 a b) : R_X12_told_309 a b := (h.elim (fun h => (Or.inl (⟨by omega, by omega⟩))) (fun h => (Or.inr (Or.inr (⟨h.1, by omega⟩)))))
theorem rs_X12_laysAll_309__X12_told_309 (a b : Int) (h : R_X12_laysAll_309 a b) : R_X12_told_309 a b := (h.elim (fun h => (Or.inr (Or.inl (⟨by omega, by omega⟩)))) (fun h => (Or.inr (Or.inr (⟨h.1, by omega⟩)))))
theorem nq_X12_laysAll_309__316 (a b : Int) (h : 316 ≤ a ∧ a ≤ 328) : ¬ R_X12_laysAll_309 a b := by
  unfold R_X12_laysAll_309; omega
theorem nq_X12_laysAll_309__346 (a b : Int) (h : 346 ≤ a ∧ a ≤ 358) : ¬ R_X12_laysAll_309 a b := by
  unfold R_X12_laysAll_309; omega
theorem nq_X12_laysAll_309__361 (a b : Int) (h : 361 ≤ a ∧ a ≤ 373) : ¬ R_X12_laysAll_309 a b := by
  unfold R_X12_laysAll_309; omega
theorem nr_X12_laysAll_309__359 (b : Int) : ¬ R_X12_laysAll_309 359 b := by
  unfold R_X12_laysAll_309; omega
theorem nr_X12_laysAll_309__374 (b : Int) : ¬ R_X12_laysAll_309 374 b := by
  unfold R_X12_laysAll_309; omega
theorem nr_X12_laysAll_309__3220 (b : Int) : ¬ R_X12_laysAll_309 3220 b := by
  unfold R_X12_laysAll_309; omega
theorem nr_X12_laysAll_309__3221 (b : Int) : ¬ R_X12_laysAll_309 3221 b := by
  unfold R_X12_laysAll_309; omega
theorem nr_X12_laysAll_309__3222 (b : Int) : ¬ R_X12_laysAll_309 3222 b := by
  unfold R_X12_laysAll_309; omega
theorem nr_X12_laysAll_309__361 (b : Int) : ¬ R_X12_laysAll_309 361 b := by
  unfold R_X12_laysAll_309; omega
theorem rs_X12_costs_309__X12_told_309 (a b : Int) (h : R_X12_costs_309 a b) : R_X12_told_309 a b := (h.elim (fun h => (Or.inr (Or.inl (⟨by omega, by omega⟩)))) (fun h => (Or.inr (Or.inr (⟨h.1, by omega⟩)))))
theorem nq_X12_costs_309__316 (a b : Int) (h : 316 ≤ a ∧ a ≤ 328) : ¬ R_X12_costs_309 a b := by
  unfold R_X12_costs_309; omega
theorem nq_X12_costs_309__346 (a b : Int) (h : 346 ≤ a ∧ a ≤ 358) : ¬ R_X12_costs_309 a b := by
  unfold R_X12_costs_309; omega
theorem nq_X12_costs_309__361 (a b : Int) (h : 361 ≤ a ∧ a ≤ 373) : ¬ R_X12_costs_309 a b := by
  unfold R_X12_costs_309; omega
theorem nr_X12_costs_309__359 (b : Int) : ¬ R_X12_costs_309 359 b := by
  unfold R_X12_costs_309; omega
theorem nr_X12_costs_309__374 (b : Int) : ¬ R_X12_costs_309 374 b := by
  unfold R_X12_costs_309; omega
theorem nr_X12_costs_309__3220 (b : Int) : ¬ R_X12_costs_309 3220 b := by
  unfold R_X12_costs_309; omega
theorem nr_X12_costs_309__3221 (b : Int) : ¬ R_X12_costs_309 3221 b := by
  unfold R_X12_costs_309; omega
theorem nr_X12_costs_309__3222 (b : Int) : ¬ R_X12_costs_309 3222 b := by
  unfold R_X12_costs_309; omega
theorem nr_X12_costs_309__361 (b : Int) : ¬ R_X12_costs_309 361 b := by
  unfold R_X12_costs_309; omega
theorem nr_X12_costs_309__3438 (b : Int) : ¬ R_X12_costs_309 3438 b := by
  unfold R_X12_costs_309; omega
theorem nq_X12_costs_309__3452 (a b : Int) (h : 3452 ≤ a ∧ a ≤ 3651) : ¬ R_X12_costs_309 a b := by
  unfold R_X12_costs_309; omega
set_option maxHeartbeats 4000000 in
theorem sj_X12_told_309_J21 {fu : Nat} (hfu : 8589934592 ≤ fu) (r0 s : z_M) (c : z_CI s) (f : z_Fr R_X12_told_309 r0 s) (a1 : Int) (t1 : Int) (b1 : -2147483648 ≤ a1 ∧ a1 ≤ 2147483647) (d1 : 0 ≤ t1 ∧ t1 ≤ 1) (p0 : t1 = 1 ∨ (0 ≤ a1 ∧ a1 ≤ 19)) (p1 : y_TA s) (p2 : y_DD s) (p3 : y_B s) (p4 : y_K s) : z_T (fX12_told_J21 fu s 309 a1 309 t1) (P_X12_told_309 r0) := by
  refine T_of (fX12_told_J21.eq_1 ..) ?_
  have u1 := CI_b c (k := 309) (j := 20) bd_309_20
  have u2 := CI_b c (k := 309) (j := 36) bd_309_36
  have u3 := CI_b c (k := 309) (j := 43) bd_309_43
  have u4 := CI_b c (k := 309) (j := 44) bd_309_44
  have u5 := CI_b c (k := 309) (j := 58) bd_309_58
  have u6 := CI_b c (k := 316) (j := 0) bd_316_0
  have u7 := CI_b c (k := 329) (j := 0) bd_329_0
  have u8 := CI_b c (k := 329) (j := 1) bd_329_1
  have t9 : s 309 20 = r0 309 20 := f 309 20 (by decide)
  have t10 : s 316 0 = r0 316 0 := f 316 0 (by decide)
  have t11 : s 329 0 = r0 329 0 := f 329 0 (by decide)
  have t12 : s 329 1 = r0 329 1 := f 329 1 (by decide)
  refine T_if1 (by decide +kernel) ?_
  refine T_useI (sf_X12_bad_309 hfu s c t1 1 1 (by omega) (by omega) (by omega) (by omega)) (fun v18 s13 hq => ?_)
  obtain ⟨c14, f15, o19, ⟨x17, rfl, b20, b21, o22, o23⟩⟩ := hq
  refine T_vI ?_
  have f16 := z_Fr.tr (R := R_X12_told_309) f f15 rs_X12_bad_309__X12_told_309
  have t24 : s13 309 20 = s 309 20 := f15 309 20 (by decide)
  have t25 : s13 309 36 = s 309 36 := f15 309 36 (by decide)
  have t26 : s13 309 43 = s 309 43 := f15 309 43 (by decide)
  have t27 : s13 309 44 = s 309 44 := f15 309 44 (by decide)
  have t28 : s13 309 58 = s 309 58 := f15 309 58 (by decide)
  have t29 : s13 316 0 = s 316 0 := f15 316 0 (by decide)
  have t30 : s13 329 0 = s 329 0 := f15 329 0 (by decide)
  have t31 : s13 329 1 = s 329 1 := f15 329 1 (by decide)
  have r32 := y_TA.fr p1 (fun a b h => f15 a b (nq_X12_bad_309__316 a b h)) (fun a b h => f15 a b (nq_X12_bad_309__346 a b h)) (fun a b h => f15 a b (nq_X12_bad_309__361 a b h))
  have r33 := y_DD.fr p2 (f15 329 0 (by decide)) (f15 329 1 (by decide)) (fun b => f15 359 b (nr_X12_bad_309__359 b)) (fun b => f15 374 b (nr_X12_bad_309__374 b))
  have r34 := y_B.fr p3 (f15 309 20 (by decide)) (f15 316 0 (by decide)) (fun b => f15 3220 b (nr_X12_bad_309__3220 b)) (fun b => f15 3221 b (nr_X12_bad_309__3221 b)) (fun b => f15 3222 b (nr_X12_bad_309__3222 b)) (fun b => f15 361 b (nr_X12_bad_309__361 b))
  have r35 := y_K.fr p4 (by omega) (by omega) (f15 309 44 (by decide)) (f15 309 20 (by decide)) (f15 309 58 (by decide)) (fun b => f15 3438 b (nr_X12_bad_309__3438 b)) (fun b => f15 3220 b (nr_X12_bad_309__3220 b)) (fun a b h => f15 a b (nq_X12_bad_309__3452 a b h))
  refine T_ite (fun h36 => ?_) (fun h36 => ?_)
  · refine T_if1 (by decide +kernel) ?_
    refine T_useN (sf_X12_laysAll_309 hfu s13 c14 r34 (by first | exact r35 | exact y_K.b0 (by omega) | exact y_K.k0 (by omega) | exact y_K.bk (by omega))) (fun v42 s37 hq => ?_)
    obtain ⟨c38, f39, o43, o44, o45, o46, o47, o48, rfl⟩ := hq
    refine T_vN ?_
    have f40 := z_Fr.tr (R := R_X12_told_309) f16 f39 rs_X12_laysAll_309__X12_told_309
    have t51 : s37 309 20 = s 309 20 := (f39 309 20 (by decide)).trans t24
    have t52 : s37 316 0 = s 316 0 := (f39 316 0 (by decide)).trans t29
    have t53 : s37 329 0 = s 329 0 := (f39 329 0 (by decide)).trans t30
    have t54 : s37 329 1 = s 329 1 := (f39 329 1 (by decide)).trans t31
    have u55 := CI_b c38 (k := 309) (j := 36) bd_309_36
    have u56 := CI_b c38 (k := 309) (j := 43) bd_309_43
    have u57 := CI_b c38 (k := 309) (j := 44) bd_309_44
    have u58 := CI_b c38 (k := 309) (j := 58) bd_309_58
    have r59 := y_TA.fr r32 (fun a b h => f39 a b (nq_X12_laysAll_309__316 a b h)) (fun a b h => f39 a b (nq_X12_laysAll_309__346 a b h)) (fun a b h => f39 a b (nq_X12_laysAll_309__361 a b h))
    have r60 := y_DD.fr r33 (f39 329 0 (by decide)) (f39 329 1 (by decide)) (fun b => f39 359 b (nr_X12_laysAll_309__359 b)) (fun b => f39 374 b (nr_X12_laysAll_309__374 b))
    have r61 := y_B.fr r34 (f39 309 20 (by decide)) (f39 316 0 (by decide)) (fun b => f39 3220 b (nr_X12_laysAll_309__3220 b)) (fun b => f39 3221 b (nr_X12_laysAll_309__3221 b)) (fun b => f39 3222 b (nr_X12_laysAll_309__3222 b)) (fun b => f39 361 b (nr_X12_laysAll_309__361 b))
    clear t24
    clear t29
    clear t30
    clear t31
    refine T_ite (fun h62 => ?_) (fun h62 => ?_)
    · refine T_if1 (by decide +kernel) ?_
      refine T_leq (fun x63 e64 => ?_)
      have u65 := CI_b c38 (k := 309) (j := 20) bd_309_20
      exact T_ret ⟨c38, f40, r59, (by first | exact r60 | exact y_DD.z (by omega) (by omega)), r61, (by first | exact o43 | exact y_K.b0 (by omega) | exact y_K.k0 (by omega) | exact y_K.bk (by omega) | exact y_K.mk o44 (by omega) o45), ⟨x63, rfl, by omega, by omega⟩⟩
    · refine T_ite (fun h66 => ?_) (fun h66 => ?_)
      · refine T_if1 (by decide +kernel) ?_
        refine T_let 315 (by decide +kernel) ?_
        refine T_if1 (z_ixl (n := 14) (by decide +kernel) (by omega) (by omega)) ?_
        refine T_let 316 (by decide +kernel) ?_
        refine T_if1 (z_ixl (n := 3) (by decide +kernel) (by omega) (by omega)) ?_
        refine T_leq (fun x67 e68 => ?_)
        have u69 := CI_b c38 (k := 316) (j := 0) bd_316_0
        exact T_ret ⟨c38, f40, r59, (by first | exact r60 | exact y_DD.z (by omega) (by omega)), r61, (by first | exact o43 | exact y_K.b0 (by omega) | exact y_K.k0 (by omega) | exact y_K.bk (by omega) | exact y_K.mk o44 (by omega) o45), ⟨x67, rfl, by omega, by omega⟩⟩
      · refine T_ite (fun h70 => ?_) (fun h70 => ?_)
        · refine T_if1 (by decide +kernel) ?_
          refine T_bI ?_
          refine T_of (fX12_groupsOf.eq_1 ..) ?_
          refine T_if1 (by decide +kernel) ?_
          refine T_let 315 (by decide +kernel) ?_
          refine T_if1 (z_ixl (n := 14) (by decide +kernel) (by omega) (by omega)) ?_
          refine T_let 316 (by decide +kernel) ?_
          refine T_if1 (z_ixl (n := 3) (by decide +kernel) (by omega) (by omega)) ?_
          refine T_leq (fun x71 e72 => ?_)
          have u73 := CI_b c38 (k := 316) (j := 1) bd_316_1
          refine T_ite (fun h74 => ?_) (fun h74 => ?_)
          · refine T_if1 (by decide +kernel) ?_
            refine T_let 390 (by decide +kernel) ?_
            refine T_if1 (z_ixl (n := 14) (by decide +kernel) (by omega) (by omega)) ?_
            refine T_let 391 (by decide +kernel) ?_
            refine T_if1 (by decide +kernel) ?_
            refine T_let 315 (by decide +kernel) ?_
            refine T_if1 (z_ixl (n := 14) (by decide +kernel) (by omega) (by omega)) ?_
            refine T_let 316 (by decide +kernel) ?_
            refine T_if1 (z_ixl (n := 3) (by decide +kernel) (by omega) (by omega)) ?_
            refine T_leq (fun x75 e76 => ?_)
            have q77 : x71 = x75 := e72.symm.trans e76
            subst q77
            refine T_leq (fun x78 e79 => ?_)
            first | (have w80 := z_wx e79 (by omega)) | (have w80 := z_wr e79)
            refine T_if1 (z_ixl (n := 200) (by decide +kernel) (by omega) (by omega)) ?_
            refine T_leq (fun x81 e82 => ?_)
            have u83 := CI_b c38 (k := 391) (j := x78) (bdg (c := 391) (by omega) (by omega))
            refine T_leq (fun x84 e85 => ?_)
            first | (have w86 := z_wx e85 (by omega)) | (have w86 := z_wr e85)
            refine T_of (fX12_groupsOf_J34.eq_1 ..) ?_
            refine T_rI ?_
            exact T_ret ⟨c38, f40, r59, (by first | exact r60 | exact y_DD.z (by omega) (by omega)), r61, (by first | exact o43 | exact y_K.b0 (by omega) | exact y_K.k0 (by omega) | exact y_K.bk (by omega) | exact y_K.mk o44 (by omega) o45), ⟨x84, rfl, by omega, by omega⟩⟩
          · refine T_of (fX12_groupsOf_J34.eq_1 ..) ?_
            refine T_rI ?_
            exact T_ret ⟨c38, f40, r59, (by first | exact r60 | exact y_DD.z (by omega) (by omega)), r61, (by first | exact o43 | exact y_K.b0 (by omega) | exact y_K.k0 (by omega) | exact y_K.bk (by omega) | exact y_K.mk o44 (by omega) o45), ⟨0, rfl, by omega, by omega⟩⟩
        · refine T_ite (fun h87 => ?_) (fun h87 => ?_)
          · refine T_if1 (by decide +kernel) ?_
            refine T_leq (fun x88 e89 => ?_)
            have u90 := CI_b c38 (k := 309) (j := 44) bd_309_44
            exact T_ret ⟨c38, f40, r59, (by first | exact r60 | exact y_DD.z (by omega) (by omega)), r61, (by first | exact o43 | exact y_K.b0 (by omega) | exact y_K.k0 (by omega) | exact y_K.bk (by omega) | exact y_K.mk o44 (by omega) o45), ⟨x88, rfl, by omega, by omega⟩⟩
          · refine T_ite (fun h91 => ?_) (fun h91 => ?_)
            · refine T_if1 (by decide +kernel) ?_
              refine T_useI (sf_X12_longest_309 hfu s37 c38) (fun v97 s92 hq => ?_)
              obtain ⟨c93, f94, ⟨x96, rfl, b98, b99⟩⟩ := hq
              refine T_vI ?_
              have q100 := z_Fr.eq (fun a b h => h) f94
              subst q100
              exact T_ret ⟨c38, f40, r59, (by first | exact r60 | exact y_DD.z (by omega) (by omega)), r61, (by first | exact o43 | exact y_K.b0 (by omega) | exact y_K.k0 (by omega) | exact y_K.bk (by omega) | exact y_K.mk o44 (by omega) o45), ⟨x96, rfl, by omega, by omega⟩⟩
            · refine T_ite (fun h101 => ?_) (fun h101 => ?_)
              · refine T_if1 (by decide +kernel) ?_
                refine T_useL (sf_X12_costs_309 hfu s37 c38 r61 (by first | exact y_L.cg o44 (by omega) | exact y_K.L o43 (by omega) (by omega))) (fun v107 s102 hq => ?_)
                obtain ⟨c103, f104, o108, o109, ⟨x106, rfl, b110, b111⟩⟩ := hq
                refine T_vL ?_
                have f105 := z_Fr.tr (R := R_X12_told_309) f40 f104 rs_X12_costs_309__X12_told_309
                have t112 : s102 309 20 = s 309 20 := (f104 309 20 (by decide)).trans t51
                have t113 : s102 309 44 = s37 309 44 := f104 309 44 (by decide)
                have t114 : s102 309 58 = s37 309 58 := f104 309 58 (by decide)
                have t115 : s102 316 0 = s 316 0 := (f104 316 0 (by decide)).trans t52
                have t116 : s102 329 0 = s 329 0 := (f104 329 0 (by decide)).trans t53
                have t117 : s102 329 1 = s 329 1 := (f104 329 1 (by decide)).trans t54
                have u118 := CI_b c103 (k := 309) (j := 36) bd_309_36
                have u119 := CI_b c103 (k := 309) (j := 43) bd_309_43
                have r120 := y_TA.fr r59 (fun a b h => f104 a b (nq_X12_costs_309__316 a b h)) (fun a b h => f104 a b (nq_X12_costs_309__346 a b h)) (fun a b h => f104 a b (nq_X12_costs_309__361 a b h))
                have r121 := y_DD.fr r60 (f104 329 0 (by decide)) (f104 329 1 (by decide)) (fun b => f104 359 b (nr_X12_costs_309__359 b)) (fun b => f104 374 b (nr_X12_costs_309__374 b))
                have r122 := y_B.fr r61 (f104 309 20 (by decide)) (f104 316 0 (by decide)) (fun b => f104 3220 b (nr_X12_costs_309__3220 b)) (fun b => f104 3221 b (nr_X12_costs_309__3221 b)) (fun b => f104 3222 b (nr_X12_costs_309__3222 b)) (fun b => f104 361 b (nr_X12_costs_309__361 b))
                have r123 := y_K.fr o43 (by omega) (by omega) (f104 309 44 (by decide)) (f104 309 20 (by decide)) (f104 309 58 (by decide)) (fun b => f104 3438 b (nr_X12_costs_309__3438 b)) (fun b => f104 3220 b (nr_X12_costs_309__3220 b)) (fun a b h => f104 a b (nq_X12_costs_309__3452 a b h))
                have r124 := y_L.fr o44 (f104 309 20 (by decide)) (fun b => f104 3438 b (nr_X12_costs_309__3438 b))
                have r125 := y_BK.fr o45 (by omega) (f104 309 20 (by decide)) (f104 309 58 (by decide)) (fun b => f104 3220 b (nr_X12_costs_309__3220 b)) (fun a b h => f104 a b (nq_X12_costs_309__3452 a b h))
                clear t51
                clear t52
                clear t53
                clear t54
                exact T_ret ⟨c103, f105, r120, (by first | exact r121 | exact y_DD.z (by omega) (by omega)), r122, (by first | exact r123 | exact y_K.b0 (by omega) | exact y_K.k0 (by omega) | exact y_K.bk (by omega) | exact y_K.mk r124 (by omega) r125), ⟨x106, rfl, by omega, by omega⟩⟩
              · refine T_ite (fun h126 => ?_) (fun h126 => ?_)
                · refine T_if1 (by decide +kernel) ?_
                  refine T_let 312 (by decide +kernel) ?_
                  refine T_leq (fun x127 e128 => ?_)
                  first | (have w129 := z_wx e128 (by omega)) | (have w129 := z_wr e128)
                  refine T_if1 (z_ixl (n := 9) (by decide +kernel) (by omega) (by omega)) ?_
                  refine T_leq (fun x130 e131 => ?_)
                  have u132 := CI_b c38 (k := 312) (j := x127) (bdr_312 x127)
                  exact T_ret ⟨c38, f40, r59, (by first | exact r60 | exact y_DD.z (by omega) (by omega)), r61, (by first | exact o43 | exact y_K.b0 (by omega) | exact y_K.k0 (by omega) | exact y_K.bk (by omega) | exact y_K.mk o44 (by omega) o45), ⟨x130, rfl, by omega, by omega⟩⟩
                · refine T_ite (fun h133 => ?_) (fun h133 => ?_)
                  · refine T_if1 (by decide +kernel) ?_
                    refine T_let 312 (by decide +kernel) ?_
                    refine T_leq (fun x134 e135 => ?_)
                    first | (have w136 := z_wx e135 (by omega)) | (have w136 := z_wr e135)
                    refine T_if1 (z_ixl (n := 9) (by decide +kernel) (by omega) (by omega)) ?_
                    refine T_leq (fun x137 e138 => ?_)
                    have u139 := CI_b c38 (k := 312) (j := x134) (bdr_312 x134)
                    exact T_ret ⟨c38, f40, r59, (by first | exact r60 | exact y_DD.z (by omega) (by omega)), r61, (by first | exact o43 | exact y_K.b0 (by omega) | exact y_K.k0 (by omega) | exact y_K.bk (by omega) | exact y_K.mk o44 (by omega) o45), ⟨x137, rfl, by omega, by omega⟩⟩
                  · refine T_ite (fun h140 => ?_) (fun h140 => ?_)
                    · refine T_if1 (by decide +kernel) ?_
                      refine T_let 312 (by decide +kernel) ?_
                      refine T_leq (fun x141 e142 => ?_)
                      first | (have w143 := z_wx e142 (by omega)) | (have w143 := z_wr e142)
                      refine T_if1 (z_ixl (n := 9) (by decide +kernel) (by omega) (by omega)) ?_
                      refine T_leq (fun x144 e145 => ?_)
                      have u146 := CI_b c38 (k := 312) (j := x141) (bdr_312 x141)
                      exact T_ret ⟨c38, f40, r59, (by first | exact r60 | exact y_DD.z (by omega) (by omega)), r61, (by first | exact o43 | exact y_K.b0 (by omega) | exact y_K.k0 (by omega) | exact y_K.bk (by omega) | exact y_K.mk o44 (by omega) o45), ⟨x144, rfl, by omega, by omega⟩⟩
                    · refine T_ite (fun h147 => ?_) (fun h147 => ?_)
                      · refine T_if1 (by decide +kernel) ?_
                        refine T_let 312 (by decide +kernel) ?_
                        refine T_leq (fun x148 e149 => ?_)
                        first | (have w150 := z_wx e149 (by omega)) | (have w150 := z_wr e149)
                        refine T_if1 (z_ixl (n := 9) (by decide +kernel) (by omega) (by omega)) ?_
                        refine T_leq (fun x151 e152 => ?_)
                        have u153 := CI_b c38 (k := 312) (j := x148) (bdr_312 x148)
                        exact T_ret ⟨c38, f40, r59, (by first | exact r60 | exact y_DD.z (by omega) (by omega)), r61, (by first | exact o43 | exact y_K.b0 (by omega) | exact y_K.k0 (by omega) | exact y_K.bk (by omega) | exact y_K.mk o44 (by omega) o45), ⟨x151, rfl, by omega, by omega⟩⟩
                      · refine T_ite (fun h154 => ?_) (fun h154 => ?_)
                        · refine T_if1 (by decide +kernel) ?_
                          refine T_let 312 (by decide +kernel) ?_
                          refine T_leq (fun x155 e156 => ?_)
                          first | (have w157 := z_wx e156 (by omega)) | (have w157 := z_wr e156)
                          refine T_if1 (z_ixl (n := 9) (by decide +kernel) (by omega) (by omega)) ?_
                          refine T_leq (fun x158 e159 => ?_)
                          have u160 := CI_b c38 (k := 312) (j := x155) (bdr_312 x155)
                          exact T_ret ⟨c38, f40, r59, (by first | exact r60 | exact y_DD.z (by omega) (by omega)), r61, (by first | exact o43 | exact y_K.b0 (by omega) | exact y_K.k0 (by omega) | exact y_K.bk (by omega) | exact y_K.mk o44 (by omega) o45), ⟨x158, rfl, by omega, by omega⟩⟩
                        · refine T_ite (fun h161 => ?_) (fun h161 => ?_)
                          · refine T_if1 (by decide +kernel) ?_
                            refine T_let 312 (by decide +kernel) ?_
                            refine T_leq (fun x162 e163 => ?_)
                            first | (have w164 := z_wx e163 (by omega)) | (have w164 := z_wr e163)
                            refine T_if1 (z_ixl (n := 9) (by decide +kernel) (by omega) (by omega)) ?_
                            refine T_leq (fun x165 e166 => ?_)
                            have u167 := CI_b c38 (k := 312) (j := x162) (bdr_312 x162)
                            exact T_ret ⟨c38, f40, r59, (by first | exact r60 | exact y_DD.z (by omega) (by omega)), r61, (by first | exact o43 | exact y_K.b0 (by omega) | exact y_K.k0 (by omega) | exact y_K.bk (by omega) | exact y_K.mk o44 (by omega) o45), ⟨x165, rfl, by omega, by omega⟩⟩
                          · refine T_ite (fun h168 => ?_) (fun h168 => ?_)
                            · refine T_if1 (by decide +kernel) ?_
                              refine T_let 312 (by decide +kernel) ?_
                              refine T_leq (fun x169 e170 => ?_)
                              first | (have w171 := z_wx e170 (by omega)) | (have w171 := z_wr e170)
                              refine T_if1 (z_ixl (n := 9) (by decide +kernel) (by omega) (by omega)) ?_
                              refine T_leq (fun x172 e173 => ?_)
                              have u174 := CI_b c38 (k := 312) (j := x169) (bdr_312 x169)
                              exact T_ret ⟨c38, f40, r59, (by first | exact r60 | exact y_DD.z (by omega) (by omega)), r61, (by first | exact o43 | exact y_K.b0 (by omega) | exact y_K.k0 (by omega) | exact y_K.bk (by omega) | exact y_K.mk o44 (by omega) o45), ⟨x172, rfl, by omega, by omega⟩⟩
                            · refine T_ite (fun h175 => ?_) (fun h175 => ?_)
                              · refine T_if1 (by decide +kernel) ?_
                                refine T_leq (fun x176 e177 => ?_)
                                have u178 := CI_b c38 (k := 309) (j := 19) bd_309_19
                                exact T_ret ⟨c38, f40, r59, (by first | exact r60 | exact y_DD.z (by omega) (by omega)), r61, (by first | exact o43 | exact y_K.b0 (by omega) | exact y_K.k0 (by omega) | exact y_K.bk (by omega) | exact y_K.mk o44 (by omega) o45), ⟨x176, rfl, by omega, by omega⟩⟩
                              · refine T_ite (fun h179 => ?_) (fun h179 => ?_)
                                · refine T_if1 (by decide +kernel) ?_
                                  refine T_leq (fun x180 e181 => ?_)
                                  have u182 := CI_b c38 (k := 309) (j := 2) bd_309_2
                                  exact T_ret ⟨c38, f40, r59, (by first | exact r60 | exact y_DD.z (by omega) (by omega)), r61, (by first | exact o43 | exact y_K.b0 (by omega) | exact y_K.k0 (by omega) | exact y_K.bk (by omega) | exact y_K.mk o44 (by omega) o45), ⟨x180, rfl, by omega, by omega⟩⟩
                                · refine T_ite (fun h183 => ?_) (fun h183 => ?_)
                                  · refine T_if1 (by decide +kernel) ?_
                                    refine T_useI (sf_X12_unfit_309 hfu s37 c38) (fun v189 s184 hq => ?_)
                                    obtain ⟨c185, f186, ⟨x188, rfl, b190, b191⟩⟩ := hq
                                    refine T_vI ?_
                                    have q192 := z_Fr.eq (fun a b h => h) f186
                                    subst q192
                                    exact T_ret ⟨c38, f40, r59, (by first | exact r60 | exact y_DD.z (by omega) (by omega)), r61, (by first | exact o43 | exact y_K.b0 (by omega) | exact y_K.k0 (by omega) | exact y_K.bk (by omega) | exact y_K.mk o44 (by omega) o45), ⟨x188, rfl, by omega, by omega⟩⟩
                                  · refine T_ite (fun h193 => ?_) (fun h193 => ?_)
                                    · refine T_if1 (by decide +kernel) ?_
                                      refine T_let 312 (by decide +kernel) ?_
                                      refine T_leq (fun x194 e195 => ?_)
                                      first | (have w196 := z_wx e195 (by omega)) | (have w196 := z_wr e195)
                                      refine T_if1 (z_ixl (n := 9) (by decide +kernel) (by omega) (by omega)) ?_
                                      refine T_leq (fun x197 e198 => ?_)
                                      have u199 := CI_b c38 (k := 312) (j := x194) (bdr_312 x194)
                                      exact T_ret ⟨c38, f40, r59, (by first | exact r60 | exact y_DD.z (by omega) (by omega)), r61, (by first | exact o43 | exact y_K.b0 (by omega) | exact y_K.k0 (by omega) | exact y_K.bk (by omega) | exact y_K.mk o44 (by omega) o45), ⟨x197, rfl, by omega, by omega⟩⟩
                                    · refine T_ite (fun h200 => ?_) (fun h200 => ?_)
                                      · refine T_if1 (by decide +kernel) ?_
                                        refine T_let 312 (by decide +kernel) ?_
                                        refine T_leq (fun x201 e202 => ?_)
                                        first | (have w203 := z_wx e202 (by omega)) | (have w203 := z_wr e202)
                                        refine T_if1 (z_ixl (n := 9) (by decide +kernel) (by omega) (by omega)) ?_
                                        refine T_leq (fun x204 e205 => ?_)
                                        have u206 := CI_b c38 (k := 312) (j := x201) (bdr_312 x201)
                                        exact T_ret ⟨c38, f40, r59, (by first | exact r60 | exact y_DD.z (by omega) (by omega)), r61, (by first | exact o43 | exact y_K.b0 (by omega) | exact y_K.k0 (by omega) | exact y_K.bk (by omega) | exact y_K.mk o44 (by omega) o45), ⟨x204, rfl, by omega, by omega⟩⟩
                                      · refine T_ite (fun h207 => ?_) (fun h207 => ?_)
                                        · refine T_if1 (by decide +kernel) ?_
                                          refine T_leq (fun x208 e209 => ?_)
                                          have u210 := CI_b c38 (k := 309) (j := 38) bd_309_38
                                          exact T_ret ⟨c38, f40, r59, (by first | exact r60 | exact y_DD.z (by omega) (by omega)), r61, (by first | exact o43 | exact y_K.b0 (by omega) | exact y_K.k0 (by omega) | exact y_K.bk (by omega) | exact y_K.mk o44 (by omega) o45), ⟨x208, rfl, by omega, by omega⟩⟩
                                        · refine T_ite (fun h211 => ?_) (fun h211 => ?_)
                                          · refine T_if1 (by decide +kernel) ?_
                                            refine T_leq (fun x212 e213 => ?_)
                                            have u214 := CI_b c38 (k := 309) (j := 39) bd_309_39
                                            exact T_ret ⟨c38, f40, r59, (by first | exact r60 | exact y_DD.z (by omega) (by omega)), r61, (by first | exact o43 | exact y_K.b0 (by omega) | exact y_K.k0 (by omega) | exact y_K.bk (by omega) | exact y_K.mk o44 (by omega) o45), ⟨x212, rfl, by omega, by omega⟩⟩
                                          · refine T_if1 (by decide +kernel) ?_
                                            refine T_let 312 (by decide +kernel) ?_
                                            refine T_leq (fun x215 e216 => ?_)
                                            first | (have w217 := z_wx e216 (by omega)) | (have w217 := z_wr e216)
                                            refine T_if1 (z_ixl (n := 9) (by decide +kernel) (by omega) (by omega)) ?_
                                            refine T_leq (fun x218 e219 => ?_)
                                            have u220 := CI_b c38 (k := 312) (j := x215) (bdr_312 x215)
                                            exact T_ret ⟨c38, f40, r59, (by first | exact r60 | exact y_DD.z (by omega) (by omega)), r61, (by first | exact o43 | exact y_K.b0 (by omega) | exact y_K.k0 (by omega) | exact y_K.bk (by omega) | exact y_K.mk o44 (by omega) o45), ⟨x218, rfl, by omega, by omega⟩⟩
  · exact T_ret ⟨c14, f16, r32, (by first | exact r33 | exact y_DD.z (by omega) (by omega)), r34, (by first | exact r35 | exact y_K.b0 (by omega) | exact y_K.k0 (by omega) | exact y_K.bk (by omega)), ⟨0, rfl, by omega, by omega⟩⟩
theorem sf_X12_told_309 {fu : Nat} (hfu : 8589934592 ≤ fu) (r0 : z_M) (c0 : z_CI r0) (a1 : Int) (b1 : -2147483648 ≤ a1 ∧ a1 ≤ 2147483647) (p0 : y_TA r0) (p1 : y_DD r0) (p2 : y_B r0) (p3 : y_K r0) : z_T (fX12_told fu r0 309 a1) (P_X12_told_309 r0) := by
  refine T_of (fX12_told.eq_1 ..) ?_
  have u1 := CI_b c0 (k := 309) (j := 20) bd_309_20
  have u2 := CI_b c0 (k := 309) (j := 36) bd_309_36
  have u3 := CI_b c0 (k := 309) (j := 43) bd_309_43
  have u4 := CI_b c0 (k := 309) (j := 44) bd_309_44
  have u5 := CI_b c0 (k := 309) (j := 58) bd_309_58
  have u6 := CI_b c0 (k := 316) (j := 0) bd_316_0
  have u7 := CI_b c0 (k := 329) (j := 0) bd_329_0
  have u8 := CI_b c0 (k := 329) (j := 1) bd_329_1
  refine T_if1 (by decide +kernel) ?_
  refine T_upg c0 bd_309_0 (by omega) (fun s9 c10 g12 g13 e14 => ?_)
  have f11 := z_Fr.upf (R := R_X12_told_309) z_Fr.rf g12 g13 (Or.inr (Or.inr (⟨rfl, by decide⟩)))
  have t15 : s9 309 20 = r0 309 20 := g13 20 (by decide)
  have t16 : s9 309 36 = r0 309 36 := g13 36 (by decide)
  have t17 : s9 309 43 = r0 309 43 := g13 43 (by decide)
  have t18 : s9 309 44 = r0 309 44 := g13 44 (by decide)
  have t19 : s9 309 58 = r0 309 58 := g13 58 (by decide)
  have t20 : s9 316 0 = r0 316 0 := g12 316 0 (by decide)
  have t21 : s9 329 0 = r0 329 0 := g12 329 0 (by decide)
  have t22 : s9 329 1 = r0 329 1 := g12 329 1 (by decide)
  have r23 := y_TA.fr p0 (fun a b h => g12 a b (by omega)) (fun a b h => g12 a b (by omega)) (fun a b h => g12 a b (by omega))
  have r24 := y_DD.fr p1 (g12 329 0 (by decide)) (g12 329 1 (by decide)) (fun b => g12 359 b (by decide)) (fun b => g12 374 b (by decide))
  have r25 := y_B.fr p2 (g13 20 (by decide)) (g12 316 0 (by decide)) (fun b => g12 3220 b (by decide)) (fun b => g12 3221 b (by decide)) (fun b => g12 3222 b (by decide)) (fun b => g12 361 b (by decide))
  have r26 := y_K.fr p3 (by omega) (by omega) (g13 44 (by decide)) (g13 20 (by decide)) (g13 58 (by decide)) (fun b => g12 3438 b (by decide)) (fun b => g12 3220 b (by decide)) (fun a b h => g12 a b (by omega))
  refine T_useI (sf_X12_in hfu s9 c10 a1 0 19 (by omega) (by omega) (by omega)) (fun v32 s27 hq => ?_)
  obtain ⟨c28, f29, ⟨x31, rfl, b33, b34, o35⟩⟩ := hq
  refine T_vI ?_
  have q36 := z_Fr.eq (fun a b h => h) f29
  subst q36
  refine T_ite (fun h37 => ?_) (fun h37 => ?_)
  · exact sj_X12_told_309_J21 hfu r0 s9 c10 f11 a1 0 (by omega) (by omega) (by omega) r23 (by first | exact r24 | exact y_DD.z (by omega) (by omega)) r25 (by first | exact r26 | exact y_K.b0 (by omega) | exact y_K.k0 (by omega) | exact y_K.bk (by omega))
  · exact sj_X12_told_309_J21 hfu r0 s9 c10 f11 a1 1 (by omega) (by omega) (by omega) r23 (by first | exact r24 | exact y_DD.z (by omega) (by omega)) r25 (by first | exact r26 | exact y_K.b0 (by omega) | exact y_K.k0 (by omega) | exact y_K.bk (by omega))
abbrev R_X12_unit_309 (a b : Int) : Prop := (310 ≤ a ∧ a ≤ 310) ∨ (3224 ≤ a ∧ a ≤ 3651) ∨ (a = 309 ∧ (b = 0 ∨ b = 35 ∨ b = 36 ∨ b = 38 ∨ b = 39 ∨ b = 43 ∨ b = 44 ∨ b = 58))
abbrev P_X12_unit_309 (r0 : z_M) : z_V → z_M → Prop := fun v s' => z_CI s' ∧ z_Fr R_X12_unit_309 r0 s' ∧ (y_TA s') ∧ (y_DD s') ∧ (y_B s') ∧ (y_K s') ∧ (∃ x, v = vI x ∧ -2147483648 ≤ x ∧ x ≤ 2147483647)
theorem rs_X12_bad_309__X12_unit_309 (a b : Int) (h : R_X12_bad_309 a b) : R_X12_unit_309 a b := (h.elim (fun h => (Or.inl (⟨by omega, by omega⟩))) (fun h => (Or.inr (Or.inr (⟨h.1, by omega⟩)))))
theorem sj_X12_unit_309_J51 {fu : Nat} (hfu : 8589934592 ≤ fu) (r0 s : z_M) (c : z_CI s) (f : z_Fr R_X12_unit_309 r0 s) (p0 : y_TA s) (p1 : y_DD s) (p2 : y_B s) (p3 : y_K s) : z_T (fX12_unit_J51 fu s) (P_X12_unit_309 r0) := by
  refine T_of (fX12_unit_J51.eq_1 ..) ?_
  have u1 := CI_b c (k := 309) (j := 20) bd_309_20
  have u2 := CI_b c (k := 309) (j := 36) bd_309_36
  have u3 := CI_b c (k := 309) (j := 43) bd_309_43
  have u4 := CI_b c (k := 309) (j := 44) bd_309_44
  have u5 := CI_b c (k := 309) (j := 58) bd_309_58
  have u6 := CI_b c (k := 316) (j := 0) bd_316_0
  have u7 := CI_b c (k := 329) (j := 0) bd_329_0
  have u8 := CI_b c (k := 329) (j := 1) bd_329_1
  have t9 : s 309 20 = r0 309 20 := f 309 20 (by decide)
  have t10 : s 316 0 = r0 316 0 := f 316 0 (by decide)
  have t11 : s 329 0 = r0 329 0 := f 329 0 (by decide)
  have t12 : s 329 1 = r0 329 1 := f 329 1 (by decide)
  exact T_ret ⟨c, f, p0, (by first | exact p1 | exact y_DD.z (by omega) (by omega)), p2, (by first | exact p3 | exact y_K.b0 (by omega) | exact y_K.k0 (by omega) | exact y_K.bk (by omega)), ⟨0, rfl, by omega, by omega⟩⟩
theorem rs_X12_laysAll_309__X12_unit_309 (a b : Int) (h : R_X12_laysAll_309 a b) : R_X12_unit_309 a b := (h.elim (fun h => (Or.inr (Or.inl (⟨by omega, by omega⟩)))) (fun h => (Or.inr (Or.inr (⟨h.1, by omega⟩)))))
set_option maxHeartbeats 4000000 in
theorem sj_X12_unit_309_J43 {fu : Nat} (hfu : 8589934592 ≤ fu) (r0 s : z_M) (c : z_CI s) (f : z_Fr R_X12_unit_309 r0 s) (a1 : Int) (a2 : Int) (t1 : Int) (b1 : -2147483648 ≤ a1 ∧ a1 ≤ 2147483647) (b2 : -2147483648 ≤ a2 ∧ a2 ≤ 2147483647) (d1 : 0 ≤ t1 ∧ t1 ≤ 1) (p0 : 0 ≤ a1 ∧ a1 < s 309 20) (p1 : t1 = 1 ∨ (0 ≤ a2 ∧ a2 ≤ 7)) (p2 : y_TA s) (p3 : y_DD s) (p4 : y_B s) (p5 : y_K s) : z_T (fX12_unit_J43 fu s 309 a1 a2 309 t1) (P_X12_unit_309 r0) := by
  refine T_of (fX12_unit_J43.eq_1 ..) ?_
  have u1 := CI_b c (k := 309) (j := 20) bd_309_20
  have u2 := CI_b c (k := 309) (j := 36) bd_309_36
  have u3 := CI_b c (k := 309) (j := 43) bd_309_43
  have u4 := CI_b c (k := 309) (j := 44) bd_309_44
  have u5 := CI_b c (k := 309) (j := 58) bd_309_58
  have u6 := CI_b c (k := 316) (j := 0) bd_316_0
  have u7 := CI_b c (k := 329) (j := 0) bd_329_0
  have u8 := CI_b c (k := 329) (j := 1) bd_329_1
  have t9 : s 309 20 = r0 309 20 := f 309 20 (by decide)
  have t10 : s 316 0 = r0 316 0 := f 316 0 (by decide)
  have t11 : s 329 0 = r0 329 0 := f 329 0 (by decide)
  have t12 : s 329 1 = r0 329 1 := f 329 1 (by decide)
  refine T_if1 (by decide +kernel) ?_
  refine T_useI (sf_X12_bad_309 hfu s c t1 2 1 (by omega) (by omega) (by omega) (by omega)) (fun v18 s13 hq => ?_)
  obtain ⟨c14, f15, o19, ⟨x17, rfl, b20, b21, o22, o23⟩⟩ := hq
  refine T_vI ?_
  have f16 := z_Fr.tr (R := R_X12_unit_309) f f15 rs_X12_bad_309__X12_unit_309
  have t24 : s13 309 20 = s 309 20 := f15 309 20 (by decide)
  have t25 : s13 309 36 = s 309 36 := f15 309 36 (by decide)
  have t26 : s13 309 43 = s 309 43 := f15 309 43 (by decide)
  have t27 : s13 309 44 = s 309 44 := f15 309 44 (by decide)
  have t28 : s13 309 58 = s 309 58 := f15 309 58 (by decide)
  have t29 : s13 316 0 = s 316 0 := f15 316 0 (by decide)
  have t30 : s13 329 0 = s 329 0 := f15 329 0 (by decide)
  have t31 : s13 329 1 = s 329 1 := f15 329 1 (by decide)
  have r32 := y_TA.fr p2 (fun a b h => f15 a b (nq_X12_bad_309__316 a b h)) (fun a b h => f15 a b (nq_X12_bad_309__346 a b h)) (fun a b h => f15 a b (nq_X12_bad_309__361 a b h))
  have r33 := y_DD.fr p3 (f15 329 0 (by decide)) (f15 329 1 (by decide)) (fun b => f15 359 b (nr_X12_bad_309__359 b)) (fun b => f15 374 b (nr_X12_bad_309__374 b))
  have r34 := y_B.fr p4 (f15 309 20 (by decide)) (f15 316 0 (by decide)) (fun b => f15 3220 b (nr_X12_bad_309__3220 b)) (fun b => f15 3221 b (nr_X12_bad_309__3221 b)) (fun b => f15 3222 b (nr_X12_bad_309__3222 b)) (fun b => f15 361 b (nr_X12_bad_309__361 b))
  have r35 := y_K.fr p5 (by omega) (by omega) (f15 309 44 (by decide)) (f15 309 20 (by decide)) (f15 309 58 (by decide)) (fun b => f15 3438 b (nr_X12_bad_309__3438 b)) (fun b => f15 3220 b (nr_X12_bad_309__3220 b)) (fun a b h => f15 a b (nq_X12_bad_309__3452 a b h))
  refine T_ite (fun h36 => ?_) (fun h36 => ?_)
  · refine T_if1 (by decide +kernel) ?_
    refine T_useN (sf_X12_laysAll_309 hfu s13 c14 r34 (by first | exact r35 | exact y_K.b0 (by omega) | exact y_K.k0 (by omega) | exact y_K.bk (by omega))) (fun v42 s37 hq => ?_)
    obtain ⟨c38, f39, o43, o44, o45, o46, o47, o48, rfl⟩ := hq
    refine T_vN ?_
    have f40 := z_Fr.tr (R := R_X12_unit_309) f16 f39 rs_X12_laysAll_309__X12_unit_309
    have t51 : s37 309 20 = s 309 20 := (f39 309 20 (by decide)).trans t24
    have t52 : s37 316 0 = s 316 0 := (f39 316 0 (by decide)).trans t29
    have t53 : s37 329 0 = s 329 0 := (f39 329 0 (by decide)).trans t30
    have t54 : s37 329 1 = s 329 1 := (f39 329 1 (by decide)).trans t31
    have u55 := CI_b c38 (k := 309) (j := 36) bd_309_36
    have u56 := CI_b c38 (k := 309) (j := 43) bd_309_43
    have u57 := CI_b c38 (k := 309) (j := 44) bd_309_44
    have u58 := CI_b c38 (k := 309) (j := 58) bd_309_58
    have r59 := y_TA.fr r32 (fun a b h => f39 a b (nq_X12_laysAll_309__316 a b h)) (fun a b h => f39 a b (nq_X12_laysAll_309__346 a b h)) (fun a b h => f39 a b (nq_X12_laysAll_309__361 a b h))
    have r60 := y_DD.fr r33 (f39 329 0 (by decide)) (f39 329 1 (by decide)) (fun b => f39 359 b (nr_X12_laysAll_309__359 b)) (fun b => f39 374 b (nr_X12_laysAll_309__374 b))
    have r61 := y_B.fr r34 (f39 309 20 (by decide)) (f39 316 0 (by decide)) (fun b => f39 3220 b (nr_X12_laysAll_309__3220 b)) (fun b => f39 3221 b (nr_X12_laysAll_309__3221 b)) (fun b => f39 3222 b (nr_X12_laysAll_309__3222 b)) (fun b => f39 361 b (nr_X12_laysAll_309__361 b))
    clear t24
    clear t29
    clear t30
    clear t31
    refine T_ite (fun h62 => ?_) (fun h62 => ?_)
    · refine T_if1 (by decide +kernel) ?_
      refine T_let 3220 (by decide +kernel) ?_
      refine T_if1 (z_ixl (n := 200) (by decide +kernel) (by omega) (by omega)) ?_
      refine T_leq (fun x63 e64 => ?_)
      have u65 := CI_b c38 (k := 3220) (j := a1) (bdr_3220 a1)
      exact T_ret ⟨c38, f40, r59, (by first | exact r60 | exact y_DD.z (by omega) (by omega)), r61, (by first | exact o43 | exact y_K.b0 (by omega) | exact y_K.k0 (by omega) | exact y_K.bk (by omega) | exact y_K.mk o44 (by omega) o45), ⟨x63, rfl, by omega, by omega⟩⟩
    · refine T_ite (fun h66 => ?_) (fun h66 => ?_)
      · refine T_if1 (by decide +kernel) ?_
        refine T_let 3221 (by decide +kernel) ?_
        refine T_if1 (z_ixl (n := 200) (by decide +kernel) (by omega) (by omega)) ?_
        refine T_leq (fun x67 e68 => ?_)
        have u69 := CI_b c38 (k := 3221) (j := a1) (bdr_3221 a1)
        exact T_ret ⟨c38, f40, r59, (by first | exact r60 | exact y_DD.z (by omega) (by omega)), r61, (by first | exact o43 | exact y_K.b0 (by omega) | exact y_K.k0 (by omega) | exact y_K.bk (by omega) | exact y_K.mk o44 (by omega) o45), ⟨x67, rfl, by omega, by omega⟩⟩
      · refine T_ite (fun h70 => ?_) (fun h70 => ?_)
        · refine T_if1 (by decide +kernel) ?_
          refine T_let 3222 (by decide +kernel) ?_
          refine T_if1 (z_ixl (n := 200) (by decide +kernel) (by omega) (by omega)) ?_
          refine T_leq (fun x71 e72 => ?_)
          have u73 := CI_b c38 (k := 3222) (j := a1) (bdr_3222 a1)
          exact T_ret ⟨c38, f40, r59, (by first | exact r60 | exact y_DD.z (by omega) (by omega)), r61, (by first | exact o43 | exact y_K.b0 (by omega) | exact y_K.k0 (by omega) | exact y_K.bk (by omega) | exact y_K.mk o44 (by omega) o45), ⟨x71, rfl, by omega, by omega⟩⟩
        · refine T_ite (fun h74 => ?_) (fun h74 => ?_)
          · refine T_if1 (by decide +kernel) ?_
            refine T_let 3445 (by decide +kernel) ?_
            refine T_if1 (z_ixl (n := 200) (by decide +kernel) (by omega) (by omega)) ?_
            refine T_leq (fun x75 e76 => ?_)
            have u77 := CI_b c38 (k := 3445) (j := a1) (bdr_3445 a1)
            exact T_ret ⟨c38, f40, r59, (by first | exact r60 | exact y_DD.z (by omega) (by omega)), r61, (by first | exact o43 | exact y_K.b0 (by omega) | exact y_K.k0 (by omega) | exact y_K.bk (by omega) | exact y_K.mk o44 (by omega) o45), ⟨x75, rfl, by omega, by omega⟩⟩
          · refine T_ite (fun h78 => ?_) (fun h78 => ?_)
            · refine T_if1 (by decide +kernel) ?_
              refine T_let 3441 (by decide +kernel) ?_
              refine T_if1 (z_ixl (n := 200) (by decide +kernel) (by omega) (by omega)) ?_
              refine T_leq (fun x79 e80 => ?_)
              have u81 := CI_b c38 (k := 3441) (j := a1) (bdr_3441 a1)
              exact T_ret ⟨c38, f40, r59, (by first | exact r60 | exact y_DD.z (by omega) (by omega)), r61, (by first | exact o43 | exact y_K.b0 (by omega) | exact y_K.k0 (by omega) | exact y_K.bk (by omega) | exact y_K.mk o44 (by omega) o45), ⟨x79, rfl, by omega, by omega⟩⟩
            · refine T_ite (fun h82 => ?_) (fun h82 => ?_)
              · refine T_if1 (by decide +kernel) ?_
                refine T_let 3442 (by decide +kernel) ?_
                refine T_if1 (z_ixl (n := 200) (by decide +kernel) (by omega) (by omega)) ?_
                refine T_leq (fun x83 e84 => ?_)
                have u85 := CI_b c38 (k := 3442) (j := a1) (bdr_3442 a1)
                exact T_ret ⟨c38, f40, r59, (by first | exact r60 | exact y_DD.z (by omega) (by omega)), r61, (by first | exact o43 | exact y_K.b0 (by omega) | exact y_K.k0 (by omega) | exact y_K.bk (by omega) | exact y_K.mk o44 (by omega) o45), ⟨x83, rfl, by omega, by omega⟩⟩
              · refine T_ite (fun h86 => ?_) (fun h86 => ?_)
                · refine T_if1 (by decide +kernel) ?_
                  refine T_useI (sf_X12_group_309 hfu s37 c38 a1 (by omega) r61 (by omega)) (fun v92 s87 hq => ?_)
                  obtain ⟨c88, f89, ⟨x91, rfl, b93, b94, o95, o96, o97⟩⟩ := hq
                  refine T_vI ?_
                  have q98 := z_Fr.eq (fun a b h => h) f89
                  subst q98
                  exact T_ret ⟨c38, f40, r59, (by first | exact r60 | exact y_DD.z (by omega) (by omega)), r61, (by first | exact o43 | exact y_K.b0 (by omega) | exact y_K.k0 (by omega) | exact y_K.bk (by omega) | exact y_K.mk o44 (by omega) o45), ⟨x91, rfl, by omega, by omega⟩⟩
                · refine T_if1 (by decide +kernel) ?_
                  refine T_let 3444 (by decide +kernel) ?_
                  refine T_if1 (z_ixl (n := 200) (by decide +kernel) (by omega) (by omega)) ?_
                  refine T_leq (fun x99 e100 => ?_)
                  have u101 := CI_b c38 (k := 3444) (j := a1) (bdr_3444 a1)
                  exact T_ret ⟨c38, f40, r59, (by first | exact r60 | exact y_DD.z (by omega) (by omega)), r61, (by first | exact o43 | exact y_K.b0 (by omega) | exact y_K.k0 (by omega) | exact y_K.bk (by omega) | exact y_K.mk o44 (by omega) o45), ⟨x99, rfl, by omega, by omega⟩⟩
  · exact sj_X12_unit_309_J51 hfu r0 s13 c14 f16 r32 (by first | exact r33 | exact y_DD.z (by omega) (by omega)) r34 (by first | exact r35 | exact y_K.b0 (by omega) | exact y_K.k0 (by omega) | exact y_K.bk (by omega))
theorem sj_X12_unit_309_J19 {fu : Nat} (hfu : 8589934592 ≤ fu) (r0 s : z_M) (c : z_CI s) (f : z_Fr R_X12_unit_309 r0 s) (a1 : Int) (a2 : Int) (t1 : Int) (b1 : -2147483648 ≤ a1 ∧ a1 ≤ 2147483647) (b2 : -2147483648 ≤ a2 ∧ a2 ≤ 2147483647) (d1 : 0 ≤ t1 ∧ t1 ≤ 1) (p0 : t1 = 1 ∨ (0 ≤ a1 ∧ a1 < s 309 20)) (p1 : y_TA s) (p2 : y_DD s) (p3 : y_B s) (p4 : y_K s) : z_T (fX12_unit_J19 fu s 309 a1 a2 309 t1) (P_X12_unit_309 r0) := by
  refine T_of (fX12_unit_J19.eq_1 ..) ?_
  have u1 := CI_b c (k := 309) (j := 20) bd_309_20
  have u2 := CI_b c (k := 309) (j := 36) bd_309_36
  have u3 := CI_b c (k := 309) (j := 43) bd_309_43
  have u4 := CI_b c (k := 309) (j := 44) bd_309_44
  have u5 := CI_b c (k := 309) (j := 58) bd_309_58
  have u6 := CI_b c (k := 316) (j := 0) bd_316_0
  have u7 := CI_b c (k := 329) (j := 0) bd_329_0
  have u8 := CI_b c (k := 329) (j := 1) bd_329_1
  have t9 : s 309 20 = r0 309 20 := f 309 20 (by decide)
  have t10 : s 316 0 = r0 316 0 := f 316 0 (by decide)
  have t11 : s 329 0 = r0 329 0 := f 329 0 (by decide)
  have t12 : s 329 1 = r0 329 1 := f 329 1 (by decide)
  refine T_if1 (by decide +kernel) ?_
  refine T_useI (sf_X12_bad_309 hfu s c t1 1 0 (by omega) (by omega) (by omega) (by omega)) (fun v18 s13 hq => ?_)
  obtain ⟨c14, f15, o19, ⟨x17, rfl, b20, b21, o22, o23⟩⟩ := hq
  refine T_vI ?_
  have f16 := z_Fr.tr (R := R_X12_unit_309) f f15 rs_X12_bad_309__X12_unit_309
  have t24 : s13 309 20 = s 309 20 := f15 309 20 (by decide)
  have t25 : s13 309 36 = s 309 36 := f15 309 36 (by decide)
  have t26 : s13 309 43 = s 309 43 := f15 309 43 (by decide)
  have t27 : s13 309 44 = s 309 44 := f15 309 44 (by decide)
  have t28 : s13 309 58 = s 309 58 := f15 309 58 (by decide)
  have t29 : s13 316 0 = s 316 0 := f15 316 0 (by decide)
  have t30 : s13 329 0 = s 329 0 := f15 329 0 (by decide)
  have t31 : s13 329 1 = s 329 1 := f15 329 1 (by decide)
  have r32 := y_TA.fr p1 (fun a b h => f15 a b (nq_X12_bad_309__316 a b h)) (fun a b h => f15 a b (nq_X12_bad_309__346 a b h)) (fun a b h => f15 a b (nq_X12_bad_309__361 a b h))
  have r33 := y_DD.fr p2 (f15 329 0 (by decide)) (f15 329 1 (by decide)) (fun b => f15 359 b (nr_X12_bad_309__359 b)) (fun b => f15 374 b (nr_X12_bad_309__374 b))
  have r34 := y_B.fr p3 (f15 309 20 (by decide)) (f15 316 0 (by decide)) (fun b => f15 3220 b (nr_X12_bad_309__3220 b)) (fun b => f15 3221 b (nr_X12_bad_309__3221 b)) (fun b => f15 3222 b (nr_X12_bad_309__3222 b)) (fun b => f15 361 b (nr_X12_bad_309__361 b))
  have r35 := y_K.fr p4 (by omega) (by omega) (f15 309 44 (by decide)) (f15 309 20 (by decide)) (f15 309 58 (by decide)) (fun b => f15 3438 b (nr_X12_bad_309__3438 b)) (fun b => f15 3220 b (nr_X12_bad_309__3220 b)) (fun a b h => f15 a b (nq_X12_bad_309__3452 a b h))
  refine T_ite (fun h36 => ?_) (fun h36 => ?_)
  · exact sj_X12_unit_309_J51 hfu r0 s13 c14 f16 r32 (by first | exact r33 | exact y_DD.z (by omega) (by omega)) r34 (by first | exact r35 | exact y_K.b0 (by omega) | exact y_K.k0 (by omega) | exact y_K.bk (by omega))
  · refine T_useI (sf_X12_in hfu s13 c14 a2 0 7 (by omega) (by omega) (by omega)) (fun v42 s37 hq => ?_)
    obtain ⟨c38, f39, ⟨x41, rfl, b43, b44, o45⟩⟩ := hq
    refine T_vI ?_
    have q46 := z_Fr.eq (fun a b h => h) f39
    subst q46
    refine T_ite (fun h47 => ?_) (fun h47 => ?_)
    · exact sj_X12_unit_309_J43 hfu r0 s13 c14 f16 a1 a2 0 (by omega) (by omega) (by omega) (by omega) (by omega) r32 (by first | exact r33 | exact y_DD.z (by omega) (by omega)) r34 (by first | exact r35 | exact y_K.b0 (by omega) | exact y_K.k0 (by omega) | exact y_K.bk (by omega))
    · exact sj_X12_unit_309_J43 hfu r0 s13 c14 f16 a1 a2 1 (by omega) (by omega) (by omega) (by omega) (by omega) r32 (by first | exact r33 | exact y_DD.z (by omega) (by omega)) r34 (by first | exact r35 | exact y_K.b0 (by omega) | exact y_K.k0 (by omega) | exact y_K.bk (by omega))
theorem sf_X12_unit_309 {fu : Nat} (hfu : 8589934592 ≤ fu) (r0 : z_M) (c0 : z_CI r0) (a1 : Int) (a2 : Int) (b1 : -2147483648 ≤ a1 ∧ a1 ≤ 2147483647) (b2 : -2147483648 ≤ a2 ∧ a2 ≤ 2147483647) (p0 : y_TA r0) (p1 : y_DD r0) (p2 : y_B r0) (p3 : y_K r0) : z_T (fX12_unit fu r0 309 a1 a2) (P_X12_unit_309 r0) := by
  refine T_of (fX12_unit.eq_1 ..) ?_
  have u1 := CI_b c0 (k := 309) (j := 20) bd_309_20
  have u2 := CI_b c0 (k := 309) (j := 36) bd_309_36
  have u3 := CI_b c0 (k := 309) (j := 43) bd_309_43
  have u4 := CI_b c0 (k := 309) (j := 44) bd_309_44
  have u5 := CI_b c0 (k := 309) (j := 58) bd_309_58
  have u6 := CI_b c0 (k := 316) (j := 0) bd_316_0
  have u7 := CI_b c0 (k := 329) (j := 0) bd_329_0
  have u8 := CI_b c0 (k := 329) (j := 1) bd_329_1
  refine T_if1 (by decide +kernel) ?_
  refine T_upg c0 bd_309_0 (by omega) (fun s9 c10 g12 g13 e14 => ?_)
  have f11 := z_Fr.upf (R := R_X12_unit_309) z_Fr.rf g12 g13 (Or.inr (Or.inr (⟨rfl, by decide⟩)))
  have t15 : s9 309 20 = r0 309 20 := g13 20 (by decide)
  have t16 : s9 309 36 = r0 309 36 := g13 36 (by decide)
  have t17 : s9 309 43 = r0 309 43 := g13 43 (by decide)
  have t18 : s9 309 44 = r0 309 44 := g13 44 (by decide)
  have t19 : s9 309 58 = r0 309 58 := g13 58 (by decide)
  have t20 : s9 316 0 = r0 316 0 := g12 316 0 (by decide)
  have t21 : s9 329 0 = r0 329 0 := g12 329 0 (by decide)
  have t22 : s9 329 1 = r0 329 1 := g12 329 1 (by decide)
  have r23 := y_TA.fr p0 (fun a b h => g12 a b (by omega)) (fun a b h => g12 a b (by omega)) (fun a b h => g12 a b (by omega))
  have r24 := y_DD.fr p1 (g12 329 0 (by decide)) (g12 329 1 (by decide)) (fun b => g12 359 b (by decide)) (fun b => g12 374 b (by decide))
  have r25 := y_B.fr p2 (g13 20 (by decide)) (g12 316 0 (by decide)) (fun b => g12 3220 b (by decide)) (fun b => g12 3221 b (by decide)) (fun b => g12 3222 b (by decide)) (fun b => g12 361 b (by decide))
  have r26 := y_K.fr p3 (by omega) (by omega) (g13 44 (by decide)) (g13 20 (by decide)) (g13 58 (by decide)) (fun b => g12 3438 b (by decide)) (fun b => g12 3220 b (by decide)) (fun a b h => g12 a b (by omega))
  refine T_if1 (by decide +kernel) ?_
  refine T_useI (sf_X12_isUnit_309 hfu s9 c10 a1 (by omega)) (fun v32 s27 hq => ?_)
  obtain ⟨c28, f29, ⟨x31, rfl, b33, b34, o35⟩⟩ := hq
  refine T_vI ?_
  have q36 := z_Fr.eq (fun a b h => h) f29
  subst q36
  refine T_ite (fun h37 => ?_) (fun h37 => ?_)
  · exact sj_X12_unit_309_J19 hfu r0 s9 c10 f11 a1 a2 0 (by omega) (by omega) (by omega) (by omega) r23 (by first | exact r24 | exact y_DD.z (by omega) (by omega)) r25 (by first | exact r26 | exact y_K.b0 (by omega) | exact y_K.k0 (by omega) | exact y_K.bk (by omega))
  · exact sj_X12_unit_309_J19 hfu r0 s9 c10 f11 a1 a2 1 (by omega) (by omega) (by omega) (by omega) r23 (by first | exact r24 | exact y_DD.z (by omega) (by omega)) r25 (by first | exact r26 | exact y_K.b0 (by omega) | exact y_K.k0 (by omega) | exact y_K.bk (by omega))
abbrev R_X12_marksOf_309 (a b : Int) : Prop := False
abbrev P_X12_marksOf_309 (r0 : z_M) : z_V → z_M → Prop := fun v s' => z_CI s' ∧ z_Fr R_X12_marksOf_309 r0 s' ∧ (∃ x, v = vI x ∧ -2147483648 ≤ x ∧ x ≤ 2147483647)
theorem sj_X12_marksOf_309_J117 {fu : Nat} (hfu : 8589934592 ≤ fu) (r0 s : z_M) (c : z_CI s) (f : z_Fr R_X12_marksOf_309 r0 s) (a2 : Int) (a3 : Int) (a4 : Int) (a5 : Int) (b2 : -2147483648 ≤ a2 ∧ a2 ≤ 2147483647) (b3 : -2147483648 ≤ a3 ∧ a3 ≤ 2147483647) (b4 : 407 ≤ a4 ∧ a4 ≤ 606) (b5 : 0 ≤ a5 ∧ a5 ≤ 1) (M : Int) (pm : 2147483647 - a5 ≤ M) {r : z_M → Int → Int → z_O} {k : z_M → Int → z_O} (hr : ∀ (s' : z_M) (v3 : Int) (v5 : Int), z_CI s' → z_Fr R_X12_marksOf_309 r0 s' → (-2147483648 ≤ v3 ∧ v3 ≤ 2147483647) → (0 ≤ v5 ∧ v5 ≤ 2) → (2147483647 - v5 < M) → z_T (r s' v3 v5) (P_X12_marksOf_309 r0)) (hk : ∀ (s' : z_M) (v3 : Int), z_CI s' → z_Fr R_X12_marksOf_309 r0 s' → (-2147483648 ≤ v3 ∧ v3 ≤ 2147483647) → z_T (k s' v3) (P_X12_marksOf_309 r0)) : z_T (fX12_marksOf_J117 fu s a2 a3 a4 a5 r k) (P_X12_marksOf_309 r0) := by
  have qf := z_Fr.eq (fun a b h => h) f
  subst qf
  refine T_of (fX12_marksOf_J117.eq_1 ..) ?_
  have u1 := CI_b c (k := 316) (j := 0) bd_316_0
  have t2 : r0 316 0 = r0 316 0 := f 316 0 (by exact not_false)
  refine T_leq (fun x3 e4 => ?_)
  first | (have w5 := z_wx e4 (by omega)) | (have w5 := z_wr e4)
  exact hr r0 a3 x3 c f (by omega) (by omega) (by omega)
theorem sl_X12_marksOf_309_L46 {fu : Nat} (hfu : 8589934592 ≤ fu) (r0 : z_M) (a2 : Int) (a4 : Int) (b2 : -2147483648 ≤ a2 ∧ a2 ≤ 2147483647) (b4 : 407 ≤ a4 ∧ a4 ≤ 606) {k : z_M → Int → z_O} (hk : ∀ (s' : z_M) (v3 : Int), z_CI s' → z_Fr R_X12_marksOf_309 r0 s' → (-2147483648 ≤ v3 ∧ v3 ≤ 2147483647) → z_T (k s' v3) (P_X12_marksOf_309 r0)) : ∀ (F : Nat) (s : z_M) (a3 : Int) (a5 : Int), z_CI s → z_Fr R_X12_marksOf_309 r0 s → (-2147483648 ≤ a3 ∧ a3 ≤ 2147483647) → (0 ≤ a5 ∧ a5 ≤ 2) → (2147483647 - a5 < (F : Int)) → z_T (fX12_marksOf_L46 fu a2 a4 F s a3 a5 k) (P_X12_marksOf_309 r0) := by
  intro F
  induction F with
  | zero =>
    intro s a3 a5 c f b3 b5 hm
    have u44 := CI_b c (k := 316) (j := 0) bd_316_0
    exfalso; omega
  | succ F ih =>
    intro s a3 a5 c f b3 b5 hm
    have qf := z_Fr.eq (fun a b h => h) f
    subst qf
    refine T_of (fX12_marksOf_L46.eq_2 ..) ?_
    have u1 := CI_b c (k := 316) (j := 0) bd_316_0
    have t2 : r0 316 0 = r0 316 0 := f 316 0 (by exact not_false)
    refine T_ite (fun h3 => ?_) (fun h3 => ?_)
    · exact hk r0 a3 c f (by omega)
    · refine T_leq (fun x4 e5 => ?_)
      have w6 : -2147483648 ≤ x4 ∧ x4 ≤ 2147483647 := by rw [← e5]; exact z_i32b _
      refine T_leq (fun x7 e8 => ?_)
      first | (have w9 := z_wx e8 (by omega)) | (have w9 := z_wr e8)
      refine T_leq (fun x10 e11 => ?_)
      have w12 : -2147483648 ≤ x10 ∧ x10 ≤ 2147483647 := by rw [← e11]; exact z_i32b _
      refine T_ite (fun h13 => ?_) (fun h13 => ?_)
      · exact sj_X12_marksOf_309_J117 hfu r0 r0 c f a2 a3 a4 a5 (by omega) (by omega) (by omega) (by omega) (2147483647 - a5) (by omega) (fun s' v3 v5 c' f' w3 w5 pg => ih s' v3 v5 c' f' w3 w5 (by omega)) hk
      · refine T_leq (fun x14 e15 => ?_)
        first | (have w16 := z_wx e15 (by omega)) | (have w16 := z_wr e15)
        refine T_if1 (z_ixs (sh_L0 (by omega)) (by omega) (by omega) (by omega)) ?_
        refine T_leq (fun x17 e18 => ?_)
        have u19 := CI_w c (k := a4) (j := x14) (by rw [sh_L0 (by omega)]; decide)
        refine T_ite (fun h20 => ?_) (fun h20 => ?_)
        · refine T_leq (fun x21 e22 => ?_)
          have w23 : -2147483648 ≤ x21 ∧ x21 ≤ 2147483647 := by rw [← e22]; exact z_i32b _
          refine T_leq (fun x24 e25 => ?_)
          have w26 : -2147483648 ≤ x24 ∧ x24 ≤ 2147483647 := by rw [← e25]; exact z_i32b _
          refine T_leq (fun x27 e28 => ?_)
          first | (have w29 := z_wx e28 (by omega)) | (have w29 := z_wr e28)
          refine T_leq (fun x30 e31 => ?_)
          first | (have w32 := z_wx e31 (by omega)) | (have w32 := z_wr e31)
          refine T_if1 (z_ixs (sh_L0 (by omega)) (by omega) (by omega) (by omega)) ?_
          refine T_leq (fun x33 e34 => ?_)
          have u35 := CI_w c (k := a4) (j := x30) (by rw [sh_L0 (by omega)]; decide)
          refine T_ite (fun h36 => ?_) (fun h36 => ?_)
          · exact sj_X12_marksOf_309_J117 hfu r0 r0 c f a2 x24 a4 a5 (by omega) (by omega) (by omega) (by omega) (2147483647 - a5) (by omega) (fun s' v3 v5 c' f' w3 w5 pg => ih s' v3 v5 c' f' w3 w5 (by omega)) hk
          · refine T_leq (fun x37 e38 => ?_)
            have w39 : -2147483648 ≤ x37 ∧ x37 ≤ 2147483647 := by rw [← e38]; exact z_i32b _
            refine T_ite (fun h40 => ?_) (fun h40 => ?_)
            · exact sj_X12_marksOf_309_J117 hfu r0 r0 c f a2 x24 a4 a5 (by omega) (by omega) (by omega) (by omega) (2147483647 - a5) (by omega) (fun s' v3 v5 c' f' w3 w5 pg => ih s' v3 v5 c' f' w3 w5 (by omega)) hk
            · refine T_leq (fun x41 e42 => ?_)
              have w43 : -2147483648 ≤ x41 ∧ x41 ≤ 2147483647 := by rw [← e42]; exact z_i32b _
              exact sj_X12_marksOf_309_J117 hfu r0 r0 c f a2 x41 a4 a5 (by omega) (by omega) (by omega) (by omega) (2147483647 - a5) (by omega) (fun s' v3 v5 c' f' w3 w5 pg => ih s' v3 v5 c' f' w3 w5 (by omega)) hk
        · exact sj_X12_marksOf_309_J117 hfu r0 r0 c f a2 a3 a4 a5 (by omega) (by omega) (by omega) (by omega) (2147483647 - a5) (by omega) (fun s' v3 v5 c' f' w3 w5 pg => ih s' v3 v5 c' f' w3 w5 (by omega)) hk
theorem sf_X12_marksOf_309 {fu : Nat} (hfu : 8589934592 ≤ fu) (r0 : z_M) (c0 : z_CI r0) (a1 : Int) (b1 : 0 ≤ a1 ∧ a1 ≤ 199) (p0 : y_TA r0) (p1 : a1 < r0 316 0) : z_T (fX12_marksOf fu r0 309 a1) (P_X12_marksOf_309 r0) := by
  refine T_of (fX12_marksOf.eq_1 ..) ?_
  have u1 := CI_b c0 (k := 316) (j := 0) bd_316_0
  refine T_if1 (by decide +kernel) ?_
  refine T_let 375 (by decide +kernel) ?_
  refine T_if1 (z_ixl (n := 14) (by decide +kernel) (by omega) (by omega)) ?_
  refine T_let 376 (by decide +kernel) ?_
  refine T_if1 (z_ixl (n := 200) (by decide +kernel) (by omega) (by omega)) ?_
  refine T_leq (fun x2 e3 => ?_)
  have u4 := CI_b c0 (k := 376) (j := a1) (bdr_376 a1)
  refine T_if1 (by decide +kernel) ?_
  refine T_let 345 (by decide +kernel) ?_
  refine T_if1 (z_ixl (n := 14) (by decide +kernel) (by omega) (by omega)) ?_
  refine T_let 346 (by decide +kernel) ?_
  refine T_if1 (z_ixl (n := 200) (by decide +kernel) (by omega) (by omega)) ?_
  refine T_leq (fun x5 e6 => ?_)
  have u7 := CI_b c0 (k := 346) (j := a1) (bdr_346 a1)
  refine T_ite (fun h8 => ?_) (fun h8 => ?_)
  · refine T_if1 (by decide +kernel) ?_
    refine T_let 405 (by decide +kernel) ?_
    refine T_if1 (z_ixl (n := 14) (by decide +kernel) (by omega) (by omega)) ?_
    refine T_let 406 (by decide +kernel) ?_
    refine T_if1 (by decide +kernel) ?_
    refine T_let 360 (by decide +kernel) ?_
    refine T_if1 (z_ixl (n := 14) (by decide +kernel) (by omega) (by omega)) ?_
    refine T_let 361 (by decide +kernel) ?_
    refine T_if1 (z_ixl (n := 200) (by decide +kernel) (by omega) (by omega)) ?_
    refine T_leq (fun x9 e10 => ?_)
    have u11 := CI_b c0 (k := 361) (j := a1) (bdr_361 a1)
    have n12 := y_TA.at0 p0 (i := a1) (by omega) (by omega)
    refine T_if1 (z_ixl (n := 200) (by decide +kernel) (by omega) (by omega)) ?_
    refine T_let (407 + x9) (gr_406 x9) ?_
    refine sl_X12_marksOf_309_L46 hfu r0 x2 (407 + x9) (by omega) (by omega) (fun s13 y16 c14 f15 b17 => ?_) fu r0 x2 0 c0 z_Fr.rf (by omega) (by omega) (by omega)
    have q18 := z_Fr.eq (fun a b h => h) f15
    subst q18
    have u19 := CI_b c14 (k := 316) (j := 0) bd_316_0
    have t20 : r0 316 0 = r0 316 0 := f15 316 0 (by exact not_false)
    exact T_ret ⟨c14, f15, ⟨y16, rfl, by omega, by omega⟩⟩
  · exact T_ret ⟨c0, z_Fr.rf, ⟨x2, rfl, by omega, by omega⟩⟩
abbrev R_X12_sign_309 (a b : Int) : Prop := (310 ≤ a ∧ a ≤ 310) ∨ (3224 ≤ a ∧ a ≤ 3651) ∨ (a = 309 ∧ (b = 0 ∨ b = 35 ∨ b = 36 ∨ b = 38 ∨ b = 39 ∨ b = 43 ∨ b = 44 ∨ b = 58))
abbrev P_X12_sign_309 (r0 : z_M) : z_V → z_M → Prop := fun v s' => z_CI s' ∧ z_Fr R_X12_sign_309 r0 s' ∧ (y_TA s') ∧ (y_DD s') ∧ (y_B s') ∧ (y_K s') ∧ (∃ x, v = vI x ∧ -2147483648 ≤ x ∧ x ≤ 2147483647)
theorem rs_X12_bad_309__X12_sign_309 (a b : Int) (h : R_X12_bad_309 a b) : R_X12_sign_309 a b := (h.elim (fun h => (Or.inl (⟨by omega, by omega⟩))) (fun h => (Or.inr (Or.inr (⟨h.1, by omega⟩)))))
theorem sj_X12_sign_309_J61 {fu : Nat} (hfu : 8589934592 ≤ fu) (r0 s : z_M) (c : z_CI s) (f : z_Fr R_X12_sign_309 r0 s) (p0 : y_TA s) (p1 : y_DD s) (p2 : y_B s) (p3 : y_K s) : z_T (fX12_sign_J61 fu s) (P_X12_sign_309 r0) := by
  refine T_of (fX12_sign_J61.eq_1 ..) ?_
  have u1 := CI_b c (k := 309) (j := 20) bd_309_20
  have u2 := CI_b c (k := 309) (j := 36) bd_309_36
  have u3 := CI_b c (k := 309) (j := 43) bd_309_43
  have u4 := CI_b c (k := 309) (j := 44) bd_309_44
  have u5 := CI_b c (k := 309) (j := 58) bd_309_58
  have u6 := CI_b c (k := 316) (j := 0) bd_316_0
  have u7 := CI_b c (k := 329) (j := 0) bd_329_0
  have u8 := CI_b c (k := 329) (j := 1) bd_329_1
  have t9 : s 309 20 = r0 309 20 := f 309 20 (by decide)
  have t10 : s 316 0 = r0 316 0 := f 316 0 (by decide)
  have t11 : s 329 0 = r0 329 0 := f 329 0 (by decide)
  have t12 : s 329 1 = r0 329 1 := f 329 1 (by decide)
  exact T_ret ⟨c, f, p0, (by first | exact p1 | exact y_DD.z (by omega) (by omega)), p2, (by first | exact p3 | exact y_K.b0 (by omega) | exact y_K.k0 (by omega) | exact y_K.bk (by omega)), ⟨0, rfl, by omega, by omega⟩⟩
theorem rs_X12_laysAll_309__X12_sign_309 (a b : Int) (h : R_X12_laysAll_309 a b) : R_X12_sign_309 a b := (h.elim (fun h => (Or.inr (Or.inl (⟨by omega, by omega⟩)))) (fun h => (Or.inr (Or.inr (⟨h.1, by omega⟩)))))
theorem sj_X12_sign_309_J152 {fu : Nat} (hfu : 8589934592 ≤ fu) (r0 s : z_M) (c : z_CI s) (f : z_Fr R_X12_sign_309 r0 s) (t0 : Int) (d0 : 0 ≤ t0 ∧ t0 ≤ 1) (p0 : y_TA s) (p1 : y_DD s) (p2 : y_B s) (p3 : y_K s) : z_T (fX12_sign_J152 fu s t0) (P_X12_sign_309 r0) := by
  refine T_of (fX12_sign_J152.eq_1 ..) ?_
  have u1 := CI_b c (k := 309) (j := 20) bd_309_20
  have u2 := CI_b c (k := 309) (j := 36) bd_309_36
  have u3 := CI_b c (k := 309) (j := 43) bd_309_43
  have u4 := CI_b c (k := 309) (j := 44) bd_309_44
  have u5 := CI_b c (k := 309) (j := 58) bd_309_58
  have u6 := CI_b c (k := 316) (j := 0) bd_316_0
  have u7 := CI_b c (k := 329) (j := 0) bd_329_0
  have u8 := CI_b c (k := 329) (j := 1) bd_329_1
  have t9 : s 309 20 = r0 309 20 := f 309 20 (by decide)
  have t10 : s 316 0 = r0 316 0 := f 316 0 (by decide)
  have t11 : s 329 0 = r0 329 0 := f 329 0 (by decide)
  have t12 : s 329 1 = r0 329 1 := f 329 1 (by decide)
  exact T_ret ⟨c, f, p0, (by first | exact p1 | exact y_DD.z (by omega) (by omega)), p2, (by first | exact p3 | exact y_K.b0 (by omega) | exact y_K.k0 (by omega) | exact y_K.bk (by omega)), ⟨t0, rfl, by omega, by omega⟩⟩
set_option maxHeartbeats 4000000 in
theorem sj_X12_sign_309_J53 {fu : Nat} (hfu : 8589934592 ≤ fu) (r0 s : z_M) (c : z_CI s) (f : z_Fr R_X12_sign_309 r0 s) (a1 : Int) (a2 : Int) (t1 : Int) (b1 : -2147483648 ≤ a1 ∧ a1 ≤ 2147483647) (b2 : -2147483648 ≤ a2 ∧ a2 ≤ 2147483647) (d1 : 0 ≤ t1 ∧ t1 ≤ 1) (p0 : 0 ≤ a1 ∧ a1 < s 316 0) (p1 : t1 = 1 ∨ (0 ≤ a2 ∧ a2 ≤ 6)) (p2 : y_TA s) (p3 : y_DD s) (p4 : y_B s) (p5 : y_K s) : z_T (fX12_sign_J53 fu s 309 a1 a2 309 t1) (P_X12_sign_309 r0) := by
  refine T_of (fX12_sign_J53.eq_1 ..) ?_
  have u1 := CI_b c (k := 309) (j := 20) bd_309_20
  have u2 := CI_b c (k := 309) (j := 36) bd_309_36
  have u3 := CI_b c (k := 309) (j := 43) bd_309_43
  have u4 := CI_b c (k := 309) (j := 44) bd_309_44
  have u5 := CI_b c (k := 309) (j := 58) bd_309_58
  have u6 := CI_b c (k := 316) (j := 0) bd_316_0
  have u7 := CI_b c (k := 329) (j := 0) bd_329_0
  have u8 := CI_b c (k := 329) (j := 1) bd_329_1
  have t9 : s 309 20 = r0 309 20 := f 309 20 (by decide)
  have t10 : s 316 0 = r0 316 0 := f 316 0 (by decide)
  have t11 : s 329 0 = r0 329 0 := f 329 0 (by decide)
  have t12 : s 329 1 = r0 329 1 := f 329 1 (by decide)
  refine T_if1 (by decide +kernel) ?_
  refine T_useI (sf_X12_bad_309 hfu s c t1 2 1 (by omega) (by omega) (by omega) (by omega)) (fun v18 s13 hq => ?_)
  obtain ⟨c14, f15, o19, ⟨x17, rfl, b20, b21, o22, o23⟩⟩ := hq
  refine T_vI ?_
  have f16 := z_Fr.tr (R := R_X12_sign_309) f f15 rs_X12_bad_309__X12_sign_309
  have t24 : s13 309 20 = s 309 20 := f15 309 20 (by decide)
  have t25 : s13 309 36 = s 309 36 := f15 309 36 (by decide)
  have t26 : s13 309 43 = s 309 43 := f15 309 43 (by decide)
  have t27 : s13 309 44 = s 309 44 := f15 309 44 (by decide)
  have t28 : s13 309 58 = s 309 58 := f15 309 58 (by decide)
  have t29 : s13 316 0 = s 316 0 := f15 316 0 (by decide)
  have t30 : s13 329 0 = s 329 0 := f15 329 0 (by decide)
  have t31 : s13 329 1 = s 329 1 := f15 329 1 (by decide)
  have r32 := y_TA.fr p2 (fun a b h => f15 a b (nq_X12_bad_309__316 a b h)) (fun a b h => f15 a b (nq_X12_bad_309__346 a b h)) (fun a b h => f15 a b (nq_X12_bad_309__361 a b h))
  have r33 := y_DD.fr p3 (f15 329 0 (by decide)) (f15 329 1 (by decide)) (fun b => f15 359 b (nr_X12_bad_309__359 b)) (fun b => f15 374 b (nr_X12_bad_309__374 b))
  have r34 := y_B.fr p4 (f15 309 20 (by decide)) (f15 316 0 (by decide)) (fun b => f15 3220 b (nr_X12_bad_309__3220 b)) (fun b => f15 3221 b (nr_X12_bad_309__3221 b)) (fun b => f15 3222 b (nr_X12_bad_309__3222 b)) (fun b => f15 361 b (nr_X12_bad_309__361 b))
  have r35 := y_K.fr p5 (by omega) (by omega) (f15 309 44 (by decide)) (f15 309 20 (by decide)) (f15 309 58 (by decide)) (fun b => f15 3438 b (nr_X12_bad_309__3438 b)) (fun b => f15 3220 b (nr_X12_bad_309__3220 b)) (fun a b h => f15 a b (nq_X12_bad_309__3452 a b h))
  refine T_ite (fun h36 => ?_) (fun h36 => ?_)
  · refine T_if1 (by decide +kernel) ?_
    refine T_useN (sf_X12_laysAll_309 hfu s13 c14 r34 (by first | exact r35 | exact y_K.b0 (by omega) | exact y_K.k0 (by omega) | exact y_K.bk (by omega))) (fun v42 s37 hq => ?_)
    obtain ⟨c38, f39, o43, o44, o45, o46, o47, o48, rfl⟩ := hq
    refine T_vN ?_
    have f40 := z_Fr.tr (R := R_X12_sign_309) f16 f39 rs_X12_laysAll_309__X12_sign_309
    have t51 : s37 309 20 = s 309 20 := (f39 309 20 (by decide)).trans t24
    have t52 : s37 316 0 = s 316 0 := (f39 316 0 (by decide)).trans t29
    have t53 : s37 329 0 = s 329 0 := (f39 329 0 (by decide)).trans t30
    have t54 : s37 329 1 = s 329 1 := (f39 329 1 (by decide)).trans t31
    have u55 := CI_b c38 (k := 309) (j := 36) bd_309_36
    have u56 := CI_b c38 (k := 309) (j := 43) bd_309_43
    have u57 := CI_b c38 (k := 309) (j := 44) bd_309_44
    have u58 := CI_b c38 (k := 309) (j := 58) bd_309_58
    have r59 := y_TA.fr r32 (fun a b h => f39 a b (nq_X12_laysAll_309__316 a b h)) (fun a b h => f39 a b (nq_X12_laysAll_309__346 a b h)) (fun a b h => f39 a b (nq_X12_laysAll_309__361 a b h))
    have r60 := y_DD.fr r33 (f39 329 0 (by decide)) (f39 329 1 (by decide)) (fun b => f39 359 b (nr_X12_laysAll_309__359 b)) (fun b => f39 374 b (nr_X12_laysAll_309__374 b))
    have r61 := y_B.fr r34 (f39 309 20 (by decide)) (f39 316 0 (by decide)) (fun b => f39 3220 b (nr_X12_laysAll_309__3220 b)) (fun b => f39 3221 b (nr_X12_laysAll_309__3221 b)) (fun b => f39 3222 b (nr_X12_laysAll_309__3222 b)) (fun b => f39 361 b (nr_X12_laysAll_309__361 b))
    clear t24
    clear t29
    clear t30
    clear t31
    refine T_ite (fun h62 => ?_) (fun h62 => ?_)
    · refine T_if1 (by decide +kernel) ?_
      refine T_let 330 (by decide +kernel) ?_
      refine T_if1 (z_ixl (n := 14) (by decide +kernel) (by omega) (by omega)) ?_
      refine T_let 331 (by decide +kernel) ?_
      refine T_if1 (z_ixl (n := 200) (by decide +kernel) (by omega) (by omega)) ?_
      refine T_leq (fun x63 e64 => ?_)
      have u65 := CI_b c38 (k := 331) (j := a1) (bdr_331 a1)
      exact T_ret ⟨c38, f40, r59, (by first | exact r60 | exact y_DD.z (by omega) (by omega)), r61, (by first | exact o43 | exact y_K.b0 (by omega) | exact y_K.k0 (by omega) | exact y_K.bk (by omega) | exact y_K.mk o44 (by omega) o45), ⟨x63, rfl, by omega, by omega⟩⟩
    · refine T_ite (fun h66 => ?_) (fun h66 => ?_)
      · refine T_if1 (by decide +kernel) ?_
        refine T_let 3223 (by decide +kernel) ?_
        refine T_if1 (z_ixl (n := 200) (by decide +kernel) (by omega) (by omega)) ?_
        refine T_leq (fun x67 e68 => ?_)
        have u69 := CI_b c38 (k := 3223) (j := a1) (bdr_3223 a1)
        exact T_ret ⟨c38, f40, r59, (by first | exact r60 | exact y_DD.z (by omega) (by omega)), r61, (by first | exact o43 | exact y_K.b0 (by omega) | exact y_K.k0 (by omega) | exact y_K.bk (by omega) | exact y_K.mk o44 (by omega) o45), ⟨x67, rfl, by omega, by omega⟩⟩
      · refine T_ite (fun h70 => ?_) (fun h70 => ?_)
        · refine T_if1 (by decide +kernel) ?_
          refine T_let 3441 (by decide +kernel) ?_
          refine T_if1 (by decide +kernel) ?_
          refine T_let 3223 (by decide +kernel) ?_
          refine T_if1 (z_ixl (n := 200) (by decide +kernel) (by omega) (by omega)) ?_
          refine T_leq (fun x71 e72 => ?_)
          have u73 := CI_b c38 (k := 3223) (j := a1) (bdr_3223 a1)
          refine T_if1 (z_ixl (n := 200) (by decide +kernel) (by omega) (by omega)) ?_
          refine T_leq (fun x74 e75 => ?_)
          have u76 := CI_b c38 (k := 3441) (j := x71) (bdr_3441 x71)
          exact T_ret ⟨c38, f40, r59, (by first | exact r60 | exact y_DD.z (by omega) (by omega)), r61, (by first | exact o43 | exact y_K.b0 (by omega) | exact y_K.k0 (by omega) | exact y_K.bk (by omega) | exact y_K.mk o44 (by omega) o45), ⟨x74, rfl, by omega, by omega⟩⟩
        · refine T_ite (fun h77 => ?_) (fun h77 => ?_)
          · refine T_if1 (by decide +kernel) ?_
            refine T_let 3443 (by decide +kernel) ?_
            refine T_if1 (z_ixl (n := 200) (by decide +kernel) (by omega) (by omega)) ?_
            refine T_leq (fun x78 e79 => ?_)
            have u80 := CI_b c38 (k := 3443) (j := a1) (bdr_3443 a1)
            exact T_ret ⟨c38, f40, r59, (by first | exact r60 | exact y_DD.z (by omega) (by omega)), r61, (by first | exact o43 | exact y_K.b0 (by omega) | exact y_K.k0 (by omega) | exact y_K.bk (by omega) | exact y_K.mk o44 (by omega) o45), ⟨x78, rfl, by omega, by omega⟩⟩
          · refine T_ite (fun h81 => ?_) (fun h81 => ?_)
            · refine T_if1 (by decide +kernel) ?_
              refine T_useI (sf_X12_isTurned_309 hfu s37 c38 a1 (by omega)) (fun v87 s82 hq => ?_)
              obtain ⟨c83, f84, ⟨x86, rfl, b88, b89⟩⟩ := hq
              refine T_vI ?_
              have q90 := z_Fr.eq (fun a b h => h) f84
              subst q90
              refine T_ite (fun h91 => ?_) (fun h91 => ?_)
              · exact sj_X12_sign_309_J152 hfu r0 s37 c38 f40 0 (by omega) r59 (by first | exact r60 | exact y_DD.z (by omega) (by omega)) r61 (by first | exact o43 | exact y_K.b0 (by omega) | exact y_K.k0 (by omega) | exact y_K.bk (by omega) | exact y_K.mk o44 (by omega) o45)
              · exact sj_X12_sign_309_J152 hfu r0 s37 c38 f40 1 (by omega) r59 (by first | exact r60 | exact y_DD.z (by omega) (by omega)) r61 (by first | exact o43 | exact y_K.b0 (by omega) | exact y_K.k0 (by omega) | exact y_K.bk (by omega) | exact y_K.mk o44 (by omega) o45)
            · refine T_if1 (by decide +kernel) ?_
              refine T_useI (sf_X12_marksOf_309 hfu s37 c38 a1 (by omega) r59 (by omega)) (fun v97 s92 hq => ?_)
              obtain ⟨c93, f94, ⟨x96, rfl, b98, b99⟩⟩ := hq
              refine T_vI ?_
              have q100 := z_Fr.eq (fun a b h => h) f94
              subst q100
              refine T_leq (fun x101 e102 => ?_)
              first | (have w103 := z_wx e102 (by omega)) | (have w103 := z_wr e102)
              refine T_leq (fun x104 e105 => ?_)
              have w106 : -2147483648 ≤ x104 ∧ x104 ≤ 2147483647 := by rw [← e105]; exact z_i32b _
              refine T_leq (fun x107 e108 => ?_)
              have w109 : -2147483648 ≤ x107 ∧ x107 ≤ 2147483647 := by rw [← e108]; exact z_i32b _
              exact T_ret ⟨c38, f40, r59, (by first | exact r60 | exact y_DD.z (by omega) (by omega)), r61, (by first | exact o43 | exact y_K.b0 (by omega) | exact y_K.k0 (by omega) | exact y_K.bk (by omega) | exact y_K.mk o44 (by omega) o45), ⟨x107, rfl, by omega, by omega⟩⟩
  · exact sj_X12_sign_309_J61 hfu r0 s13 c14 f16 r32 (by first | exact r33 | exact y_DD.z (by omega) (by omega)) r34 (by first | exact r35 | exact y_K.b0 (by omega) | exact y_K.k0 (by omega) | exact y_K.bk (by omega))
theorem sj_X12_sign_309_J29 {fu : Nat} (hfu : 8589934592 ≤ fu) (r0 s : z_M) (c : z_CI s) (f : z_Fr R_X12_sign_309 r0 s) (a1 : Int) (a2 : Int) (t1 : Int) (b1 : -2147483648 ≤ a1 ∧ a1 ≤ 2147483647) (b2 : -2147483648 ≤ a2 ∧ a2 ≤ 2147483647) (d1 : 0 ≤ t1 ∧ t1 ≤ 1) (p0 : t1 = 1 ∨ (0 ≤ a1 ∧ a1 < s 316 0)) (p1 : y_TA s) (p2 : y_DD s) (p3 : y_B s) (p4 : y_K s) : z_T (fX12_sign_J29 fu s 309 a1 a2 309 t1) (P_X12_sign_309 r0) := by
  refine T_of (fX12_sign_J29.eq_1 ..) ?_
  have u1 := CI_b c (k := 309) (j := 20) bd_309_20
  have u2 := CI_b c (k := 309) (j := 36) bd_309_36
  have u3 := CI_b c (k := 309) (j := 43) bd_309_43
  have u4 := CI_b c (k := 309) (j := 44) bd_309_44
  have u5 := CI_b c (k := 309) (j := 58) bd_309_58
  have u6 := CI_b c (k := 316) (j := 0) bd_316_0
  have u7 := CI_b c (k := 329) (j := 0) bd_329_0
  have u8 := CI_b c (k := 329) (j := 1) bd_329_1
  have t9 : s 309 20 = r0 309 20 := f 309 20 (by decide)
  have t10 : s 316 0 = r0 316 0 := f 316 0 (by decide)
  have t11 : s 329 0 = r0 329 0 := f 329 0 (by decide)
  have t12 : s 329 1 = r0 329 1 := f 329 1 (by decide)
  refine T_if1 (by decide +kernel) ?_
  refine T_useI (sf_X12_bad_309 hfu s c t1 1 0 (by omega) (by omega) (by omega) (by omega)) (fun v18 s13 hq => ?_)
  obtain ⟨c14, f15, o19, ⟨x17, rfl, b20, b21, o22, o23⟩⟩ := hq
  refine T_vI ?_
  have f16 := z_Fr.tr (R := R_X12_sign_309) f f15 rs_X12_bad_309__X12_sign_309
  have t24 : s13 309 20 = s 309 20 := f15 309 20 (by decide)
  have t25 : s13 309 36 = s 309 36 := f15 309 36 (by decide)
  have t26 : s13 309 43 = s 309 43 := f15 309 43 (by decide)
  have t27 : s13 309 44 = s 309 44 := f15 309 44 (by decide)
  have t28 : s13 309 58 = s 309 58 := f15 309 58 (by decide)
  have t29 : s13 316 0 = s 316 0 := f15 316 0 (by decide)
  have t30 : s13 329 0 = s 329 0 := f15 329 0 (by decide)
  have t31 : s13 329 1 = s 329 1 := f15 329 1 (by decide)
  have r32 := y_TA.fr p1 (fun a b h => f15 a b (nq_X12_bad_309__316 a b h)) (fun a b h => f15 a b (nq_X12_bad_309__346 a b h)) (fun a b h => f15 a b (nq_X12_bad_309__361 a b h))
  have r33 := y_DD.fr p2 (f15 329 0 (by decide)) (f15 329 1 (by decide)) (fun b => f15 359 b (nr_X12_bad_309__359 b)) (fun b => f15 374 b (nr_X12_bad_309__374 b))
  have r34 := y_B.fr p3 (f15 309 20 (by decide)) (f15 316 0 (by decide)) (fun b => f15 3220 b (nr_X12_bad_309__3220 b)) (fun b => f15 3221 b (nr_X12_bad_309__3221 b)) (fun b => f15 3222 b (nr_X12_bad_309__3222 b)) (fun b => f15 361 b (nr_X12_bad_309__361 b))
  have r35 := y_K.fr p4 (by omega) (by omega) (f15 309 44 (by decide)) (f15 309 20 (by decide)) (f15 309 58 (by decide)) (fun b => f15 3438 b (nr_X12_bad_309__3438 b)) (fun b => f15 3220 b (nr_X12_bad_309__3220 b)) (fun a b h => f15 a b (nq_X12_bad_309__3452 a b h))
  refine T_ite (fun h36 => ?_) (fun h36 => ?_)
  · exact sj_X12_sign_309_J61 hfu r0 s13 c14 f16 r32 (by first | exact r33 | exact y_DD.z (by omega) (by omega)) r34 (by first | exact r35 | exact y_K.b0 (by omega) | exact y_K.k0 (by omega) | exact y_K.bk (by omega))
  · refine T_useI (sf_X12_in hfu s13 c14 a2 0 6 (by omega) (by omega) (by omega)) (fun v42 s37 hq => ?_)
    obtain ⟨c38, f39, ⟨x41, rfl, b43, b44, o45⟩⟩ := hq
    refine T_vI ?_
    have q46 := z_Fr.eq (fun a b h => h) f39
    subst q46
    refine T_ite (fun h47 => ?_) (fun h47 => ?_)
    · exact sj_X12_sign_309_J53 hfu r0 s13 c14 f16 a1 a2 0 (by omega) (by omega) (by omega) (by omega) (by omega) r32 (by first | exact r33 | exact y_DD.z (by omega) (by omega)) r34 (by first | exact r35 | exact y_K.b0 (by omega) | exact y_K.k0 (by omega) | exact y_K.bk (by omega))
    · exact sj_X12_sign_309_J53 hfu r0 s13 c14 f16 a1 a2 1 (by omega) (by omega) (by omega) (by omega) (by omega) r32 (by first | exact r33 | exact y_DD.z (by omega) (by omega)) r34 (by first | exact r35 | exact y_K.b0 (by omega) | exact y_K.k0 (by omega) | exact y_K.bk (by omega))
theorem sf_X12_sign_309 {fu : Nat} (hfu : 8589934592 ≤ fu) (r0 : z_M) (c0 : z_CI r0) (a1 : Int) (a2 : Int) (b1 : -2147483648 ≤ a1 ∧ a1 ≤ 2147483647) (b2 : -2147483648 ≤ a2 ∧ a2 ≤ 2147483647) (p0 : y_TA r0) (p1 : y_DD r0) (p2 : y_B r0) (p3 : y_K r0) : z_T (fX12_sign fu r0 309 a1 a2) (P_X12_sign_309 r0) := by
  refine T_of (fX12_sign.eq_1 ..) ?_
  have u1 := CI_b c0 (k := 309) (j := 20) bd_309_20
  have u2 := CI_b c0 (k := 309) (j := 36) bd_309_36
  have u3 := CI_b c0 (k := 309) (j := 43) bd_309_43
  have u4 := CI_b c0 (k := 309) (j := 44) bd_309_44
  have u5 := CI_b c0 (k := 309) (j := 58) bd_309_58
  have u6 := CI_b c0 (k := 316) (j := 0) bd_316_0
  have u7 := CI_b c0 (k := 329) (j := 0) bd_329_0
  have u8 := CI_b c0 (k := 329) (j := 1) bd_329_1
  refine T_if1 (by decide +kernel) ?_
  refine T_upg c0 bd_309_0 (by omega) (fun s9 c10 g12 g13 e14 => ?_)
  have f11 := z_Fr.upf (R := R_X12_sign_309) z_Fr.rf g12 g13 (Or.inr (Or.inr (⟨rfl, by decide⟩)))
  have t15 : s9 309 20 = r0 309 20 := g13 20 (by decide)
  have t16 : s9 309 36 = r0 309 36 := g13 36 (by decide)
  have t17 : s9 309 43 = r0 309 43 := g13 43 (by decide)
  have t18 : s9 309 44 = r0 309 44 := g13 44 (by decide)
  have t19 : s9 309 58 = r0 309 58 := g13 58 (by decide)
  have t20 : s9 316 0 = r0 316 0 := g12 316 0 (by decide)
  have t21 : s9 329 0 = r0 329 0 := g12 329 0 (by decide)
  have t22 : s9 329 1 = r0 329 1 := g12 329 1 (by decide)
  have r23 := y_TA.fr p0 (fun a b h => g12 a b (by omega)) (fun a b h => g12 a b (by omega)) (fun a b h => g12 a b (by omega))
  have r24 := y_DD.fr p1 (g12 329 0 (by decide)) (g12 329 1 (by decide)) (fun b => g12 359 b (by decide)) (fun b => g12 374 b (by decide))
  have r25 := y_B.fr p2 (g13 20 (by decide)) (g12 316 0 (by decide)) (fun b => g12 3220 b (by decide)) (fun b => g12 3221 b (by decide)) (fun b => g12 3222 b (by decide)) (fun b => g12 361 b (by decide))
  have r26 := y_K.fr p3 (by omega) (by omega) (g13 44 (by decide)) (g13 20 (by decide)) (g13 58 (by decide)) (fun b => g12 3438 b (by decide)) (fun b => g12 3220 b (by decide)) (fun a b h => g12 a b (by omega))
  refine T_if1 (by decide +kernel) ?_
  refine T_let 315 (by decide +kernel) ?_
  refine T_if1 (z_ixl (n := 14) (by decide +kernel) (by omega) (by omega)) ?_
  refine T_let 316 (by decide +kernel) ?_
  refine T_if1 (z_ixl (n := 3) (by decide +kernel) (by omega) (by omega)) ?_
  refine T_leq (fun x27 e28 => ?_)
  have u29 := CI_b c10 (k := 316) (j := 0) bd_316_0
  refine T_leq (fun x30 e31 => ?_)
  first | (have w32 := z_wx e31 (by omega)) | (have w32 := z_wr e31)
  refine T_useI (sf_X12_in hfu s9 c10 a1 0 x30 (by omega) (by omega) (by omega)) (fun v38 s33 hq => ?_)
  obtain ⟨c34, f35, ⟨x37, rfl, b39, b40, o41⟩⟩ := hq
  refine T_vI ?_
  have q42 := z_Fr.eq (fun a b h => h) f35
  subst q42
  refine T_ite (fun h43 => ?_) (fun h43 => ?_)
  · exact sj_X12_sign_309_J29 hfu r0 s9 c10 f11 a1 a2 0 (by omega) (by omega) (by omega) (by omega) r23 (by first | exact r24 | exact y_DD.z (by omega) (by omega)) r25 (by first | exact r26 | exact y_K.b0 (by omega) | exact y_K.k0 (by omega) | exact y_K.bk (by omega))
  · exact sj_X12_sign_309_J29 hfu r0 s9 c10 f11 a1 a2 1 (by omega) (by omega) (by omega) (by omega) r23 (by first | exact r24 | exact y_DD.z (by omega) (by omega)) r25 (by first | exact r26 | exact y_K.b0 (by omega) | exact y_K.k0 (by omega) | exact y_K.bk (by omega))
abbrev R_X12_marks_309 (a b : Int) : Prop := (310 ≤ a ∧ a ≤ 310) ∨ (a = 309 ∧ (b = 0))
abbrev P_X12_marks_309 (r0 : z_M) : z_V → z_M → Prop := fun v s' => z_CI s' ∧ z_Fr R_X12_marks_309 r0 s' ∧ (y_TA s') ∧ (y_DD s') ∧ (y_B s') ∧ (y_K s') ∧ (∃ x, v = vI x ∧ -2147483648 ≤ x ∧ x ≤ 2147483647)
theorem rs_X12_bad_309__X12_marks_309 (a b : Int) (h : R_X12_bad_309 a b) : R_X12_marks_309 a b := (h.elim (fun h => (Or.inl (⟨by omega, by omega⟩))) (fun h => (Or.inr (⟨h.1, by omega⟩))))
theorem sl_X12_marks_309_L34 {fu : Nat} (hfu : 8589934592 ≤ fu) (r0 : z_M) (a1 : Int) (b1 : -2147483648 ≤ a1 ∧ a1 ≤ 2147483647) {k : z_M → Int → z_O} (hk : ∀ (s' : z_M) (v2 : Int), z_CI s' → z_Fr R_X12_marks_309 r0 s' → (-2147483648 ≤ v2 ∧ v2 ≤ 2147483647) → (y_TA s') → (y_DD s') → (y_B s') → (y_K s') → z_T (k s' v2) (P_X12_marks_309 r0)) : ∀ (F : Nat) (s : z_M) (a2 : Int) (a3 : Int), z_CI s → z_Fr R_X12_marks_309 r0 s → (-2147483648 ≤ a2 ∧ a2 ≤ 2147483647) → (0 ≤ a3 ∧ a3 ≤ 200) → (y_TA s) → (y_DD s) → (y_B s) → (y_K s) → (2147483647 - a3 < (F : Int)) → z_T (fX12_marks_L34 fu 309 a1 F s a2 a3 k) (P_X12_marks_309 r0) := by
  intro F
  induction F with
  | zero =>
    intro s a2 a3 c f b2 b3 i0 i1 i2 i3 hm
    have u42 := CI_b c (k := 309) (j := 20) bd_309_20
    have u43 := CI_b c (k := 309) (j := 36) bd_309_36
    have u44 := CI_b c (k := 309) (j := 43) bd_309_43
    have u45 := CI_b c (k := 309) (j := 44) bd_309_44
    have u46 := CI_b c (k := 309) (j := 58) bd_309_58
    have u47 := CI_b c (k := 316) (j := 0) bd_316_0
    have u48 := CI_b c (k := 329) (j := 0) bd_329_0
    have u49 := CI_b c (k := 329) (j := 1) bd_329_1
    exfalso; omega
  | succ F ih =>
    intro s a2 a3 c f b2 b3 i0 i1 i2 i3 hm
    refine T_of (fX12_marks_L34.eq_2 ..) ?_
    have u1 := CI_b c (k := 309) (j := 20) bd_309_20
    have u2 := CI_b c (k := 309) (j := 36) bd_309_36
    have u3 := CI_b c (k := 309) (j := 43) bd_309_43
    have u4 := CI_b c (k := 309) (j := 44) bd_309_44
    have u5 := CI_b c (k := 309) (j := 58) bd_309_58
    have u6 := CI_b c (k := 316) (j := 0) bd_316_0
    have u7 := CI_b c (k := 329) (j := 0) bd_329_0
    have u8 := CI_b c (k := 329) (j := 1) bd_329_1
    have t9 : s 309 20 = r0 309 20 := f 309 20 (by decide)
    have t10 : s 309 36 = r0 309 36 := f 309 36 (by decide)
    have t11 : s 309 43 = r0 309 43 := f 309 43 (by decide)
    have t12 : s 309 44 = r0 309 44 := f 309 44 (by decide)
    have t13 : s 309 58 = r0 309 58 := f 309 58 (by decide)
    have t14 : s 316 0 = r0 316 0 := f 316 0 (by decide)
    have t15 : s 329 0 = r0 329 0 := f 329 0 (by decide)
    have t16 : s 329 1 = r0 329 1 := f 329 1 (by decide)
    refine T_if1 (by decide +kernel) ?_
    refine T_let 315 (by decide +kernel) ?_
    refine T_if1 (z_ixl (n := 14) (by decide +kernel) (by omega) (by omega)) ?_
    refine T_let 316 (by decide +kernel) ?_
    refine T_if1 (z_ixl (n := 3) (by decide +kernel) (by omega) (by omega)) ?_
    refine T_leq (fun x17 e18 => ?_)
    have u19 := CI_b c (k := 316) (j := 0) bd_316_0
    refine T_ite (fun h20 => ?_) (fun h20 => ?_)
    · exact hk s a2 c f (by omega) i0 (by first | exact i1 | exact y_DD.z (by omega) (by omega)) i2 (by first | exact i3 | exact y_K.b0 (by omega) | exact y_K.k0 (by omega) | exact y_K.bk (by omega))
    · refine T_if1 (by decide +kernel) ?_
      refine T_useI (sf_X12_marksOf_309 hfu s c a3 (by omega) i0 (by omega)) (fun v26 s21 hq => ?_)
      obtain ⟨c22, f23, ⟨x25, rfl, b27, b28⟩⟩ := hq
      refine T_vI ?_
      have q29 := z_Fr.eq (fun a b h => h) f23
      subst q29
      refine T_leq (fun x30 e31 => ?_)
      have w32 : -2147483648 ≤ x30 ∧ x30 ≤ 2147483647 := by rw [← e31]; exact z_i32b _
      refine T_leq (fun x33 e34 => ?_)
      have w35 : -2147483648 ≤ x33 ∧ x33 ≤ 2147483647 := by rw [← e34]; exact z_i32b _
      refine T_leq (fun x36 e37 => ?_)
      first | (have w38 := z_wx e37 (by omega)) | (have w38 := z_wr e37)
      refine T_leq (fun x39 e40 => ?_)
      first | (have w41 := z_wx e40 (by omega)) | (have w41 := z_wr e40)
      exact ih s x36 x39 c f (by omega) (by omega) i0 (by first | exact i1 | exact y_DD.z (by omega) (by omega)) i2 (by first | exact i3 | exact y_K.b0 (by omega) | exact y_K.k0 (by omega) | exact y_K.bk (by omega)) (by omega)
theorem sj_X12_marks_309_J20 {fu : Nat} (hfu : 8589934592 ≤ fu) (r0 s : z_M) (c : z_CI s) (f : z_Fr R_X12_marks_309 r0 s) (a1 : Int) (t1 : Int) (b1 : -2147483648 ≤ a1 ∧ a1 ≤ 2147483647) (d1 : 0 ≤ t1 ∧ t1 ≤ 1) (p0 : y_TA s) (p1 : y_DD s) (p2 : y_B s) (p3 : y_K s) : z_T (fX12_marks_J20 fu s 309 a1 309 t1) (P_X12_marks_309 r0) := by
  refine T_of (fX12_marks_J20.eq_1 ..) ?_
  have u1 := CI_b c (k := 309) (j := 20) bd_309_20
  have u2 := CI_b c (k := 309) (j := 36) bd_309_36
  have u3 := CI_b c (k := 309) (j := 43) bd_309_43
  have u4 := CI_b c (k := 309) (j := 44) bd_309_44
  have u5 := CI_b c (k := 309) (j := 58) bd_309_58
  have u6 := CI_b c (k := 316) (j := 0) bd_316_0
  have u7 := CI_b c (k := 329) (j := 0) bd_329_0
  have u8 := CI_b c (k := 329) (j := 1) bd_329_1
  have t9 : s 309 20 = r0 309 20 := f 309 20 (by decide)
  have t10 : s 309 36 = r0 309 36 := f 309 36 (by decide)
  have t11 : s 309 43 = r0 309 43 := f 309 43 (by decide)
  have t12 : s 309 44 = r0 309 44 := f 309 44 (by decide)
  have t13 : s 309 58 = r0 309 58 := f 309 58 (by decide)
  have t14 : s 316 0 = r0 316 0 := f 316 0 (by decide)
  have t15 : s 329 0 = r0 329 0 := f 329 0 (by decide)
  have t16 : s 329 1 = r0 329 1 := f 329 1 (by decide)
  refine T_if1 (by decide +kernel) ?_
  refine T_useI (sf_X12_bad_309 hfu s c t1 1 1 (by omega) (by omega) (by omega) (by omega)) (fun v22 s17 hq => ?_)
  obtain ⟨c18, f19, o23, ⟨x21, rfl, b24, b25, o26, o27⟩⟩ := hq
  refine T_vI ?_
  have f20 := z_Fr.tr (R := R_X12_marks_309) f f19 rs_X12_bad_309__X12_marks_309
  have t28 : s17 309 20 = s 309 20 := f19 309 20 (by decide)
  have t29 : s17 309 36 = s 309 36 := f19 309 36 (by decide)
  have t30 : s17 309 43 = s 309 43 := f19 309 43 (by decide)
  have t31 : s17 309 44 = s 309 44 := f19 309 44 (by decide)
  have t32 : s17 309 58 = s 309 58 := f19 309 58 (by decide)
  have t33 : s17 316 0 = s 316 0 := f19 316 0 (by decide)
  have t34 : s17 329 0 = s 329 0 := f19 329 0 (by decide)
  have t35 : s17 329 1 = s 329 1 := f19 329 1 (by decide)
  have r36 := y_TA.fr p0 (fun a b h => f19 a b (nq_X12_bad_309__316 a b h)) (fun a b h => f19 a b (nq_X12_bad_309__346 a b h)) (fun a b h => f19 a b (nq_X12_bad_309__361 a b h))
  have r37 := y_DD.fr p1 (f19 329 0 (by decide)) (f19 329 1 (by decide)) (fun b => f19 359 b (nr_X12_bad_309__359 b)) (fun b => f19 374 b (nr_X12_bad_309__374 b))
  have r38 := y_B.fr p2 (f19 309 20 (by decide)) (f19 316 0 (by decide)) (fun b => f19 3220 b (nr_X12_bad_309__3220 b)) (fun b => f19 3221 b (nr_X12_bad_309__3221 b)) (fun b => f19 3222 b (nr_X12_bad_309__3222 b)) (fun b => f19 361 b (nr_X12_bad_309__361 b))
  have r39 := y_K.fr p3 (by omega) (by omega) (f19 309 44 (by decide)) (f19 309 20 (by decide)) (f19 309 58 (by decide)) (fun b => f19 3438 b (nr_X12_bad_309__3438 b)) (fun b => f19 3220 b (nr_X12_bad_309__3220 b)) (fun a b h => f19 a b (nq_X12_bad_309__3452 a b h))
  refine T_ite (fun h40 => ?_) (fun h40 => ?_)
  · refine sl_X12_marks_309_L34 hfu r0 a1 (by omega) (fun s41 y44 c42 f43 b45 g46 g47 g48 g49 => ?_) fu s17 0 0 c18 f20 (by omega) (by omega) r36 (by first | exact r37 | exact y_DD.z (by omega) (by omega)) r38 (by first | exact r39 | exact y_K.b0 (by omega) | exact y_K.k0 (by omega) | exact y_K.bk (by omega)) (by omega)
    have u50 := CI_b c42 (k := 309) (j := 20) bd_309_20
    have u51 := CI_b c42 (k := 309) (j := 36) bd_309_36
    have u52 := CI_b c42 (k := 309) (j := 43) bd_309_43
    have u53 := CI_b c42 (k := 309) (j := 44) bd_309_44
    have u54 := CI_b c42 (k := 309) (j := 58) bd_309_58
    have u55 := CI_b c42 (k := 316) (j := 0) bd_316_0
    have u56 := CI_b c42 (k := 329) (j := 0) bd_329_0
    have u57 := CI_b c42 (k := 329) (j := 1) bd_329_1
    have t58 : s41 309 20 = r0 309 20 := f43 309 20 (by decide)
    have t59 : s41 309 36 = r0 309 36 := f43 309 36 (by decide)
    have t60 : s41 309 43 = r0 309 43 := f43 309 43 (by decide)
    have t61 : s41 309 44 = r0 309 44 := f43 309 44 (by decide)
    have t62 : s41 309 58 = r0 309 58 := f43 309 58 (by decide)
    have t63 : s41 316 0 = r0 316 0 := f43 316 0 (by decide)
    have t64 : s41 329 0 = r0 329 0 := f43 329 0 (by decide)
    have t65 : s41 329 1 = r0 329 1 := f43 329 1 (by decide)
    exact T_ret ⟨c42, f43, g46, (by first | exact g47 | exact y_DD.z (by omega) (by omega)), g48, (by first | exact g49 | exact y_K.b0 (by omega) | exact y_K.k0 (by omega) | exact y_K.bk (by omega)), ⟨y44, rfl, by omega, by omega⟩⟩
  · exact T_ret ⟨c18, f20, r36, (by first | exact r37 | exact y_DD.z (by omega) (by omega)), r38, (by first | exact r39 | exact y_K.b0 (by omega) | exact y_K.k0 (by omega) | exact y_K.bk (by omega)), ⟨0, rfl, by omega, by omega⟩⟩
theorem sf_X12_marks_309 {fu : Nat} (hfu : 8589934592 ≤ fu) (r0 : z_M) (c0 : z_CI r0) (a1 : Int) (b1 : -2147483648 ≤ a1 ∧ a1 ≤ 2147483647) (p0 : y_TA r0) (p1 : y_DD r0) (p2 : y_B r0) (p3 : y_K r0) : z_T (fX12_marks fu r0 309 a1) (P_X12_marks_309 r0) := by
  refine T_of (fX12_marks.eq_1 ..) ?_
  have u1 := CI_b c0 (k := 309) (j := 20) bd_309_20
  have u2 := CI_b c0 (k := 309) (j := 36) bd_309_36
  have u3 := CI_b c0 (k := 309) (j := 43) bd_309_43
  have u4 := CI_b c0 (k := 309) (j := 44) bd_309_44
  have u5 := CI_b c0 (k := 309) (j := 58) bd_309_58
  have u6 := CI_b c0 (k := 316) (j := 0) bd_316_0
  have u7 := CI_b c0 (k := 329) (j := 0) bd_329_0
  have u8 := CI_b c0 (k := 329) (j := 1) bd_329_1
  refine T_if1 (by decide +kernel) ?_
  refine T_upg c0 bd_309_0 (by omega) (fun s9 c10 g12 g13 e14 => ?_)
  have f11 := z_Fr.upf (R := R_X12_marks_309) z_Fr.rf g12 g13 (Or.inr (⟨rfl, by decide⟩))
  have t15 : s9 309 20 = r0 309 20 := g13 20 (by decide)
  have t16 : s9 309 36 = r0 309 36 := g13 36 (by decide)
  have t17 : s9 309 43 = r0 309 43 := g13 43 (by decide)
  have t18 : s9 309 44 = r0 309 44 := g13 44 (by decide)
  have t19 : s9 309 58 = r0 309 58 := g13 58 (by decide)
  have t20 : s9 316 0 = r0 316 0 := g12 316 0 (by decide)
  have t21 : s9 329 0 = r0 329 0 := g12 329 0 (by decide)
  have t22 : s9 329 1 = r0 329 1 := g12 329 1 (by decide)
  have r23 := y_TA.fr p0 (fun a b h => g12 a b (by omega)) (fun a b h => g12 a b (by omega)) (fun a b h => g12 a b (by omega))
  have r24 := y_DD.fr p1 (g12 329 0 (by decide)) (g12 329 1 (by decide)) (fun b => g12 359 b (by decide)) (fun b => g12 374 b (by decide))
  have r25 := y_B.fr p2 (g13 20 (by decide)) (g12 316 0 (by decide)) (fun b => g12 3220 b (by decide)) (fun b => g12 3221 b (by decide)) (fun b => g12 3222 b (by decide)) (fun b => g12 361 b (by decide))
  have r26 := y_K.fr p3 (by omega) (by omega) (g13 44 (by decide)) (g13 20 (by decide)) (g13 58 (by decide)) (fun b => g12 3438 b (by decide)) (fun b => g12 3220 b (by decide)) (fun a b h => g12 a b (by omega))
  refine T_useI (sf_X12_in hfu s9 c10 a1 0 1 (by omega) (by omega) (by omega)) (fun v32 s27 hq => ?_)
  obtain ⟨c28, f29, ⟨x31, rfl, b33, b34, o35⟩⟩ := hq
  refine T_vI ?_
  have q36 := z_Fr.eq (fun a b h => h) f29
  subst q36
  refine T_ite (fun h37 => ?_) (fun h37 => ?_)
  · exact sj_X12_marks_309_J20 hfu r0 s9 c10 f11 a1 0 (by omega) (by omega) r23 (by first | exact r24 | exact y_DD.z (by omega) (by omega)) r25 (by first | exact r26 | exact y_K.b0 (by omega) | exact y_K.k0 (by omega) | exact y_K.bk (by omega))
  · exact sj_X12_marks_309_J20 hfu r0 s9 c10 f11 a1 1 (by omega) (by omega) r23 (by first | exact r24 | exact y_DD.z (by omega) (by omega)) r25 (by first | exact r26 | exact y_K.b0 (by omega) | exact y_K.k0 (by omega) | exact y_K.bk (by omega))
abbrev R_X12_line_309 (a b : Int) : Prop := (310 ≤ a ∧ a ≤ 310) ∨ (3224 ≤ a ∧ a ≤ 3651) ∨ (a = 309 ∧ (b = 0 ∨ b = 35 ∨ b = 36 ∨ b = 38 ∨ b = 39 ∨ b = 43 ∨ b = 44 ∨ b = 58))
abbrev P_X12_line_309 (r0 : z_M) : z_V → z_M → Prop := fun v s' => z_CI s' ∧ z_Fr R_X12_line_309 r0 s' ∧ (y_TA s') ∧ (y_DD s') ∧ (y_B s') ∧ (y_K s') ∧ (∃ x, v = vI x ∧ -2147483648 ≤ x ∧ x ≤ 2147483647)
theorem rs_X12_laysAll_309__X12_line_309 (a b : Int) (h : R_X12_laysAll_309 a b) : R_X12_line_309 a b := (h.elim (fun h => (Or.inr (Or.inl (⟨by omega, by omega⟩)))) (fun h => (Or.inr (Or.inr (⟨h.1, by omega⟩)))))
theorem rs_X12_bad_309__X12_line_309 (a b : Int) (h : R_X12_bad_309 a b) : R_X12_line_309 a b := (h.elim (fun h => (Or.inl (⟨by omega, by omega⟩))) (fun h => (Or.inr (Or.inr (⟨h.1, by omega⟩)))))
theorem sj_X12_line_309_J61 {fu : Nat} (hfu : 8589934592 ≤ fu) (r0 s : z_M) (c : z_CI s) (f : z_Fr R_X12_line_309 r0 s) (p0 : y_TA s) (p1 : y_DD s) (p2 : y_B s) (p3 : y_K s) : z_T (fX12_line_J61 fu s) (P_X12_line_309 r0) := by
  refine T_of (fX12_line_J61.eq_1 ..) ?_
  have u1 := CI_b c (k := 309) (j := 20) bd_309_20
  have u2 := CI_b c (k := 309) (j := 36) bd_309_36
  have u3 := CI_b c (k := 309) (j := 43) bd_309_43
  have u4 := CI_b c (k := 309) (j := 44) bd_309_44
  have u5 := CI_b c (k := 309) (j := 58) bd_309_58
  have u6 := CI_b c (k := 316) (j := 0) bd_316_0
  have u7 := CI_b c (k := 329) (j := 0) bd_329_0
  have u8 := CI_b c (k := 329) (j := 1) bd_329_1
  have t9 : s 309 20 = r0 309 20 := f 309 20 (by decide)
  have t10 : s 316 0 = r0 316 0 := f 316 0 (by decide)
  have t11 : s 329 0 = r0 329 0 := f 329 0 (by decide)
  have t12 : s 329 1 = r0 329 1 := f 329 1 (by decide)
  exact T_ret ⟨c, f, p0, (by first | exact p1 | exact y_DD.z (by omega) (by omega)), p2, (by first | exact p3 | exact y_K.b0 (by omega) | exact y_K.k0 (by omega) | exact y_K.bk (by omega)), ⟨0, rfl, by omega, by omega⟩⟩
set_option maxHeartbeats 4000000 in
theorem sj_X12_line_309_J53 {fu : Nat} (hfu : 8589934592 ≤ fu) (r0 s : z_M) (c : z_CI s) (f : z_Fr R_X12_line_309 r0 s) (a1 : Int) (a2 : Int) (t1 : Int) (b1 : -2147483648 ≤ a1 ∧ a1 ≤ 2147483647) (b2 : -2147483648 ≤ a2 ∧ a2 ≤ 2147483647) (d1 : 0 ≤ t1 ∧ t1 ≤ 1) (p0 : 0 ≤ a1 ∧ a1 < s 309 44) (p1 : t1 = 1 ∨ (0 ≤ a2 ∧ a2 ≤ 7)) (p2 : y_TA s) (p3 : y_DD s) (p4 : y_B s) (p5 : y_K s) : z_T (fX12_line_J53 fu s 309 a1 a2 309 t1) (P_X12_line_309 r0) := by
  refine T_of (fX12_line_J53.eq_1 ..) ?_
  have u1 := CI_b c (k := 309) (j := 20) bd_309_20
  have u2 := CI_b c (k := 309) (j := 36) bd_309_36
  have u3 := CI_b c (k := 309) (j := 43) bd_309_43
  have u4 := CI_b c (k := 309) (j := 44) bd_309_44
  have u5 := CI_b c (k := 309) (j := 58) bd_309_58
  have u6 := CI_b c (k := 316) (j := 0) bd_316_0
  have u7 := CI_b c (k := 329) (j := 0) bd_329_0
  have u8 := CI_b c (k := 329) (j := 1) bd_329_1
  have t9 : s 309 20 = r0 309 20 := f 309 20 (by decide)
  have t10 : s 316 0 = r0 316 0 := f 316 0 (by decide)
  have t11 : s 329 0 = r0 329 0 := f 329 0 (by decide)
  have t12 : s 329 1 = r0 329 1 := f 329 1 (by decide)
  refine T_if1 (by decide +kernel) ?_
  refine T_useI (sf_X12_bad_309 hfu s c t1 2 1 (by omega) (by omega) (by omega) (by omega)) (fun v18 s13 hq => ?_)
  obtain ⟨c14, f15, o19, ⟨x17, rfl, b20, b21, o22, o23⟩⟩ := hq
  refine T_vI ?_
  have f16 := z_Fr.tr (R := R_X12_line_309) f f15 rs_X12_bad_309__X12_line_309
  have t24 : s13 309 20 = s 309 20 := f15 309 20 (by decide)
  have t25 : s13 309 36 = s 309 36 := f15 309 36 (by decide)
  have t26 : s13 309 43 = s 309 43 := f15 309 43 (by decide)
  have t27 : s13 309 44 = s 309 44 := f15 309 44 (by decide)
  have t28 : s13 309 58 = s 309 58 := f15 309 58 (by decide)
  have t29 : s13 316 0 = s 316 0 := f15 316 0 (by decide)
  have t30 : s13 329 0 = s 329 0 := f15 329 0 (by decide)
  have t31 : s13 329 1 = s 329 1 := f15 329 1 (by decide)
  have r32 := y_TA.fr p2 (fun a b h => f15 a b (nq_X12_bad_309__316 a b h)) (fun a b h => f15 a b (nq_X12_bad_309__346 a b h)) (fun a b h => f15 a b (nq_X12_bad_309__361 a b h))
  have r33 := y_DD.fr p3 (f15 329 0 (by decide)) (f15 329 1 (by decide)) (fun b => f15 359 b (nr_X12_bad_309__359 b)) (fun b => f15 374 b (nr_X12_bad_309__374 b))
  have r34 := y_B.fr p4 (f15 309 20 (by decide)) (f15 316 0 (by decide)) (fun b => f15 3220 b (nr_X12_bad_309__3220 b)) (fun b => f15 3221 b (nr_X12_bad_309__3221 b)) (fun b => f15 3222 b (nr_X12_bad_309__3222 b)) (fun b => f15 361 b (nr_X12_bad_309__361 b))
  have r35 := y_K.fr p5 (by omega) (by omega) (f15 309 44 (by decide)) (f15 309 20 (by decide)) (f15 309 58 (by decide)) (fun b => f15 3438 b (nr_X12_bad_309__3438 b)) (fun b => f15 3220 b (nr_X12_bad_309__3220 b)) (fun a b h => f15 a b (nq_X12_bad_309__3452 a b h))
  refine T_ite (fun h36 => ?_) (fun h36 => ?_)
  · refine T_ite (fun h37 => ?_) (fun h37 => ?_)
    · refine T_if1 (by decide +kernel) ?_
      refine T_let 3438 (by decide +kernel) ?_
      refine T_if1 (z_ixl (n := 201) (by decide +kernel) (by omega) (by omega)) ?_
      refine T_leq (fun x38 e39 => ?_)
      have u40 := CI_b c14 (k := 3438) (j := a1) (bdr_3438 a1)
      exact T_ret ⟨c14, f16, r32, (by first | exact r33 | exact y_DD.z (by omega) (by omega)), r34, (by first | exact r35 | exact y_K.b0 (by omega) | exact y_K.k0 (by omega) | exact y_K.bk (by omega)), ⟨x38, rfl, by omega, by omega⟩⟩
    · refine T_ite (fun h41 => ?_) (fun h41 => ?_)
      · refine T_if1 (by decide +kernel) ?_
        refine T_let 3438 (by decide +kernel) ?_
        refine T_leq (fun x42 e43 => ?_)
        first | (have w44 := z_wx e43 (by omega)) | (have w44 := z_wr e43)
        refine T_if1 (z_ixl (n := 201) (by decide +kernel) (by omega) (by omega)) ?_
        refine T_leq (fun x45 e46 => ?_)
        have u47 := CI_b c14 (k := 3438) (j := x42) (bdr_3438 x42)
        refine T_if1 (by decide +kernel) ?_
        refine T_let 3438 (by decide +kernel) ?_
        refine T_if1 (z_ixl (n := 201) (by decide +kernel) (by omega) (by omega)) ?_
        refine T_leq (fun x48 e49 => ?_)
        have u50 := CI_b c14 (k := 3438) (j := a1) (bdr_3438 a1)
        refine T_leq (fun x51 e52 => ?_)
        first | (have w53 := z_wx e52 (by omega)) | (have w53 := z_wr e52)
        exact T_ret ⟨c14, f16, r32, (by first | exact r33 | exact y_DD.z (by omega) (by omega)), r34, (by first | exact r35 | exact y_K.b0 (by omega) | exact y_K.k0 (by omega) | exact y_K.bk (by omega)), ⟨x51, rfl, by omega, by omega⟩⟩
      · refine T_ite (fun h54 => ?_) (fun h54 => ?_)
        · refine T_if1 (by decide +kernel) ?_
          refine T_let 3446 (by decide +kernel) ?_
          refine T_if1 (z_ixl (n := 200) (by decide +kernel) (by omega) (by omega)) ?_
          refine T_leq (fun x55 e56 => ?_)
          have u57 := CI_b c14 (k := 3446) (j := a1) (bdr_3446 a1)
          exact T_ret ⟨c14, f16, r32, (by first | exact r33 | exact y_DD.z (by omega) (by omega)), r34, (by first | exact r35 | exact y_K.b0 (by omega) | exact y_K.k0 (by omega) | exact y_K.bk (by omega)), ⟨x55, rfl, by omega, by omega⟩⟩
        · refine T_ite (fun h58 => ?_) (fun h58 => ?_)
          · refine T_if1 (by decide +kernel) ?_
            refine T_let 312 (by decide +kernel) ?_
            refine T_if1 (z_ixl (n := 9) (by decide +kernel) (by omega) (by omega)) ?_
            refine T_leq (fun x59 e60 => ?_)
            have u61 := CI_b c14 (k := 312) (j := 0) (bdr_312 0)
            refine T_if1 (by decide +kernel) ?_
            refine T_let 3446 (by decide +kernel) ?_
            refine T_if1 (z_ixl (n := 200) (by decide +kernel) (by omega) (by omega)) ?_
            refine T_leq (fun x62 e63 => ?_)
            have u64 := CI_b c14 (k := 3446) (j := a1) (bdr_3446 a1)
            refine T_leq (fun x65 e66 => ?_)
            first | (have w67 := z_wx e66 (by omega)) | (have w67 := z_wr e66)
            exact T_ret ⟨c14, f16, r32, (by first | exact r33 | exact y_DD.z (by omega) (by omega)), r34, (by first | exact r35 | exact y_K.b0 (by omega) | exact y_K.k0 (by omega) | exact y_K.bk (by omega)), ⟨x65, rfl, by omega, by omega⟩⟩
          · refine T_ite (fun h68 => ?_) (fun h68 => ?_)
            · refine T_if1 (by decide +kernel) ?_
              refine T_let 3447 (by decide +kernel) ?_
              refine T_if1 (z_ixl (n := 200) (by decide +kernel) (by omega) (by omega)) ?_
              refine T_leq (fun x69 e70 => ?_)
              have u71 := CI_b c14 (k := 3447) (j := a1) (bdr_3447 a1)
              exact T_ret ⟨c14, f16, r32, (by first | exact r33 | exact y_DD.z (by omega) (by omega)), r34, (by first | exact r35 | exact y_K.b0 (by omega) | exact y_K.k0 (by omega) | exact y_K.bk (by omega)), ⟨x69, rfl, by omega, by omega⟩⟩
            · refine T_ite (fun h72 => ?_) (fun h72 => ?_)
              · refine T_if1 (by decide +kernel) ?_
                refine T_let 3448 (by decide +kernel) ?_
                refine T_if1 (z_ixl (n := 200) (by decide +kernel) (by omega) (by omega)) ?_
                refine T_leq (fun x73 e74 => ?_)
                have u75 := CI_b c14 (k := 3448) (j := a1) (bdr_3448 a1)
                exact T_ret ⟨c14, f16, r32, (by first | exact r33 | exact y_DD.z (by omega) (by omega)), r34, (by first | exact r35 | exact y_K.b0 (by omega) | exact y_K.k0 (by omega) | exact y_K.bk (by omega)), ⟨x73, rfl, by omega, by omega⟩⟩
              · refine T_ite (fun h76 => ?_) (fun h76 => ?_)
                · refine T_if1 (by decide +kernel) ?_
                  refine T_let 3449 (by decide +kernel) ?_
                  refine T_if1 (z_ixl (n := 200) (by decide +kernel) (by omega) (by omega)) ?_
                  refine T_leq (fun x77 e78 => ?_)
                  have u79 := CI_b c14 (k := 3449) (j := a1) (bdr_3449 a1)
                  exact T_ret ⟨c14, f16, r32, (by first | exact r33 | exact y_DD.z (by omega) (by omega)), r34, (by first | exact r35 | exact y_K.b0 (by omega) | exact y_K.k0 (by omega) | exact y_K.bk (by omega)), ⟨x77, rfl, by omega, by omega⟩⟩
                · refine T_if1 (by decide +kernel) ?_
                  refine T_let 3450 (by decide +kernel) ?_
                  refine T_if1 (z_ixl (n := 200) (by decide +kernel) (by omega) (by omega)) ?_
                  refine T_leq (fun x80 e81 => ?_)
                  have u82 := CI_b c14 (k := 3450) (j := a1) (bdr_3450 a1)
                  exact T_ret ⟨c14, f16, r32, (by first | exact r33 | exact y_DD.z (by omega) (by omega)), r34, (by first | exact r35 | exact y_K.b0 (by omega) | exact y_K.k0 (by omega) | exact y_K.bk (by omega)), ⟨x80, rfl, by omega, by omega⟩⟩
  · exact sj_X12_line_309_J61 hfu r0 s13 c14 f16 r32 (by first | exact r33 | exact y_DD.z (by omega) (by omega)) r34 (by first | exact r35 | exact y_K.b0 (by omega) | exact y_K.k0 (by omega) | exact y_K.bk (by omega))
theorem sj_X12_line_309_J29 {fu : Nat} (hfu : 8589934592 ≤ fu) (r0 s : z_M) (c : z_CI s) (f : z_Fr R_X12_line_309 r0 s) (a1 : Int) (a2 : Int) (t1 : Int) (b1 : -2147483648 ≤ a1 ∧ a1 ≤ 2147483647) (b2 : -2147483648 ≤ a2 ∧ a2 ≤ 2147483647) (d1 : 0 ≤ t1 ∧ t1 ≤ 1) (p0 : t1 = 1 ∨ (0 ≤ a1 ∧ a1 < s 309 44)) (p1 : y_TA s) (p2 : y_DD s) (p3 : y_B s) (p4 : y_K s) : z_T (fX12_line_J29 fu s 309 a1 a2 309 t1) (P_X12_line_309 r0) := by
  refine T_of (fX12_line_J29.eq_1 ..) ?_
  have u1 := CI_b c (k := 309) (j := 20) bd_309_20
  have u2 := CI_b c (k := 309) (j := 36) bd_309_36
  have u3 := CI_b c (k := 309) (j := 43) bd_309_43
  have u4 := CI_b c (k := 309) (j := 44) bd_309_44
  have u5 := CI_b c (k := 309) (j := 58) bd_309_58
  have u6 := CI_b c (k := 316) (j := 0) bd_316_0
  have u7 := CI_b c (k := 329) (j := 0) bd_329_0
  have u8 := CI_b c (k := 329) (j := 1) bd_329_1
  have t9 : s 309 20 = r0 309 20 := f 309 20 (by decide)
  have t10 : s 316 0 = r0 316 0 := f 316 0 (by decide)
  have t11 : s 329 0 = r0 329 0 := f 329 0 (by decide)
  have t12 : s 329 1 = r0 329 1 := f 329 1 (by decide)
  refine T_if1 (by decide +kernel) ?_
  refine T_useI (sf_X12_bad_309 hfu s c t1 1 0 (by omega) (by omega) (by omega) (by omega)) (fun v18 s13 hq => ?_)
  obtain ⟨c14, f15, o19, ⟨x17, rfl, b20, b21, o22, o23⟩⟩ := hq
  refine T_vI ?_
  have f16 := z_Fr.tr (R := R_X12_line_309) f f15 rs_X12_bad_309__X12_line_309
  have t24 : s13 309 20 = s 309 20 := f15 309 20 (by decide)
  have t25 : s13 309 36 = s 309 36 := f15 309 36 (by decide)
  have t26 : s13 309 43 = s 309 43 := f15 309 43 (by decide)
  have t27 : s13 309 44 = s 309 44 := f15 309 44 (by decide)
  have t28 : s13 309 58 = s 309 58 := f15 309 58 (by decide)
  have t29 : s13 316 0 = s 316 0 := f15 316 0 (by decide)
  have t30 : s13 329 0 = s 329 0 := f15 329 0 (by decide)
  have t31 : s13 329 1 = s 329 1 := f15 329 1 (by decide)
  have r32 := y_TA.fr p1 (fun a b h => f15 a b (nq_X12_bad_309__316 a b h)) (fun a b h => f15 a b (nq_X12_bad_309__346 a b h)) (fun a b h => f15 a b (nq_X12_bad_309__361 a b h))
  have r33 := y_DD.fr p2 (f15 329 0 (by decide)) (f15 329 1 (by decide)) (fun b => f15 359 b (nr_X12_bad_309__359 b)) (fun b => f15 374 b (nr_X12_bad_309__374 b))
  have r34 := y_B.fr p3 (f15 309 20 (by decide)) (f15 316 0 (by decide)) (fun b => f15 3220 b (nr_X12_bad_309__3220 b)) (fun b => f15 3221 b (nr_X12_bad_309__3221 b)) (fun b => f15 3222 b (nr_X12_bad_309__3222 b)) (fun b => f15 361 b (nr_X12_bad_309__361 b))
  have r35 := y_K.fr p4 (by omega) (by omega) (f15 309 44 (by decide)) (f15 309 20 (by decide)) (f15 309 58 (by decide)) (fun b => f15 3438 b (nr_X12_bad_309__3438 b)) (fun b => f15 3220 b (nr_X12_bad_309__3220 b)) (fun a b h => f15 a b (nq_X12_bad_309__3452 a b h))
  refine T_ite (fun h36 => ?_) (fun h36 => ?_)
  · exact sj_X12_line_309_J61 hfu r0 s13 c14 f16 r32 (by first | exact r33 | exact y_DD.z (by omega) (by omega)) r34 (by first | exact r35 | exact y_K.b0 (by omega) | exact y_K.k0 (by omega) | exact y_K.bk (by omega))
  · refine T_useI (sf_X12_in hfu s13 c14 a2 0 7 (by omega) (by omega) (by omega)) (fun v42 s37 hq => ?_)
    obtain ⟨c38, f39, ⟨x41, rfl, b43, b44, o45⟩⟩ := hq
    refine T_vI ?_
    have q46 := z_Fr.eq (fun a b h => h) f39
    subst q46
    refine T_ite (fun h47 => ?_) (fun h47 => ?_)
    · exact sj_X12_line_309_J53 hfu r0 s13 c14 f16 a1 a2 0 (by omega) (by omega) (by omega) (by omega) (by omega) r32 (by first | exact r33 | exact y_DD.z (by omega) (by omega)) r34 (by first | exact r35 | exact y_K.b0 (by omega) | exact y_K.k0 (by omega) | exact y_K.bk (by omega))
    · exact sj_X12_line_309_J53 hfu r0 s13 c14 f16 a1 a2 1 (by omega) (by omega) (by omega) (by omega) (by omega) r32 (by first | exact r33 | exact y_DD.z (by omega) (by omega)) r34 (by first | exact r35 | exact y_K.b0 (by omega) | exact y_K.k0 (by omega) | exact y_K.bk (by omega))
theorem sf_X12_line_309 {fu : Nat} (hfu : 8589934592 ≤ fu) (r0 : z_M) (c0 : z_CI r0) (a1 : Int) (a2 : Int) (b1 : -2147483648 ≤ a1 ∧ a1 ≤ 2147483647) (b2 : -2147483648 ≤ a2 ∧ a2 ≤ 2147483647) (p0 : y_TA r0) (p1 : y_DD r0) (p2 : y_B r0) (p3 : y_K r0) : z_T (fX12_line fu r0 309 a1 a2) (P_X12_line_309 r0) := by
  refine T_of (fX12_line.eq_1 ..) ?_
  have u1 := CI_b c0 (k := 309) (j := 20) bd_309_20
  have u2 := CI_b c0 (k := 309) (j := 36) bd_309_36
  have u3 := CI_b c0 (k := 309) (j := 43) bd_309_43
  have u4 := CI_b c0 (k := 309) (j := 44) bd_309_44
  have u5 := CI_b c0 (k := 309) (j := 58) bd_309_58
  have u6 := CI_b c0 (k := 316) (j := 0) bd_316_0
  have u7 := CI_b c0 (k := 329) (j := 0) bd_329_0
  have u8 := CI_b c0 (k := 329) (j := 1) bd_329_1
  refine T_if1 (by decide +kernel) ?_
  refine T_upg c0 bd_309_0 (by omega) (fun s9 c10 g12 g13 e14 => ?_)
  have f11 := z_Fr.upf (R := R_X12_line_309) z_Fr.rf g12 g13 (Or.inr (Or.inr (⟨rfl, by decide⟩)))
  have t15 : s9 309 20 = r0 309 20 := g13 20 (by decide)
  have t16 : s9 309 36 = r0 309 36 := g13 36 (by decide)
  have t17 : s9 309 43 = r0 309 43 := g13 43 (by decide)
  have t18 : s9 309 44 = r0 309 44 := g13 44 (by decide)
  have t19 : s9 309 58 = r0 309 58 := g13 58 (by decide)
  have t20 : s9 316 0 = r0 316 0 := g12 316 0 (by decide)
  have t21 : s9 329 0 = r0 329 0 := g12 329 0 (by decide)
  have t22 : s9 329 1 = r0 329 1 := g12 329 1 (by decide)
  have r23 := y_TA.fr p0 (fun a b h => g12 a b (by omega)) (fun a b h => g12 a b (by omega)) (fun a b h => g12 a b (by omega))
  have r24 := y_DD.fr p1 (g12 329 0 (by decide)) (g12 329 1 (by decide)) (fun b => g12 359 b (by decide)) (fun b => g12 374 b (by decide))
  have r25 := y_B.fr p2 (g13 20 (by decide)) (g12 316 0 (by decide)) (fun b => g12 3220 b (by decide)) (fun b => g12 3221 b (by decide)) (fun b => g12 3222 b (by decide)) (fun b => g12 361 b (by decide))
  have r26 := y_K.fr p3 (by omega) (by omega) (g13 44 (by decide)) (g13 20 (by decide)) (g13 58 (by decide)) (fun b => g12 3438 b (by decide)) (fun b => g12 3220 b (by decide)) (fun a b h => g12 a b (by omega))
  refine T_if1 (by decide +kernel) ?_
  refine T_useN (sf_X12_laysAll_309 hfu s9 c10 r25 (by first | exact r26 | exact y_K.b0 (by omega) | exact y_K.k0 (by omega) | exact y_K.bk (by omega))) (fun v32 s27 hq => ?_)
  obtain ⟨c28, f29, o33, o34, o35, o36, o37, o38, rfl⟩ := hq
  refine T_vN ?_
  have f30 := z_Fr.tr (R := R_X12_line_309) f11 f29 rs_X12_laysAll_309__X12_line_309
  have t41 : s27 309 20 = r0 309 20 := (f29 309 20 (by decide)).trans t15
  have t42 : s27 316 0 = r0 316 0 := (f29 316 0 (by decide)).trans t20
  have t43 : s27 329 0 = r0 329 0 := (f29 329 0 (by decide)).trans t21
  have t44 : s27 329 1 = r0 329 1 := (f29 329 1 (by decide)).trans t22
  have u45 := CI_b c28 (k := 309) (j := 36) bd_309_36
  have u46 := CI_b c28 (k := 309) (j := 43) bd_309_43
  have u47 := CI_b c28 (k := 309) (j := 44) bd_309_44
  have u48 := CI_b c28 (k := 309) (j := 58) bd_309_58
  have r49 := y_TA.fr r23 (fun a b h => f29 a b (nq_X12_laysAll_309__316 a b h)) (fun a b h => f29 a b (nq_X12_laysAll_309__346 a b h)) (fun a b h => f29 a b (nq_X12_laysAll_309__361 a b h))
  have r50 := y_DD.fr r24 (f29 329 0 (by decide)) (f29 329 1 (by decide)) (fun b => f29 359 b (nr_X12_laysAll_309__359 b)) (fun b => f29 374 b (nr_X12_laysAll_309__374 b))
  have r51 := y_B.fr r25 (f29 309 20 (by decide)) (f29 316 0 (by decide)) (fun b => f29 3220 b (nr_X12_laysAll_309__3220 b)) (fun b => f29 3221 b (nr_X12_laysAll_309__3221 b)) (fun b => f29 3222 b (nr_X12_laysAll_309__3222 b)) (fun b => f29 361 b (nr_X12_laysAll_309__361 b))
  clear t15
  clear t20
  clear t21
  clear t22
  refine T_if1 (by decide +kernel) ?_
  refine T_leq (fun x52 e53 => ?_)
  have u54 := CI_b c28 (k := 309) (j := 44) bd_309_44
  refine T_leq (fun x55 e56 => ?_)
  first | (have w57 := z_wx e56 (by omega)) | (have w57 := z_wr e56)
  refine T_useI (sf_X12_in hfu s27 c28 a1 0 x55 (by omega) (by omega) (by omega)) (fun v63 s58 hq => ?_)
  obtain ⟨c59, f60, ⟨x62, rfl, b64, b65, o66⟩⟩ := hq
  refine T_vI ?_
  have q67 := z_Fr.eq (fun a b h => h) f60
  subst q67
  refine T_ite (fun h68 => ?_) (fun h68 => ?_)
  · exact sj_X12_line_309_J29 hfu r0 s27 c28 f30 a1 a2 0 (by omega) (by omega) (by omega) (by omega) r49 (by first | exact r50 | exact y_DD.z (by omega) (by omega)) r51 (by first | exact o33 | exact y_K.b0 (by omega) | exact y_K.k0 (by omega) | exact y_K.bk (by omega) | exact y_K.mk o34 (by omega) o35)
  · exact sj_X12_line_309_J29 hfu r0 s27 c28 f30 a1 a2 1 (by omega) (by omega) (by omega) (by omega) r49 (by first | exact r50 | exact y_DD.z (by omega) (by omega)) r51 (by first | exact o33 | exact y_K.b0 (by omega) | exact y_K.k0 (by omega) | exact y_K.bk (by omega) | exact y_K.mk o34 (by omega) o35)
abbrev R_X12_block_309 (a b : Int) : Prop := (310 ≤ a ∧ a ≤ 310) ∨ (3224 ≤ a ∧ a ≤ 3651) ∨ (a = 309 ∧ (b = 0 ∨ b = 35 ∨ b = 36 ∨ b = 38 ∨ b = 39 ∨ b = 43 ∨ b = 44 ∨ b = 58))
abbrev P_X12_block_309 (r0 : z_M) : z_V → z_M → Prop := fun v s' => z_CI s' ∧ z_Fr R_X12_block_309 r0 s' ∧ (y_TA s') ∧ (y_DD s') ∧ (y_B s') ∧ (y_K s') ∧ (∃ x, v = vI x ∧ -2147483648 ≤ x ∧ x ≤ 2147483647)
theorem rs_X12_laysAll_309__X12_block_309 (a b : Int) (h : R_X12_laysAll_309 a b) : R_X12_block_309 a b := (h.elim (fun h => (Or.inr (Or.inl (⟨by omega, by omega⟩)))) (fun h => (Or.inr (Or.inr (⟨h.1, by omega⟩)))))
theorem rs_X12_bad_309__X12_block_309 (a b : Int) (h : R_X12_bad_309 a b) : R_X12_block_309 a b := (h.elim (fun h => (Or.inl (⟨by omega, by omega⟩))) (fun h => (Or.inr (Or.inr (⟨h.1, by omega⟩)))))
theorem sj_X12_block_309_J61 {fu : Nat} (hfu : 8589934592 ≤ fu) (r0 s : z_M) (c : z_CI s) (f : z_Fr R_X12_block_309 r0 s) (p0 : y_TA s) (p1 : y_DD s) (p2 : y_B s) (p3 : y_K s) : z_T (fX12_block_J61 fu s) (P_X12_block_309 r0) := by
  refine T_of (fX12_block_J61.eq_1 ..) ?_
  have u1 := CI_b c (k := 309) (j := 20) bd_309_20
  have u2 := CI_b c (k := 309) (j := 36) bd_309_36
  have u3 := CI_b c (k := 309) (j := 43) bd_309_43
  have u4 := CI_b c (k := 309) (j := 44) bd_309_44
  have u5 := CI_b c (k := 309) (j := 58) bd_309_58
  have u6 := CI_b c (k := 316) (j := 0) bd_316_0
  have u7 := CI_b c (k := 329) (j := 0) bd_329_0
  have u8 := CI_b c (k := 329) (j := 1) bd_329_1
  have t9 : s 309 20 = r0 309 20 := f 309 20 (by decide)
  have t10 : s 316 0 = r0 316 0 := f 316 0 (by decide)
  have t11 : s 329 0 = r0 329 0 := f 329 0 (by decide)
  have t12 : s 329 1 = r0 329 1 := f 329 1 (by decide)
  exact T_ret ⟨c, f, p0, (by first | exact p1 | exact y_DD.z (by omega) (by omega)), p2, (by first | exact p3 | exact y_K.b0 (by omega) | exact y_K.k0 (by omega) | exact y_K.bk (by omega)), ⟨0, rfl, by omega, by omega⟩⟩
theorem sj_X12_block_309_J53 {fu : Nat} (hfu : 8589934592 ≤ fu) (r0 s : z_M) (c : z_CI s) (f : z_Fr R_X12_block_309 r0 s) (a1 : Int) (a2 : Int) (t1 : Int) (b1 : -2147483648 ≤ a1 ∧ a1 ≤ 2147483647) (b2 : -2147483648 ≤ a2 ∧ a2 ≤ 2147483647) (d1 : 0 ≤ t1 ∧ t1 ≤ 1) (p0 : 0 ≤ a1 ∧ a1 < s 309 58) (p1 : t1 = 1 ∨ (0 ≤ a2 ∧ a2 ≤ 7)) (p2 : y_TA s) (p3 : y_DD s) (p4 : y_B s) (p5 : y_K s) : z_T (fX12_block_J53 fu s 309 a1 a2 309 t1) (P_X12_block_309 r0) := by
  refine T_of (fX12_block_J53.eq_1 ..) ?_
  have u1 := CI_b c (k := 309) (j := 20) bd_309_20
  have u2 := CI_b c (k := 309) (j := 36) bd_309_36
  have u3 := CI_b c (k := 309) (j := 43) bd_309_43
  have u4 := CI_b c (k := 309) (j := 44) bd_309_44
  have u5 := CI_b c (k := 309) (j := 58) bd_309_58
  have u6 := CI_b c (k := 316) (j := 0) bd_316_0
  have u7 := CI_b c (k := 329) (j := 0) bd_329_0
  have u8 := CI_b c (k := 329) (j := 1) bd_329_1
  have t9 : s 309 20 = r0 309 20 := f 309 20 (by decide)
  have t10 : s 316 0 = r0 316 0 := f 316 0 (by decide)
  have t11 : s 329 0 = r0 329 0 := f 329 0 (by decide)
  have t12 : s 329 1 = r0 329 1 := f 329 1 (by decide)
  refine T_if1 (by decide +kernel) ?_
  refine T_useI (sf_X12_bad_309 hfu s c t1 2 1 (by omega) (by omega) (by omega) (by omega)) (fun v18 s13 hq => ?_)
  obtain ⟨c14, f15, o19, ⟨x17, rfl, b20, b21, o22, o23⟩⟩ := hq
  refine T_vI ?_
  have f16 := z_Fr.tr (R := R_X12_block_309) f f15 rs_X12_bad_309__X12_block_309
  have t24 : s13 309 20 = s 309 20 := f15 309 20 (by decide)
  have t25 : s13 309 36 = s 309 36 := f15 309 36 (by decide)
  have t26 : s13 309 43 = s 309 43 := f15 309 43 (by decide)
  have t27 : s13 309 44 = s 309 44 := f15 309 44 (by decide)
  have t28 : s13 309 58 = s 309 58 := f15 309 58 (by decide)
  have t29 : s13 316 0 = s 316 0 := f15 316 0 (by decide)
  have t30 : s13 329 0 = s 329 0 := f15 329 0 (by decide)
  have t31 : s13 329 1 = s 329 1 := f15 329 1 (by decide)
  have r32 := y_TA.fr p2 (fun a b h => f15 a b (nq_X12_bad_309__316 a b h)) (fun a b h => f15 a b (nq_X12_bad_309__346 a b h)) (fun a b h => f15 a b (nq_X12_bad_309__361 a b h))
  have r33 := y_DD.fr p3 (f15 329 0 (by decide)) (f15 329 1 (by decide)) (fun b => f15 359 b (nr_X12_bad_309__359 b)) (fun b => f15 374 b (nr_X12_bad_309__374 b))
  have r34 := y_B.fr p4 (f15 309 20 (by decide)) (f15 316 0 (by decide)) (fun b => f15 3220 b (nr_X12_bad_309__3220 b)) (fun b => f15 3221 b (nr_X12_bad_309__3221 b)) (fun b => f15 3222 b (nr_X12_bad_309__3222 b)) (fun b => f15 361 b (nr_X12_bad_309__361 b))
  have r35 := y_K.fr p5 (by omega) (by omega) (f15 309 44 (by decide)) (f15 309 20 (by decide)) (f15 309 58 (by decide)) (fun b => f15 3438 b (nr_X12_bad_309__3438 b)) (fun b => f15 3220 b (nr_X12_bad_309__3220 b)) (fun a b h => f15 a b (nq_X12_bad_309__3452 a b h))
  refine T_ite (fun h36 => ?_) (fun h36 => ?_)
  · refine T_if1 (by decide +kernel) ?_
    refine T_let 3451 (by decide +kernel) ?_
    refine T_if1 (z_ixl (n := 200) (by decide +kernel) (by omega) (by omega)) ?_
    refine T_let (3452 + a1) (gr_3451 a1) ?_
    refine T_if1 (z_ixs (sh_r3451 (by omega)) (by omega) (by omega) (by omega)) ?_
    refine T_leq (fun x37 e38 => ?_)
    have u39 := CI_w c14 (k := (3452 + a1)) (j := a2) (by rw [sh_r3451 (by omega)]; decide)
    exact T_ret ⟨c14, f16, r32, (by first | exact r33 | exact y_DD.z (by omega) (by omega)), r34, (by first | exact r35 | exact y_K.b0 (by omega) | exact y_K.k0 (by omega) | exact y_K.bk (by omega)), ⟨x37, rfl, by omega, by omega⟩⟩
  · exact sj_X12_block_309_J61 hfu r0 s13 c14 f16 r32 (by first | exact r33 | exact y_DD.z (by omega) (by omega)) r34 (by first | exact r35 | exact y_K.b0 (by omega) | exact y_K.k0 (by omega) | exact y_K.bk (by omega))
theorem sj_X12_block_309_J29 {fu : Nat} (hfu : 8589934592 ≤ fu) (r0 s : z_M) (c : z_CI s) (f : z_Fr R_X12_block_309 r0 s) (a1 : Int) (a2 : Int) (t1 : Int) (b1 : -2147483648 ≤ a1 ∧ a1 ≤ 2147483647) (b2 : -2147483648 ≤ a2 ∧ a2 ≤ 2147483647) (d1 : 0 ≤ t1 ∧ t1 ≤ 1) (p0 : t1 = 1 ∨ (0 ≤ a1 ∧ a1 < s 309 58)) (p1 : y_TA s) (p2 : y_DD s) (p3 : y_B s) (p4 : y_K s) : z_T (fX12_block_J29 fu s 309 a1 a2 309 t1) (P_X12_block_309 r0) := by
  refine T_of (fX12_block_J29.eq_1 ..) ?_
  have u1 := CI_b c (k := 309) (j := 20) bd_309_20
  have u2 := CI_b c (k := 309) (j := 36) bd_309_36
  have u3 := CI_b c (k := 309) (j := 43) bd_309_43
  have u4 := CI_b c (k := 309) (j := 44) bd_309_44
  have u5 := CI_b c (k := 309) (j := 58) bd_309_58
  have u6 := CI_b c (k := 316) (j := 0) bd_316_0
  have u7 := CI_b c (k := 329) (j := 0) bd_329_0
  have u8 := CI_b c (k := 329) (j := 1) bd_329_1
  have t9 : s 309 20 = r0 309 20 := f 309 20 (by decide)
  have t10 : s 316 0 = r0 316 0 := f 316 0 (by decide)
  have t11 : s 329 0 = r0 329 0 := f 329 0 (by decide)
  have t12 : s 329 1 = r0 329 1 := f 329 1 (by decide)
  refine T_if1 (by decide +kernel) ?_
  refine T_useI (sf_X12_bad_309 hfu s c t1 1 0 (by omega) (by omega) (by omega) (by omega)) (fun v18 s13 hq => ?_)
  obtain ⟨c14, f15, o19, ⟨x17, rfl, b20, b21, o22, o23⟩⟩ := hq
  refine T_vI ?_
  have f16 := z_Fr.tr (R := R_X12_block_309) f f15 rs_X12_bad_309__X12_block_309
  have t24 : s13 309 20 = s 309 20 := f15 309 20 (by decide)
  have t25 : s13 309 36 = s 309 36 := f15 309 36 (by decide)
  have t26 : s13 309 43 = s 309 43 := f15 309 43 (by decide)
  have t27 : s13 309 44 = s 309 44 := f15 309 44 (by decide)
  have t28 : s13 309 58 = s 309 58 := f15 309 58 (by decide)
  have t29 : s13 316 0 = s 316 0 := f15 316 0 (by decide)
  have t30 : s13 329 0 = s 329 0 := f15 329 0 (by decide)
  have t31 : s13 329 1 = s 329 1 := f15 329 1 (by decide)
  have r32 := y_TA.fr p1 (fun a b h => f15 a b (nq_X12_bad_309__316 a b h)) (fun a b h => f15 a b (nq_X12_bad_309__346 a b h)) (fun a b h => f15 a b (nq_X12_bad_309__361 a b h))
  have r33 := y_DD.fr p2 (f15 329 0 (by decide)) (f15 329 1 (by decide)) (fun b => f15 359 b (nr_X12_bad_309__359 b)) (fun b => f15 374 b (nr_X12_bad_309__374 b))
  have r34 := y_B.fr p3 (f15 309 20 (by decide)) (f15 316 0 (by decide)) (fun b => f15 3220 b (nr_X12_bad_309__3220 b)) (fun b => f15 3221 b (nr_X12_bad_309__3221 b)) (fun b => f15 3222 b (nr_X12_bad_309__3222 b)) (fun b => f15 361 b (nr_X12_bad_309__361 b))
  have r35 := y_K.fr p4 (by omega) (by omega) (f15 309 44 (by decide)) (f15 309 20 (by decide)) (f15 309 58 (by decide)) (fun b => f15 3438 b (nr_X12_bad_309__3438 b)) (fun b => f15 3220 b (nr_X12_bad_309__3220 b)) (fun a b h => f15 a b (nq_X12_bad_309__3452 a b h))
  refine T_ite (fun h36 => ?_) (fun h36 => ?_)
  · exact sj_X12_block_309_J61 hfu r0 s13 c14 f16 r32 (by first | exact r33 | exact y_DD.z (by omega) (by omega)) r34 (by first | exact r35 | exact y_K.b0 (by omega) | exact y_K.k0 (by omega) | exact y_K.bk (by omega))
  · refine T_useI (sf_X12_in hfu s13 c14 a2 0 7 (by omega) (by omega) (by omega)) (fun v42 s37 hq => ?_)
    obtain ⟨c38, f39, ⟨x41, rfl, b43, b44, o45⟩⟩ := hq
    refine T_vI ?_
    have q46 := z_Fr.eq (fun a b h => h) f39
    subst q46
    refine T_ite (fun h47 => ?_) (fun h47 => ?_)
    · exact sj_X12_block_309_J53 hfu r0 s13 c14 f16 a1 a2 0 (by omega) (by omega) (by omega) (by omega) (by omega) r32 (by first | exact r33 | exact y_DD.z (by omega) (by omega)) r34 (by first | exact r35 | exact y_K.b0 (by omega) | exact y_K.k0 (by omega) | exact y_K.bk (by omega))
    · exact sj_X12_block_309_J53 hfu r0 s13 c14 f16 a1 a2 1 (by omega) (by omega) (by omega) (by omega) (by omega) r32 (by first | exact r33 | exact y_DD.z (by omega) (by omega)) r34 (by first | exact r35 | exact y_K.b0 (by omega) | exact y_K.k0 (by omega) | exact y_K.bk (by omega))
theorem sf_X12_block_309 {fu : Nat} (hfu : 8589934592 ≤ fu) (r0 : z_M) (c0 : z_CI r0) (a1 : Int) (a2 : Int) (b1 : -2147483648 ≤ a1 ∧ a1 ≤ 2147483647) (b2 : -2147483648 ≤ a2 ∧ a2 ≤ 2147483647) (p0 : y_TA r0) (p1 : y_DD r0) (p2 : y_B r0) (p3 : y_K r0) : z_T (fX12_block fu r0 309 a1 a2) (P_X12_block_309 r0) := by
  refine T_of (fX12_block.eq_1 ..) ?_
  have u1 := CI_b c0 (k := 309) (j := 20) bd_309_20
  have u2 := CI_b c0 (k := 309) (j := 36) bd_309_36
  have u3 := CI_b c0 (k := 309) (j := 43) bd_309_43
  have u4 := CI_b c0 (k := 309) (j := 44) bd_309_44
  have u5 := CI_b c0 (k := 309) (j := 58) bd_309_58
  have u6 := CI_b c0 (k := 316) (j := 0) bd_316_0
  have u7 := CI_b c0 (k := 329) (j := 0) bd_329_0
  have u8 := CI_b c0 (k := 329) (j := 1) bd_329_1
  refine T_if1 (by decide +kernel) ?_
  refine T_upg c0 bd_309_0 (by omega) (fun s9 c10 g12 g13 e14 => ?_)
  have f11 := z_Fr.upf (R := R_X12_block_309) z_Fr.rf g12 g13 (Or.inr (Or.inr (⟨rfl, by decide⟩)))
  have t15 : s9 309 20 = r0 309 20 := g13 20 (by decide)
  have t16 : s9 309 36 = r0 309 36 := g13 36 (by decide)
  have t17 : s9 309 43 = r0 309 43 := g13 43 (by decide)
  have t18 : s9 309 44 = r0 309 44 := g13 44 (by decide)
  have t19 : s9 309 58 = r0 309 58 := g13 58 (by decide)
  have t20 : s9 316 0 = r0 316 0 := g12 316 0 (by decide)
  have t21 : s9 329 0 = r0 329 0 := g12 329 0 (by decide)
  have t22 : s9 329 1 = r0 329 1 := g12 329 1 (by decide)
  have r23 := y_TA.fr p0 (fun a b h => g12 a b (by omega)) (fun a b h => g12 a b (by omega)) (fun a b h => g12 a b (by omega))
  have r24 := y_DD.fr p1 (g12 329 0 (by decide)) (g12 329 1 (by decide)) (fun b => g12 359 b (by decide)) (fun b => g12 374 b (by decide))
  have r25 := y_B.fr p2 (g13 20 (by decide)) (g12 316 0 (by decide)) (fun b => g12 3220 b (by decide)) (fun b => g12 3221 b (by decide)) (fun b => g12 3222 b (by decide)) (fun b => g12 361 b (by decide))
  have r26 := y_K.fr p3 (by omega) (by omega) (g13 44 (by decide)) (g13 20 (by decide)) (g13 58 (by decide)) (fun b => g12 3438 b (by decide)) (fun b => g12 3220 b (by decide)) (fun a b h => g12 a b (by omega))
  refine T_if1 (by decide +kernel) ?_
  refine T_useN (sf_X12_laysAll_309 hfu s9 c10 r25 (by first | exact r26 | exact y_K.b0 (by omega) | exact y_K.k0 (by omega) | exact y_K.bk (by omega))) (fun v32 s27 hq => ?_)
  obtain ⟨c28, f29, o33, o34, o35, o36, o37, o38, rfl⟩ := hq
  refine T_vN ?_
  have f30 := z_Fr.tr (R := R_X12_block_309) f11 f29 rs_X12_laysAll_309__X12_block_309
  have t41 : s27 309 20 = r0 309 20 := (f29 309 20 (by decide)).trans t15
  have t42 : s27 316 0 = r0 316 0 := (f29 316 0 (by decide)).trans t20
  have t43 : s27 329 0 = r0 329 0 := (f29 329 0 (by decide)).trans t21
  have t44 : s27 329 1 = r0 329 1 := (f29 329 1 (by decide)).trans t22
  have u45 := CI_b c28 (k := 309) (j := 36) bd_309_36
  have u46 := CI_b c28 (k := 309) (j := 43) bd_309_43
  have u47 := CI_b c28 (k := 309) (j := 44) bd_309_44
  have u48 := CI_b c28 (k := 309) (j := 58) bd_309_58
  have r49 := y_TA.fr r23 (fun a b h => f29 a b (nq_X12_laysAll_309__316 a b h)) (fun a b h => f29 a b (nq_X12_laysAll_309__346 a b h)) (fun a b h => f29 a b (nq_X12_laysAll_309__361 a b h))
  have r50 := y_DD.fr r24 (f29 329 0 (by decide)) (f29 329 1 (by decide)) (fun b => f29 359 b (nr_X12_laysAll_309__359 b)) (fun b => f29 374 b (nr_X12_laysAll_309__374 b))
  have r51 := y_B.fr r25 (f29 309 20 (by decide)) (f29 316 0 (by decide)) (fun b => f29 3220 b (nr_X12_laysAll_309__3220 b)) (fun b => f29 3221 b (nr_X12_laysAll_309__3221 b)) (fun b => f29 3222 b (nr_X12_laysAll_309__3222 b)) (fun b => f29 361 b (nr_X12_laysAll_309__361 b))
  clear t15
  clear t20
  clear t21
  clear t22
  refine T_if1 (by decide +kernel) ?_
  refine T_leq (fun x52 e53 => ?_)
  have u54 := CI_b c28 (k := 309) (j := 58) bd_309_58
  refine T_leq (fun x55 e56 => ?_)
  first | (have w57 := z_wx e56 (by omega)) | (have w57 := z_wr e56)
  refine T_useI (sf_X12_in hfu s27 c28 a1 0 x55 (by omega) (by omega) (by omega)) (fun v63 s58 hq => ?_)
  obtain ⟨c59, f60, ⟨x62, rfl, b64, b65, o66⟩⟩ := hq
  refine T_vI ?_
  have q67 := z_Fr.eq (fun a b h => h) f60
  subst q67
  refine T_ite (fun h68 => ?_) (fun h68 => ?_)
  · exact sj_X12_block_309_J29 hfu r0 s27 c28 f30 a1 a2 0 (by omega) (by omega) (by omega) (by omega) r49 (by first | exact r50 | exact y_DD.z (by omega) (by omega)) r51 (by first | exact o33 | exact y_K.b0 (by omega) | exact y_K.k0 (by omega) | exact y_K.bk (by omega) | exact y_K.mk o34 (by omega) o35)
  · exact sj_X12_block_309_J29 hfu r0 s27 c28 f30 a1 a2 1 (by omega) (by omega) (by omega) (by omega) r49 (by first | exact r50 | exact y_DD.z (by omega) (by omega)) r51 (by first | exact o33 | exact y_K.b0 (by omega) | exact y_K.k0 (by omega) | exact y_K.bk (by omega) | exact y_K.mk o34 (by omega) o35)
abbrev R_X12_lettersIn_309 (a b : Int) : Prop := False
abbrev P_X12_lettersIn_309 (r0 : z_M) (a1 : Int) (a2 : Int) : z_V → z_M → Prop := fun v s' => z_CI s' ∧ z_Fr R_X12_lettersIn_309 r0 s' ∧ (∃ x, v = vI x ∧ 0 ≤ x ∧ x ≤ 1800 ∧ (x = y_ls r0 a1 a2) ∧ (x ≤ 9 * r0 (3452 + a1) 1))
theorem sl_X12_lettersIn_309_L12 {fu : Nat} (hfu : 8589934592 ≤ fu) (r0 : z_M) (a1 : Int) (a2 : Int) (b1 : 0 ≤ a1 ∧ a1 ≤ 199) (b2 : 0 ≤ a2 ∧ a2 ≤ 1) {k : z_M → Int → z_O} (hk : ∀ (s' : z_M) (v3 : Int), z_CI s' → z_Fr R_X12_lettersIn_309 r0 s' → (0 ≤ v3 ∧ v3 ≤ 1800) → (v3 = y_ls s' a1 a2) → (v3 ≤ 9 * s' (3452 + a1) 1) → z_T (k s' v3) (P_X12_lettersIn_309 r0 a1 a2)) : ∀ (F : Nat) (s : z_M) (a3 : Int) (a4 : Int), z_CI s → z_Fr R_X12_lettersIn_309 r0 s → (0 ≤ a3 ∧ a3 ≤ 1800) → (0 ≤ a4 ∧ a4 ≤ 200) → (y_B s) → (y_BK s) → (a1 < s 309 58) → (y_SM s a1 a2 a4 a3) → (2147483647 - a4 < (F : Int)) → z_T (fX12_lettersIn_L12 fu 309 a1 a2 F s a3 a4 k) (P_X12_lettersIn_309 r0 a1 a2) := by
  intro F
  induction F with
  | zero =>
    intro s a3 a4 c f b3 b4 i0 i1 i2 i3 hm
    have u37 := CI_b c (k := 309) (j := 20) bd_309_20
    have u38 := CI_b c (k := 309) (j := 58) bd_309_58
    have u39 := CI_b c (k := 316) (j := 0) bd_316_0
    exfalso; omega
  | succ F ih =>
    intro s a3 a4 c f b3 b4 i0 i1 i2 i3 hm
    have qf := z_Fr.eq (fun a b h => h) f
    subst qf
    refine T_of (fX12_lettersIn_L12.eq_2 ..) ?_
    have u1 := CI_b c (k := 309) (j := 20) bd_309_20
    have u2 := CI_b c (k := 309) (j := 58) bd_309_58
    have u3 := CI_b c (k := 316) (j := 0) bd_316_0
    have t4 : r0 309 20 = r0 309 20 := f 309 20 (by exact not_false)
    have t5 : r0 309 58 = r0 309 58 := f 309 58 (by exact not_false)
    have t6 : r0 316 0 = r0 316 0 := f 316 0 (by exact not_false)
    have n7 := y_SM.lo i3
    refine T_if1 (by decide +kernel) ?_
    refine T_let 3451 (by decide +kernel) ?_
    refine T_if1 (z_ixl (n := 200) (by decide +kernel) (by omega) (by omega)) ?_
    refine T_let (3452 + a1) (gr_3451 a1) ?_
    refine T_if1 (z_ixs (sh_r3451 (by omega)) (by omega) (by omega) (by omega)) ?_
    refine T_leq (fun x8 e9 => ?_)
    have u10 := CI_b c (k := (3452 + a1)) (j := 0) (bds_r3451_0 (by omega))
    refine T_if1 (by decide +kernel) ?_
    refine T_let 3451 (by decide +kernel) ?_
    refine T_if1 (z_ixl (n := 200) (by decide +kernel) (by omega) (by omega)) ?_
    refine T_let (3452 + a1) (gr_3451 a1) ?_
    refine T_if1 (z_ixs (sh_r3451 (by omega)) (by omega) (by omega) (by omega)) ?_
    refine T_leq (fun x11 e12 => ?_)
    have u13 := CI_b c (k := (3452 + a1)) (j := 1) (bds_r3451_1 (by omega))
    refine T_leq (fun x14 e15 => ?_)
    first | (have w16 := z_wx e15 (by omega)) | (have w16 := z_wr e15)
    have n17 := y_SM.or i3 (by assumption) (by assumption)
    refine T_ite (fun h18 => ?_) (fun h18 => ?_)
    · exact hk r0 a3 c f (by omega) (by omega) (by omega)
    · have n19 := y_BK.k7 i1 (k := a1) (v := a4) (by omega) (by omega) (by assumption) (by assumption) (by omega) (by omega)
      refine T_if1 (by decide +kernel) ?_
      refine T_useI (sf_X12_lettersOf_309 hfu r0 c a4 a2 (by omega) (by omega) i0 (by omega) (by omega)) (fun v25 s20 hq => ?_)
      obtain ⟨c21, f22, ⟨x24, rfl, b26, b27, o28⟩⟩ := hq
      refine T_vI ?_
      have q29 := z_Fr.eq (fun a b h => h) f22
      subst q29
      refine T_leq (fun x30 e31 => ?_)
      first | (have w32 := z_wx e31 (by omega)) | (have w32 := z_wr e31)
      have r33 : y_SM r0 a1 a2 (a4 + 1) x30 := y_SM.st i3 (by assumption) (by assumption) (by omega) (by assumption) (by omega) rfl (by omega)
      refine T_leq (fun x34 e35 => ?_)
      first | (have w36 := z_wx e35 (by omega)) | (have w36 := z_wr e35)
      exact ih r0 x30 x34 c f (by omega) (by omega) i0 i1 (by omega) (by first | exact y_SM.cg r33 (by omega) (by omega) | exact y_SM.cg i3 (by omega) (by omega) | exact y_SM.z (by assumption) (by omega) (by omega)) (by omega)
theorem sf_X12_lettersIn_309 {fu : Nat} (hfu : 8589934592 ≤ fu) (r0 : z_M) (c0 : z_CI r0) (a1 : Int) (a2 : Int) (b1 : 0 ≤ a1 ∧ a1 ≤ 199) (b2 : 0 ≤ a2 ∧ a2 ≤ 1) (p0 : y_B r0) (p1 : y_BK r0) (p2 : a1 < r0 309 58) : z_T (fX12_lettersIn fu r0 309 a1 a2) (P_X12_lettersIn_309 r0 a1 a2) := by
  refine T_of (fX12_lettersIn.eq_1 ..) ?_
  have u1 := CI_b c0 (k := 309) (j := 20) bd_309_20
  have u2 := CI_b c0 (k := 309) (j := 58) bd_309_58
  have u3 := CI_b c0 (k := 316) (j := 0) bd_316_0
  refine T_if1 (by decide +kernel) ?_
  refine T_let 3451 (by decide +kernel) ?_
  refine T_if1 (z_ixl (n := 200) (by decide +kernel) (by omega) (by omega)) ?_
  refine T_let (3452 + a1) (gr_3451 a1) ?_
  refine T_if1 (z_ixs (sh_r3451 (by omega)) (by omega) (by omega) (by omega)) ?_
  refine T_leq (fun x4 e5 => ?_)
  have u6 := CI_b c0 (k := (3452 + a1)) (j := 0) (bds_r3451_0 (by omega))
  have n7 := CI_b c0 (k := 3452 + a1) (j := 1) (bds_r3451_1 (by omega))
  refine sl_X12_lettersIn_309_L12 hfu r0 a1 a2 (by omega) (by omega) (fun s8 y11 c9 f10 b12 g13 g14 => ?_) fu r0 0 x4 c0 z_Fr.rf (by omega) (by omega) p0 p1 (by omega) (by first | exact y_SM.z (by assumption) (by omega) (by omega)) (by omega)
  have q15 := z_Fr.eq (fun a b h => h) f10
  subst q15
  have u16 := CI_b c9 (k := 309) (j := 20) bd_309_20
  have u17 := CI_b c9 (k := 309) (j := 58) bd_309_58
  have u18 := CI_b c9 (k := 316) (j := 0) bd_316_0
  have t19 : r0 309 20 = r0 309 20 := f10 309 20 (by exact not_false)
  have t20 : r0 309 58 = r0 309 58 := f10 309 58 (by exact not_false)
  have t21 : r0 316 0 = r0 316 0 := f10 316 0 (by exact not_false)
  exact T_ret ⟨c9, f10, ⟨y11, rfl, by omega, by omega, (by omega), (by omega)⟩⟩
abbrev R_X12_letterAt_309 (a b : Int) : Prop := False
abbrev P_X12_letterAt_309 (r0 : z_M) (a1 : Int) : z_V → z_M → Prop := fun v s' => z_CI s' ∧ z_Fr R_X12_letterAt_309 r0 s' ∧ (∃ x, v = vI x ∧ -2147483648 ≤ x ∧ x ≤ 2147483647)
theorem sl_X12_letterAt_309_L13 {fu : Nat} (hfu : 8589934592 ≤ fu) (r0 : z_M) (a1 : Int) (a2 : Int) (b2 : 0 ≤ a2 ∧ a2 ≤ 1) (q0 : 0 ≤ a1 ∧ a1 ≤ 199) {k : z_M → Int → Int → z_O} (hk : ∀ (s' : z_M) (v4 : Int) (v5 : Int), z_CI s' → z_Fr R_X12_letterAt_309 r0 s' → (0 ≤ v4 ∧ v4 ≤ 2147483647) → (0 ≤ v5 ∧ v5 ≤ 200) → (y_B s') → (v4 ≤ 8) → (s' 3220 v5 = 7) → (v5 < s' 309 20) → (v5 ≤ 199) → z_T (k s' v4 v5) (P_X12_letterAt_309 r0 a1)) : ∀ (F : Nat) (s : z_M) (a4 : Int) (a5 : Int), z_CI s → z_Fr R_X12_letterAt_309 r0 s → (0 ≤ a4 ∧ a4 ≤ 2147483647) → (0 ≤ a5 ∧ a5 ≤ 200) → (y_B s) → (y_BK s) → (a1 < s 309 58) → (y_LA s a1 a2 a5 a4) → (201 - a5 < (F : Int)) → z_T (fX12_letterAt_L13 fu 309 a2 F s a4 a5 k) (P_X12_letterAt_309 r0 a1) := by
  intro F
  induction F with
  | zero =>
    intro s a4 a5 c f b4 b5 i0 i1 i2 i3 hm
    have u37 := CI_b c (k := 309) (j := 20) bd_309_20
    have u38 := CI_b c (k := 309) (j := 58) bd_309_58
    have u39 := CI_b c (k := 316) (j := 0) bd_316_0
    exfalso; omega
  | succ F ih =>
    intro s a4 a5 c f b4 b5 i0 i1 i2 i3 hm
    have qf := z_Fr.eq (fun a b h => h) f
    subst qf
    refine T_of (fX12_letterAt_L13.eq_2 ..) ?_
    have u1 := CI_b c (k := 309) (j := 20) bd_309_20
    have u2 := CI_b c (k := 309) (j := 58) bd_309_58
    have u3 := CI_b c (k := 316) (j := 0) bd_316_0
    have t4 : r0 309 20 = r0 309 20 := f 309 20 (by exact not_false)
    have t5 : r0 309 58 = r0 309 58 := f 309 58 (by exact not_false)
    have t6 : r0 316 0 = r0 316 0 := f 316 0 (by exact not_false)
    have n7 := y_LA.lt i3
    have n8 := y_BK.s7 i1 (k := a1) (u := a5) (by omega) (by omega) (by omega)
    refine T_if1 (by decide +kernel) ?_
    refine T_useI (sf_X12_lettersOf_309 hfu r0 c a5 a2 (by omega) (by omega) i0 (by omega) (by omega)) (fun v14 s9 hq => ?_)
    obtain ⟨c10, f11, ⟨x13, rfl, b15, b16, o17⟩⟩ := hq
    refine T_vI ?_
    have q18 := z_Fr.eq (fun a b h => h) f11
    subst q18
    refine T_ite (fun h19 => ?_) (fun h19 => ?_)
    · exact hk r0 a4 a5 c f (by omega) (by omega) i0 (by omega) (by omega) (by omega) (by omega)
    · refine T_if1 (by decide +kernel) ?_
      refine T_useI (sf_X12_lettersOf_309 hfu r0 c a5 a2 (by omega) (by omega) i0 (by omega) (by omega)) (fun v25 s20 hq => ?_)
      obtain ⟨c21, f22, ⟨x24, rfl, b26, b27, o28⟩⟩ := hq
      refine T_vI ?_
      have q29 := z_Fr.eq (fun a b h => h) f22
      subst q29
      refine T_leq (fun x30 e31 => ?_)
      first | (have w32 := z_wx e31 (by omega)) | (have w32 := z_wr e31)
      have r33 : y_LA r0 a1 a2 (a5 + 1) x30 := y_LA.st i3 (by assumption) (by omega) rfl (by omega)
      refine T_leq (fun x34 e35 => ?_)
      first | (have w36 := z_wx e35 (by omega)) | (have w36 := z_wr e35)
      exact ih r0 x30 x34 c f (by omega) (by omega) i0 i1 (by omega) (by first | exact y_LA.cg r33 (by omega) (by omega) | exact y_LA.cg i3 (by omega) (by omega) | exact y_LA.z (by assumption) (by omega) (by omega) (by omega)) (by omega)
theorem sf_X12_letterAt_309 {fu : Nat} (hfu : 8589934592 ≤ fu) (r0 : z_M) (c0 : z_CI r0) (a1 : Int) (a2 : Int) (a3 : Int) (b1 : 0 ≤ a1 ∧ a1 ≤ 199) (b2 : 0 ≤ a2 ∧ a2 ≤ 1) (b3 : -2147483648 ≤ a3 ∧ a3 ≤ 2147483647) (p0 : y_B r0) (p1 : y_BK r0) (p2 : a1 < r0 309 58) (p3 : 0 ≤ a3) (p4 : a3 < y_ls r0 a1 a2) : z_T (fX12_letterAt fu r0 309 a1 a2 a3) (P_X12_letterAt_309 r0 a1) := by
  refine T_of (fX12_letterAt.eq_1 ..) ?_
  have u1 := CI_b c0 (k := 309) (j := 20) bd_309_20
  have u2 := CI_b c0 (k := 309) (j := 58) bd_309_58
  have u3 := CI_b c0 (k := 316) (j := 0) bd_316_0
  refine T_if1 (by decide +kernel) ?_
  refine T_let 3451 (by decide +kernel) ?_
  refine T_if1 (z_ixl (n := 200) (by decide +kernel) (by omega) (by omega)) ?_
  refine T_let (3452 + a1) (gr_3451 a1) ?_
  refine T_if1 (z_ixs (sh_r3451 (by omega)) (by omega) (by omega) (by omega)) ?_
  refine T_leq (fun x4 e5 => ?_)
  have u6 := CI_b c0 (k := (3452 + a1)) (j := 0) (bds_r3451_0 (by omega))
  have n7 := CI_b c0 (k := 3452 + a1) (j := 1) (bds_r3451_1 (by omega))
  refine sl_X12_letterAt_309_L13 hfu r0 a1 a2 (by omega) (by omega) (fun s8 y11 y12 c9 f10 b13 b14 g15 g16 g17 g18 g19 => ?_) fu r0 a3 x4 c0 z_Fr.rf (by omega) (by omega) p0 p1 (by omega) (by first | exact y_LA.z (by assumption) (by omega) (by omega) (by omega)) (by omega)
  have q20 := z_Fr.eq (fun a b h => h) f10
  subst q20
  have u21 := CI_b c9 (k := 309) (j := 20) bd_309_20
  have u22 := CI_b c9 (k := 309) (j := 58) bd_309_58
  have u23 := CI_b c9 (k := 316) (j := 0) bd_316_0
  have t24 : r0 309 20 = r0 309 20 := f10 309 20 (by exact not_false)
  have t25 : r0 309 58 = r0 309 58 := f10 309 58 (by exact not_false)
  have t26 : r0 316 0 = r0 316 0 := f10 316 0 (by exact not_false)
  refine T_if1 (by decide +kernel) ?_
  refine T_let 405 (by decide +kernel) ?_
  refine T_if1 (z_ixl (n := 14) (by decide +kernel) (by omega) (by omega)) ?_
  refine T_let 406 (by decide +kernel) ?_
  refine T_if1 (by decide +kernel) ?_
  refine T_let 360 (by decide +kernel) ?_
  refine T_if1 (z_ixl (n := 14) (by decide +kernel) (by omega) (by omega)) ?_
  refine T_let 361 (by decide +kernel) ?_
  refine T_if1 (by decide +kernel) ?_
  refine T_let 3221 (by decide +kernel) ?_
  refine T_if1 (z_ixl (n := 200) (by decide +kernel) (by omega) (by omega)) ?_
  refine T_leq (fun x27 e28 => ?_)
  have u29 := CI_b c9 (k := 3221) (j := y12) (bdr_3221 y12)
  refine T_if1 (z_ixl (n := 200) (by decide +kernel) (by omega) (by omega)) ?_
  refine T_leq (fun x30 e31 => ?_)
  have u32 := CI_b c9 (k := 361) (j := x27) (bdr_361 x27)
  have n33 := y_B.b7 g15 (u := y12) (y := x30) (by omega) (by omega) (by omega) (by assumption) (by assumption)
  refine T_if1 (z_ixl (n := 200) (by decide +kernel) (by omega) (by omega)) ?_
  refine T_let (407 + x30) (gr_406 x30) ?_
  refine T_leq (fun x34 e35 => ?_)
  first | (have w36 := z_wx e35 (by omega)) | (have w36 := z_wr e35)
  refine T_leq (fun x37 e38 => ?_)
  first | (have w39 := z_wx e38 (by omega)) | (have w39 := z_wr e38)
  refine T_leq (fun x40 e41 => ?_)
  first | (have w42 := z_wx e41 (by omega)) | (have w42 := z_wr e41)
  refine T_if1 (z_ixs (sh_L0 (by omega)) (by omega) (by omega) (by omega)) ?_
  refine T_leq (fun x43 e44 => ?_)
  have u45 := CI_w c9 (k := (407 + x30)) (j := x40) (by rw [sh_L0 (by omega)]; decide)
  exact T_ret ⟨c9, f10, ⟨x43, rfl, by omega, by omega⟩⟩
abbrev R_X12_letterPlace_309 (a b : Int) : Prop := False
abbrev P_X12_letterPlace_309 (r0 : z_M) : z_V → z_M → Prop := fun v s' => z_CI s' ∧ z_Fr R_X12_letterPlace_309 r0 s' ∧ (∃ x, v = vI x ∧ -2147483648 ≤ x ∧ x ≤ 2147483647)
theorem sf_X12_letterPlace_309 {fu : Nat} (hfu : 8589934592 ≤ fu) (r0 : z_M) (c0 : z_CI r0) (a1 : Int) (a2 : Int) (a3 : Int) (b1 : 0 ≤ a1 ∧ a1 ≤ 199) (b2 : 0 ≤ a2 ∧ a2 ≤ 1) (b3 : -2147483648 ≤ a3 ∧ a3 ≤ 2147483647) (p0 : y_B r0) (p1 : y_BK r0) (p2 : a1 < r0 309 58) (p3 : 1 ≤ y_ls r0 a1 a2) : z_T (fX12_letterPlace fu r0 309 a1 a2 a3) (P_X12_letterPlace_309 r0) := by
  refine T_of (fX12_letterPlace.eq_1 ..) ?_
  have u1 := CI_b c0 (k := 309) (j := 20) bd_309_20
  have u2 := CI_b c0 (k := 309) (j := 58) bd_309_58
  have u3 := CI_b c0 (k := 316) (j := 0) bd_316_0
  refine T_if1 (by decide +kernel) ?_
  refine T_useI (sf_X12_lettersIn_309 hfu r0 c0 a1 a2 (by omega) (by omega) p0 p1 (by omega)) (fun v9 s4 hq => ?_)
  obtain ⟨c5, f6, ⟨x8, rfl, b10, b11, o12, o13⟩⟩ := hq
  refine T_vI ?_
  have q14 := z_Fr.eq (fun a b h => h) f6
  subst q14
  refine T_if1 (by decide +kernel) ?_
  refine T_let 3442 (by decide +kernel) ?_
  refine T_if1 (by decide +kernel) ?_
  refine T_let 3451 (by decide +kernel) ?_
  refine T_if1 (z_ixl (n := 200) (by decide +kernel) (by omega) (by omega)) ?_
  refine T_let (3452 + a1) (gr_3451 a1) ?_
  refine T_if1 (z_ixs (sh_r3451 (by omega)) (by omega) (by omega) (by omega)) ?_
  refine T_leq (fun x15 e16 => ?_)
  have u17 := CI_b c0 (k := (3452 + a1)) (j := 0) (bds_r3451_0 (by omega))
  refine T_if1 (z_ixl (n := 200) (by decide +kernel) (by omega) (by omega)) ?_
  refine T_leq (fun x18 e19 => ?_)
  have u20 := CI_b c0 (k := 3442) (j := x15) (bdr_3442 x15)
  refine T_if1 (by decide +kernel) ?_
  refine T_let 3451 (by decide +kernel) ?_
  refine T_if1 (z_ixl (n := 200) (by decide +kernel) (by omega) (by omega)) ?_
  refine T_let (3452 + a1) (gr_3451 a1) ?_
  refine T_if1 (z_ixs (sh_r3451 (by omega)) (by omega) (by omega) (by omega)) ?_
  refine T_leq (fun x21 e22 => ?_)
  have u23 := CI_b c0 (k := (3452 + a1)) (j := 2) (bds_r3451_2 (by omega))
  refine T_leq (fun x24 e25 => ?_)
  first | (have w26 := z_wx e25 (by omega)) | (have w26 := z_wr e25)
  refine T_ite (fun h27 => ?_) (fun h27 => ?_)
  · refine T_leq (fun x28 e29 => ?_)
    first | (have w30 := z_wx e29 (by omega)) | (have w30 := z_wr e29)
    refine T_leq (fun x31 e32 => ?_)
    first | (have w33 := z_wx e32 (by omega)) | (have w33 := z_wr e32)
    refine T_leq (fun x34 e35 => ?_)
    first | (have w36 := z_wx e35 (by omega)) | (have w36 := z_wr e35)
    refine T_leq (fun x37 e38 => ?_)
    first | (have w39 := z_wx e38 (by omega)) | (have w39 := z_wr e38)
    refine T_if1 (by omega) ?_
    refine T_leq (fun x40 e41 => ?_)
    have w42 := z_wr e41
    refine T_leq (fun x43 e44 => ?_)
    first | (have w45 := z_wx e44 (by omega)) | (have w45 := z_wr e44)
    refine T_leq (fun x46 e47 => ?_)
    first | (have w48 := z_wx e47 (by omega)) | (have w48 := z_wr e47)
    exact T_ret ⟨c0, z_Fr.rf, ⟨x46, rfl, by omega, by omega⟩⟩
  · refine T_leq (fun x49 e50 => ?_)
    have q51 : x24 = x49 := e25.symm.trans e50
    subst q51
    refine T_leq (fun x52 e53 => ?_)
    first | (have w54 := z_wx e53 (by omega)) | (have w54 := z_wr e53)
    refine T_if1 (by omega) ?_
    refine T_leq (fun x55 e56 => ?_)
    have w57 := z_wr e56
    refine T_leq (fun x58 e59 => ?_)
    first | (have w60 := z_wx e59 (by omega)) | (have w60 := z_wr e59)
    refine T_leq (fun x61 e62 => ?_)
    first | (have w63 := z_wx e62 (by omega)) | (have w63 := z_wr e62)
    refine T_leq (fun x64 e65 => ?_)
    first | (have w66 := z_wx e65 (by omega)) | (have w66 := z_wr e65)
    exact T_ret ⟨c0, z_Fr.rf, ⟨x64, rfl, by omega, by omega⟩⟩
abbrev R_X12_reading_309 (a b : Int) : Prop := (310 ≤ a ∧ a ≤ 310) ∨ (3224 ≤ a ∧ a ≤ 3651) ∨ (a = 309 ∧ (b = 0 ∨ b = 35 ∨ b = 36 ∨ b = 38 ∨ b = 39 ∨ b = 43 ∨ b = 44 ∨ b = 58))
abbrev P_X12_reading_309 (r0 : z_M) : z_V → z_M → Prop := fun v s' => z_CI s' ∧ z_Fr R_X12_reading_309 r0 s' ∧ (y_TA s') ∧ (y_DD s') ∧ (y_B s') ∧ (y_K s') ∧ (∃ x, v = vI x ∧ -2147483648 ≤ x ∧ x ≤ 2147483647)
theorem rs_X12_laysAll_309__X12_reading_309 (a b : Int) (h : R_X12_laysAll_309 a b) : R_X12_reading_309 a b := (h.elim (fun h => (Or.inr (Or.inl (⟨by omega, by omega⟩)))) (fun h => (Or.inr (Or.inr (⟨h.1, by omega⟩)))))
theorem rs_X12_bad_309__X12_reading_309 (a b : Int) (h : R_X12_bad_309 a b) : R_X12_reading_309 a b := (h.elim (fun h => (Or.inl (⟨by omega, by omega⟩))) (fun h => (Or.inr (Or.inr (⟨h.1, by omega⟩)))))
theorem sj_X12_reading_309_J70 {fu : Nat} (hfu : 8589934592 ≤ fu) (r0 s : z_M) (c : z_CI s) (f : z_Fr R_X12_reading_309 r0 s) (p0 : y_TA s) (p1 : y_DD s) (p2 : y_B s) (p3 : y_K s) : z_T (fX12_reading_J70 fu s) (P_X12_reading_309 r0) := by
  refine T_of (fX12_reading_J70.eq_1 ..) ?_
  have u1 := CI_b c (k := 309) (j := 20) bd_309_20
  have u2 := CI_b c (k := 309) (j := 36) bd_309_36
  have u3 := CI_b c (k := 309) (j := 43) bd_309_43
  have u4 := CI_b c (k := 309) (j := 44) bd_309_44
  have u5 := CI_b c (k := 309) (j := 58) bd_309_58
  have u6 := CI_b c (k := 316) (j := 0) bd_316_0
  have u7 := CI_b c (k := 329) (j := 0) bd_329_0
  have u8 := CI_b c (k := 329) (j := 1) bd_329_1
  have t9 : s 309 20 = r0 309 20 := f 309 20 (by decide)
  have t10 : s 316 0 = r0 316 0 := f 316 0 (by decide)
  have t11 : s 329 0 = r0 329 0 := f 329 0 (by decide)
  have t12 : s 329 1 = r0 329 1 := f 329 1 (by decide)
  exact T_ret ⟨c, f, p0, (by first | exact p1 | exact y_DD.z (by omega) (by omega)), p2, (by first | exact p3 | exact y_K.b0 (by omega) | exact y_K.k0 (by omega) | exact y_K.bk (by omega)), ⟨0, rfl, by omega, by omega⟩⟩
theorem sj_X12_reading_309_J123 {fu : Nat} (hfu : 8589934592 ≤ fu) (r0 s : z_M) (c : z_CI s) (f : z_Fr R_X12_reading_309 r0 s) (t0 : Int) (d0 : -2147483648 ≤ t0 ∧ t0 ≤ 2147483647) (p0 : y_TA s) (p1 : y_DD s) (p2 : y_B s) (p3 : y_K s) : z_T (fX12_reading_J123 fu s t0) (P_X12_reading_309 r0) := by
  refine T_of (fX12_reading_J123.eq_1 ..) ?_
  have u1 := CI_b c (k := 309) (j := 20) bd_309_20
  have u2 := CI_b c (k := 309) (j := 36) bd_309_36
  have u3 := CI_b c (k := 309) (j := 43) bd_309_43
  have u4 := CI_b c (k := 309) (j := 44) bd_309_44
  have u5 := CI_b c (k := 309) (j := 58) bd_309_58
  have u6 := CI_b c (k := 316) (j := 0) bd_316_0
  have u7 := CI_b c (k := 329) (j := 0) bd_329_0
  have u8 := CI_b c (k := 329) (j := 1) bd_329_1
  have t9 : s 309 20 = r0 309 20 := f 309 20 (by decide)
  have t10 : s 316 0 = r0 316 0 := f 316 0 (by decide)
  have t11 : s 329 0 = r0 329 0 := f 329 0 (by decide)
  have t12 : s 329 1 = r0 329 1 := f 329 1 (by decide)
  exact T_ret ⟨c, f, p0, (by first | exact p1 | exact y_DD.z (by omega) (by omega)), p2, (by first | exact p3 | exact y_K.b0 (by omega) | exact y_K.k0 (by omega) | exact y_K.bk (by omega)), ⟨t0, rfl, by omega, by omega⟩⟩
theorem sj_X12_reading_309_J100 {fu : Nat} (hfu : 8589934592 ≤ fu) (r0 s : z_M) (c : z_CI s) (f : z_Fr R_X12_reading_309 r0 s) (t0 : Int) (d0 : -2147483648 ≤ t0 ∧ t0 ≤ 2147483647) (p0 : y_TA s) (p1 : y_DD s) (p2 : y_B s) (p3 : y_K s) : z_T (fX12_reading_J100 fu s t0) (P_X12_reading_309 r0) := by
  refine T_of (fX12_reading_J100.eq_1 ..) ?_
  have u1 := CI_b c (k := 309) (j := 20) bd_309_20
  have u2 := CI_b c (k := 309) (j := 36) bd_309_36
  have u3 := CI_b c (k := 309) (j := 43) bd_309_43
  have u4 := CI_b c (k := 309) (j := 44) bd_309_44
  have u5 := CI_b c (k := 309) (j := 58) bd_309_58
  have u6 := CI_b c (k := 316) (j := 0) bd_316_0
  have u7 := CI_b c (k := 329) (j := 0) bd_329_0
  have u8 := CI_b c (k := 329) (j := 1) bd_329_1
  have t9 : s 309 20 = r0 309 20 := f 309 20 (by decide)
  have t10 : s 316 0 = r0 316 0 := f 316 0 (by decide)
  have t11 : s 329 0 = r0 329 0 := f 329 0 (by decide)
  have t12 : s 329 1 = r0 329 1 := f 329 1 (by decide)
  exact T_ret ⟨c, f, p0, (by first | exact p1 | exact y_DD.z (by omega) (by omega)), p2, (by first | exact p3 | exact y_K.b0 (by omega) | exact y_K.k0 (by omega) | exact y_K.bk (by omega)), ⟨t0, rfl, by omega, by omega⟩⟩
theorem sj_X12_reading_309_J62 {fu : Nat} (hfu : 8589934592 ≤ fu) (r0 s : z_M) (c : z_CI s) (f : z_Fr R_X12_reading_309 r0 s) (a1 : Int) (a2 : Int) (a3 : Int) (a4 : Int) (t1 : Int) (b1 : -2147483648 ≤ a1 ∧ a1 ≤ 2147483647) (b2 : -2147483648 ≤ a2 ∧ a2 ≤ 2147483647) (b3 : -2147483648 ≤ a3 ∧ a3 ≤ 2147483647) (b4 : -2147483648 ≤ a4 ∧ a4 ≤ 2147483647) (d1 : 0 ≤ t1 ∧ t1 ≤ 1) (p0 : 0 ≤ a1 ∧ a1 < s 309 58) (p1 : t1 = 1 ∨ (0 ≤ a2 ∧ a2 ≤ 1)) (p2 : y_BK s) (p3 : y_TA s) (p4 : y_DD s) (p5 : y_B s) (p6 : y_K s) : z_T (fX12_reading_J62 fu s 309 a1 a2 a3 a4 309 t1) (P_X12_reading_309 r0) := by
  refine T_of (fX12_reading_J62.eq_1 ..) ?_
  have u1 := CI_b c (k := 309) (j := 20) bd_309_20
  have u2 := CI_b c (k := 309) (j := 36) bd_309_36
  have u3 := CI_b c (k := 309) (j := 43) bd_309_43
  have u4 := CI_b c (k := 309) (j := 44) bd_309_44
  have u5 := CI_b c (k := 309) (j := 58) bd_309_58
  have u6 := CI_b c (k := 316) (j := 0) bd_316_0
  have u7 := CI_b c (k := 329) (j := 0) bd_329_0
  have u8 := CI_b c (k := 329) (j := 1) bd_329_1
  have t9 : s 309 20 = r0 309 20 := f 309 20 (by decide)
  have t10 : s 316 0 = r0 316 0 := f 316 0 (by decide)
  have t11 : s 329 0 = r0 329 0 := f 329 0 (by decide)
  have t12 : s 329 1 = r0 329 1 := f 329 1 (by decide)
  refine T_if1 (by decide +kernel) ?_
  refine T_useI (sf_X12_bad_309 hfu s c t1 2 1 (by omega) (by omega) (by omega) (by omega)) (fun v18 s13 hq => ?_)
  obtain ⟨c14, f15, o19, ⟨x17, rfl, b20, b21, o22, o23⟩⟩ := hq
  refine T_vI ?_
  have f16 := z_Fr.tr (R := R_X12_reading_309) f f15 rs_X12_bad_309__X12_reading_309
  have t24 : s13 309 20 = s 309 20 := f15 309 20 (by decide)
  have t25 : s13 309 36 = s 309 36 := f15 309 36 (by decide)
  have t26 : s13 309 43 = s 309 43 := f15 309 43 (by decide)
  have t27 : s13 309 44 = s 309 44 := f15 309 44 (by decide)
  have t28 : s13 309 58 = s 309 58 := f15 309 58 (by decide)
  have t29 : s13 316 0 = s 316 0 := f15 316 0 (by decide)
  have t30 : s13 329 0 = s 329 0 := f15 329 0 (by decide)
  have t31 : s13 329 1 = s 329 1 := f15 329 1 (by decide)
  have r32 := y_BK.fr p2 (by omega) (f15 309 20 (by decide)) (f15 309 58 (by decide)) (fun b => f15 3220 b (nr_X12_bad_309__3220 b)) (fun a b h => f15 a b (nq_X12_bad_309__3452 a b h))
  have r33 := y_TA.fr p3 (fun a b h => f15 a b (nq_X12_bad_309__316 a b h)) (fun a b h => f15 a b (nq_X12_bad_309__346 a b h)) (fun a b h => f15 a b (nq_X12_bad_309__361 a b h))
  have r34 := y_DD.fr p4 (f15 329 0 (by decide)) (f15 329 1 (by decide)) (fun b => f15 359 b (nr_X12_bad_309__359 b)) (fun b => f15 374 b (nr_X12_bad_309__374 b))
  have r35 := y_B.fr p5 (f15 309 20 (by decide)) (f15 316 0 (by decide)) (fun b => f15 3220 b (nr_X12_bad_309__3220 b)) (fun b => f15 3221 b (nr_X12_bad_309__3221 b)) (fun b => f15 3222 b (nr_X12_bad_309__3222 b)) (fun b => f15 361 b (nr_X12_bad_309__361 b))
  have r36 := y_K.fr p6 (by omega) (by omega) (f15 309 44 (by decide)) (f15 309 20 (by decide)) (f15 309 58 (by decide)) (fun b => f15 3438 b (nr_X12_bad_309__3438 b)) (fun b => f15 3220 b (nr_X12_bad_309__3220 b)) (fun a b h => f15 a b (nq_X12_bad_309__3452 a b h))
  refine T_ite (fun h37 => ?_) (fun h37 => ?_)
  · refine T_if1 (by decide +kernel) ?_
    refine T_useI (sf_X12_lettersIn_309 hfu s13 c14 a1 a2 (by omega) (by omega) r35 (by first | exact r32 | exact y_K.B r36 (by omega) (by omega)) (by omega)) (fun v43 s38 hq => ?_)
    obtain ⟨c39, f40, ⟨x42, rfl, b44, b45, o46, o47⟩⟩ := hq
    refine T_vI ?_
    have q48 := z_Fr.eq (fun a b h => h) f40
    subst q48
    refine T_leq (fun x49 e50 => ?_)
    first | (have w51 := z_wx e50 (by omega)) | (have w51 := z_wr e50)
    refine T_useI (sf_X12_in hfu s13 c14 a3 0 x49 (by omega) (by omega) (by omega)) (fun v57 s52 hq => ?_)
    obtain ⟨c53, f54, ⟨x56, rfl, b58, b59, o60⟩⟩ := hq
    refine T_vI ?_
    have q61 := z_Fr.eq (fun a b h => h) f54
    subst q61
    refine T_ite (fun h62 => ?_) (fun h62 => ?_)
    · refine T_ite (fun h63 => ?_) (fun h63 => ?_)
      · refine T_if1 (by decide +kernel) ?_
        refine T_useI (sf_X12_letterPlace_309 hfu s13 c14 a1 a2 a3 (by omega) (by omega) (by omega) r35 (by first | exact r32 | exact y_K.B r36 (by omega) (by omega)) (by omega) (by omega)) (fun v69 s64 hq => ?_)
        obtain ⟨c65, f66, ⟨x68, rfl, b70, b71⟩⟩ := hq
        refine T_vI ?_
        have q72 := z_Fr.eq (fun a b h => h) f66
        subst q72
        exact sj_X12_reading_309_J123 hfu r0 s13 c14 f16 x68 (by omega) r33 (by first | exact r34 | exact y_DD.z (by omega) (by omega)) r35 (by first | exact r36 | exact y_K.b0 (by omega) | exact y_K.k0 (by omega) | exact y_K.bk (by omega))
      · refine T_if1 (by decide +kernel) ?_
        refine T_useI (sf_X12_letterAt_309 hfu s13 c14 a1 a2 a3 (by omega) (by omega) (by omega) r35 (by first | exact r32 | exact y_K.B r36 (by omega) (by omega)) (by omega) (by omega) (by omega)) (fun v78 s73 hq => ?_)
        obtain ⟨c74, f75, ⟨x77, rfl, b79, b80⟩⟩ := hq
        refine T_vI ?_
        have q81 := z_Fr.eq (fun a b h => h) f75
        subst q81
        exact sj_X12_reading_309_J123 hfu r0 s13 c14 f16 x77 (by omega) r33 (by first | exact r34 | exact y_DD.z (by omega) (by omega)) r35 (by first | exact r36 | exact y_K.b0 (by omega) | exact y_K.k0 (by omega) | exact y_K.bk (by omega))
    · refine T_ite (fun h82 => ?_) (fun h82 => ?_)
      · exact sj_X12_reading_309_J100 hfu r0 s13 c14 f16 (-1000) (by omega) r33 (by first | exact r34 | exact y_DD.z (by omega) (by omega)) r35 (by first | exact r36 | exact y_K.b0 (by omega) | exact y_K.k0 (by omega) | exact y_K.bk (by omega))
      · exact sj_X12_reading_309_J100 hfu r0 s13 c14 f16 (-1) (by omega) r33 (by first | exact r34 | exact y_DD.z (by omega) (by omega)) r35 (by first | exact r36 | exact y_K.b0 (by omega) | exact y_K.k0 (by omega) | exact y_K.bk (by omega))
  · exact sj_X12_reading_309_J70 hfu r0 s13 c14 f16 r33 (by first | exact r34 | exact y_DD.z (by omega) (by omega)) r35 (by first | exact r36 | exact y_K.b0 (by omega) | exact y_K.k0 (by omega) | exact y_K.bk (by omega))
theorem sj_X12_reading_309_J57 {fu : Nat} (hfu : 8589934592 ≤ fu) (r0 s : z_M) (c : z_CI s) (f : z_Fr R_X12_reading_309 r0 s) (a1 : Int) (a2 : Int) (a3 : Int) (a4 : Int) (b1 : -2147483648 ≤ a1 ∧ a1 ≤ 2147483647) (b2 : -2147483648 ≤ a2 ∧ a2 ≤ 2147483647) (b3 : -2147483648 ≤ a3 ∧ a3 ≤ 2147483647) (b4 : -2147483648 ≤ a4 ∧ a4 ≤ 2147483647) (p0 : 0 ≤ a1 ∧ a1 < s 309 58) (p1 : y_BK s) (p2 : y_TA s) (p3 : y_DD s) (p4 : y_B s) (p5 : y_K s) : z_T (fX12_reading_J57 fu s 309 a1 a2 a3 a4 309) (P_X12_reading_309 r0) := by
  refine T_of (fX12_reading_J57.eq_1 ..) ?_
  have u1 := CI_b c (k := 309) (j := 20) bd_309_20
  have u2 := CI_b c (k := 309) (j := 36) bd_309_36
  have u3 := CI_b c (k := 309) (j := 43) bd_309_43
  have u4 := CI_b c (k := 309) (j := 44) bd_309_44
  have u5 := CI_b c (k := 309) (j := 58) bd_309_58
  have u6 := CI_b c (k := 316) (j := 0) bd_316_0
  have u7 := CI_b c (k := 329) (j := 0) bd_329_0
  have u8 := CI_b c (k := 329) (j := 1) bd_329_1
  have t9 : s 309 20 = r0 309 20 := f 309 20 (by decide)
  have t10 : s 316 0 = r0 316 0 := f 316 0 (by decide)
  have t11 : s 329 0 = r0 329 0 := f 329 0 (by decide)
  have t12 : s 329 1 = r0 329 1 := f 329 1 (by decide)
  exact sj_X12_reading_309_J62 hfu r0 s c f a1 a2 a3 a4 1 (by omega) (by omega) (by omega) (by omega) (by omega) (by omega) (by omega) (by first | exact p1 | exact y_K.B p5 (by omega) (by omega)) p2 (by first | exact p3 | exact y_DD.z (by omega) (by omega)) p4 (by first | exact p5 | exact y_K.b0 (by omega) | exact y_K.k0 (by omega) | exact y_K.bk (by omega))
theorem sj_X12_reading_309_J29 {fu : Nat} (hfu : 8589934592 ≤ fu) (r0 s : z_M) (c : z_CI s) (f : z_Fr R_X12_reading_309 r0 s) (a1 : Int) (a2 : Int) (a3 : Int) (a4 : Int) (t1 : Int) (b1 : -2147483648 ≤ a1 ∧ a1 ≤ 2147483647) (b2 : -2147483648 ≤ a2 ∧ a2 ≤ 2147483647) (b3 : -2147483648 ≤ a3 ∧ a3 ≤ 2147483647) (b4 : -2147483648 ≤ a4 ∧ a4 ≤ 2147483647) (d1 : 0 ≤ t1 ∧ t1 ≤ 1) (p0 : t1 = 1 ∨ (0 ≤ a1 ∧ a1 < s 309 58)) (p1 : y_BK s) (p2 : y_TA s) (p3 : y_DD s) (p4 : y_B s) (p5 : y_K s) : z_T (fX12_reading_J29 fu s 309 a1 a2 a3 a4 309 t1) (P_X12_reading_309 r0) := by
  refine T_of (fX12_reading_J29.eq_1 ..) ?_
  have u1 := CI_b c (k := 309) (j := 20) bd_309_20
  have u2 := CI_b c (k := 309) (j := 36) bd_309_36
  have u3 := CI_b c (k := 309) (j := 43) bd_309_43
  have u4 := CI_b c (k := 309) (j := 44) bd_309_44
  have u5 := CI_b c (k := 309) (j := 58) bd_309_58
  have u6 := CI_b c (k := 316) (j := 0) bd_316_0
  have u7 := CI_b c (k := 329) (j := 0) bd_329_0
  have u8 := CI_b c (k := 329) (j := 1) bd_329_1
  have t9 : s 309 20 = r0 309 20 := f 309 20 (by decide)
  have t10 : s 316 0 = r0 316 0 := f 316 0 (by decide)
  have t11 : s 329 0 = r0 329 0 := f 329 0 (by decide)
  have t12 : s 329 1 = r0 329 1 := f 329 1 (by decide)
  refine T_if1 (by decide +kernel) ?_
  refine T_useI (sf_X12_bad_309 hfu s c t1 1 0 (by omega) (by omega) (by omega) (by omega)) (fun v18 s13 hq => ?_)
  obtain ⟨c14, f15, o19, ⟨x17, rfl, b20, b21, o22, o23⟩⟩ := hq
  refine T_vI ?_
  have f16 := z_Fr.tr (R := R_X12_reading_309) f f15 rs_X12_bad_309__X12_reading_309
  have t24 : s13 309 20 = s 309 20 := f15 309 20 (by decide)
  have t25 : s13 309 36 = s 309 36 := f15 309 36 (by decide)
  have t26 : s13 309 43 = s 309 43 := f15 309 43 (by decide)
  have t27 : s13 309 44 = s 309 44 := f15 309 44 (by decide)
  have t28 : s13 309 58 = s 309 58 := f15 309 58 (by decide)
  have t29 : s13 316 0 = s 316 0 := f15 316 0 (by decide)
  have t30 : s13 329 0 = s 329 0 := f15 329 0 (by decide)
  have t31 : s13 329 1 = s 329 1 := f15 329 1 (by decide)
  have r32 := y_BK.fr p1 (by omega) (f15 309 20 (by decide)) (f15 309 58 (by decide)) (fun b => f15 3220 b (nr_X12_bad_309__3220 b)) (fun a b h => f15 a b (nq_X12_bad_309__3452 a b h))
  have r33 := y_TA.fr p2 (fun a b h => f15 a b (nq_X12_bad_309__316 a b h)) (fun a b h => f15 a b (nq_X12_bad_309__346 a b h)) (fun a b h => f15 a b (nq_X12_bad_309__361 a b h))
  have r34 := y_DD.fr p3 (f15 329 0 (by decide)) (f15 329 1 (by decide)) (fun b => f15 359 b (nr_X12_bad_309__359 b)) (fun b => f15 374 b (nr_X12_bad_309__374 b))
  have r35 := y_B.fr p4 (f15 309 20 (by decide)) (f15 316 0 (by decide)) (fun b => f15 3220 b (nr_X12_bad_309__3220 b)) (fun b => f15 3221 b (nr_X12_bad_309__3221 b)) (fun b => f15 3222 b (nr_X12_bad_309__3222 b)) (fun b => f15 361 b (nr_X12_bad_309__361 b))
  have r36 := y_K.fr p5 (by omega) (by omega) (f15 309 44 (by decide)) (f15 309 20 (by decide)) (f15 309 58 (by decide)) (fun b => f15 3438 b (nr_X12_bad_309__3438 b)) (fun b => f15 3220 b (nr_X12_bad_309__3220 b)) (fun a b h => f15 a b (nq_X12_bad_309__3452 a b h))
  refine T_ite (fun h37 => ?_) (fun h37 => ?_)
  · exact sj_X12_reading_309_J70 hfu r0 s13 c14 f16 r33 (by first | exact r34 | exact y_DD.z (by omega) (by omega)) r35 (by first | exact r36 | exact y_K.b0 (by omega) | exact y_K.k0 (by omega) | exact y_K.bk (by omega))
  · refine T_useI (sf_X12_in hfu s13 c14 a2 0 1 (by omega) (by omega) (by omega)) (fun v43 s38 hq => ?_)
    obtain ⟨c39, f40, ⟨x42, rfl, b44, b45, o46⟩⟩ := hq
    refine T_vI ?_
    have q47 := z_Fr.eq (fun a b h => h) f40
    subst q47
    refine T_ite (fun h48 => ?_) (fun h48 => ?_)
    · exact sj_X12_reading_309_J57 hfu r0 s13 c14 f16 a1 a2 a3 a4 (by omega) (by omega) (by omega) (by omega) (by omega) (by first | exact r32 | exact y_K.B r36 (by omega) (by omega)) r33 (by first | exact r34 | exact y_DD.z (by omega) (by omega)) r35 (by first | exact r36 | exact y_K.b0 (by omega) | exact y_K.k0 (by omega) | exact y_K.bk (by omega))
    · refine T_useI (sf_X12_in hfu s13 c14 a4 0 1 (by omega) (by omega) (by omega)) (fun v54 s49 hq => ?_)
      obtain ⟨c50, f51, ⟨x53, rfl, b55, b56, o57⟩⟩ := hq
      refine T_vI ?_
      have q58 := z_Fr.eq (fun a b h => h) f51
      subst q58
      refine T_ite (fun h59 => ?_) (fun h59 => ?_)
      · exact sj_X12_reading_309_J62 hfu r0 s13 c14 f16 a1 a2 a3 a4 0 (by omega) (by omega) (by omega) (by omega) (by omega) (by omega) (by omega) (by first | exact r32 | exact y_K.B r36 (by omega) (by omega)) r33 (by first | exact r34 | exact y_DD.z (by omega) (by omega)) r35 (by first | exact r36 | exact y_K.b0 (by omega) | exact y_K.k0 (by omega) | exact y_K.bk (by omega))
      · exact sj_X12_reading_309_J57 hfu r0 s13 c14 f16 a1 a2 a3 a4 (by omega) (by omega) (by omega) (by omega) (by omega) (by first | exact r32 | exact y_K.B r36 (by omega) (by omega)) r33 (by first | exact r34 | exact y_DD.z (by omega) (by omega)) r35 (by first | exact r36 | exact y_K.b0 (by omega) | exact y_K.k0 (by omega) | exact y_K.bk (by omega))
theorem sf_X12_reading_309 {fu : Nat} (hfu : 8589934592 ≤ fu) (r0 : z_M) (c0 : z_CI r0) (a1 : Int) (a2 : Int) (a3 : Int) (a4 : Int) (b1 : -2147483648 ≤ a1 ∧ a1 ≤ 2147483647) (b2 : -2147483648 ≤ a2 ∧ a2 ≤ 2147483647) (b3 : -2147483648 ≤ a3 ∧ a3 ≤ 2147483647) (b4 : -2147483648 ≤ a4 ∧ a4 ≤ 2147483647) (p0 : y_TA r0) (p1 : y_DD r0) (p2 : y_B r0) (p3 : y_K r0) : z_T (fX12_reading fu r0 309 a1 a2 a3 a4) (P_X12_reading_309 r0) := by
  refine T_of (fX12_reading.eq_1 ..) ?_
  have u1 := CI_b c0 (k := 309) (j := 20) bd_309_20
  have u2 := CI_b c0 (k := 309) (j := 36) bd_309_36
  have u3 := CI_b c0 (k := 309) (j := 43) bd_309_43
  have u4 := CI_b c0 (k := 309) (j := 44) bd_309_44
  have u5 := CI_b c0 (k := 309) (j := 58) bd_309_58
  have u6 := CI_b c0 (k := 316) (j := 0) bd_316_0
  have u7 := CI_b c0 (k := 329) (j := 0) bd_329_0
  have u8 := CI_b c0 (k := 329) (j := 1) bd_329_1
  refine T_if1 (by decide +kernel) ?_
  refine T_upg c0 bd_309_0 (by omega) (fun s9 c10 g12 g13 e14 => ?_)
  have f11 := z_Fr.upf (R := R_X12_reading_309) z_Fr.rf g12 g13 (Or.inr (Or.inr (⟨rfl, by decide⟩)))
  have t15 : s9 309 20 = r0 309 20 := g13 20 (by decide)
  have t16 : s9 309 36 = r0 309 36 := g13 36 (by decide)
  have t17 : s9 309 43 = r0 309 43 := g13 43 (by decide)
  have t18 : s9 309 44 = r0 309 44 := g13 44 (by decide)
  have t19 : s9 309 58 = r0 309 58 := g13 58 (by decide)
  have t20 : s9 316 0 = r0 316 0 := g12 316 0 (by decide)
  have t21 : s9 329 0 = r0 329 0 := g12 329 0 (by decide)
  have t22 : s9 329 1 = r0 329 1 := g12 329 1 (by decide)
  have r23 := y_TA.fr p0 (fun a b h => g12 a b (by omega)) (fun a b h => g12 a b (by omega)) (fun a b h => g12 a b (by omega))
  have r24 := y_DD.fr p1 (g12 329 0 (by decide)) (g12 329 1 (by decide)) (fun b => g12 359 b (by decide)) (fun b => g12 374 b (by decide))
  have r25 := y_B.fr p2 (g13 20 (by decide)) (g12 316 0 (by decide)) (fun b => g12 3220 b (by decide)) (fun b => g12 3221 b (by decide)) (fun b => g12 3222 b (by decide)) (fun b => g12 361 b (by decide))
  have r26 := y_K.fr p3 (by omega) (by omega) (g13 44 (by decide)) (g13 20 (by decide)) (g13 58 (by decide)) (fun b => g12 3438 b (by decide)) (fun b => g12 3220 b (by decide)) (fun a b h => g12 a b (by omega))
  refine T_if1 (by decide +kernel) ?_
  refine T_useN (sf_X12_laysAll_309 hfu s9 c10 r25 (by first | exact r26 | exact y_K.b0 (by omega) | exact y_K.k0 (by omega) | exact y_K.bk (by omega))) (fun v32 s27 hq => ?_)
  obtain ⟨c28, f29, o33, o34, o35, o36, o37, o38, rfl⟩ := hq
  refine T_vN ?_
  have f30 := z_Fr.tr (R := R_X12_reading_309) f11 f29 rs_X12_laysAll_309__X12_reading_309
  have t41 : s27 309 20 = r0 309 20 := (f29 309 20 (by decide)).trans t15
  have t42 : s27 316 0 = r0 316 0 := (f29 316 0 (by decide)).trans t20
  have t43 : s27 329 0 = r0 329 0 := (f29 329 0 (by decide)).trans t21
  have t44 : s27 329 1 = r0 329 1 := (f29 329 1 (by decide)).trans t22
  have u45 := CI_b c28 (k := 309) (j := 36) bd_309_36
  have u46 := CI_b c28 (k := 309) (j := 43) bd_309_43
  have u47 := CI_b c28 (k := 309) (j := 44) bd_309_44
  have u48 := CI_b c28 (k := 309) (j := 58) bd_309_58
  have r49 := y_TA.fr r23 (fun a b h => f29 a b (nq_X12_laysAll_309__316 a b h)) (fun a b h => f29 a b (nq_X12_laysAll_309__346 a b h)) (fun a b h => f29 a b (nq_X12_laysAll_309__361 a b h))
  have r50 := y_DD.fr r24 (f29 329 0 (by decide)) (f29 329 1 (by decide)) (fun b => f29 359 b (nr_X12_laysAll_309__359 b)) (fun b => f29 374 b (nr_X12_laysAll_309__374 b))
  have r51 := y_B.fr r25 (f29 309 20 (by decide)) (f29 316 0 (by decide)) (fun b => f29 3220 b (nr_X12_laysAll_309__3220 b)) (fun b => f29 3221 b (nr_X12_laysAll_309__3221 b)) (fun b => f29 3222 b (nr_X12_laysAll_309__3222 b)) (fun b => f29 361 b (nr_X12_laysAll_309__361 b))
  clear t15
  clear t20
  clear t21
  clear t22
  refine T_if1 (by decide +kernel) ?_
  refine T_leq (fun x52 e53 => ?_)
  have u54 := CI_b c28 (k := 309) (j := 58) bd_309_58
  refine T_leq (fun x55 e56 => ?_)
  first | (have w57 := z_wx e56 (by omega)) | (have w57 := z_wr e56)
  refine T_useI (sf_X12_in hfu s27 c28 a1 0 x55 (by omega) (by omega) (by omega)) (fun v63 s58 hq => ?_)
  obtain ⟨c59, f60, ⟨x62, rfl, b64, b65, o66⟩⟩ := hq
  refine T_vI ?_
  have q67 := z_Fr.eq (fun a b h => h) f60
  subst q67
  refine T_ite (fun h68 => ?_) (fun h68 => ?_)
  · exact sj_X12_reading_309_J29 hfu r0 s27 c28 f30 a1 a2 a3 a4 0 (by omega) (by omega) (by omega) (by omega) (by omega) (by omega) (by first | exact o35 | exact y_K.B o33 (by omega) (by omega)) r49 (by first | exact r50 | exact y_DD.z (by omega) (by omega)) r51 (by first | exact o33 | exact y_K.b0 (by omega) | exact y_K.k0 (by omega) | exact y_K.bk (by omega) | exact y_K.mk o34 (by omega) o35)
  · exact sj_X12_reading_309_J29 hfu r0 s27 c28 f30 a1 a2 a3 a4 1 (by omega) (by omega) (by omega) (by omega) (by omega) (by omega) (by first | exact o35 | exact y_K.B o33 (by omega) (by omega)) r49 (by first | exact r50 | exact y_DD.z (by omega) (by omega)) r51 (by first | exact o33 | exact y_K.b0 (by omega) | exact y_K.k0 (by omega) | exact y_K.bk (by omega) | exact y_K.mk o34 (by omega) o35)
abbrev R_X12_run_309 (a b : Int) : Prop := (310 ≤ a ∧ a ≤ 310) ∨ (a = 309 ∧ (b = 0))
abbrev P_X12_run_309 (r0 : z_M) : z_V → z_M → Prop := fun v s' => z_CI s' ∧ z_Fr R_X12_run_309 r0 s' ∧ (y_TA s') ∧ (y_DD s') ∧ (y_B s') ∧ (y_K s') ∧ (∃ x, v = vI x ∧ -2147483648 ≤ x ∧ x ≤ 2147483647)
theorem rs_X12_bad_309__X12_run_309 (a b : Int) (h : R_X12_bad_309 a b) : R_X12_run_309 a b := (h.elim (fun h => (Or.inl (⟨by omega, by omega⟩))) (fun h => (Or.inr (⟨h.1, by omega⟩))))
theorem sl_X12_run_309_L51 {fu : Nat} (hfu : 8589934592 ≤ fu) (r0 : z_M) (a1 : Int) (a2 : Int) (a3 : Int) (a4 : Int) (b1 : -2147483648 ≤ a1 ∧ a1 ≤ 2147483647) (b2 : -2147483648 ≤ a2 ∧ a2 ≤ 2147483647) (b3 : -2147483648 ≤ a3 ∧ a3 ≤ 2147483647) (b4 : 0 ≤ a4 ∧ a4 ≤ 199) {k : z_M → Int → z_O} (hk : ∀ (s' : z_M) (v5 : Int), z_CI s' → z_Fr R_X12_run_309 r0 s' → (1 ≤ v5 ∧ v5 ≤ 200) → (a4 + v5 ≤ s' 316 0) → (y_TA s') → (y_DD s') → (y_B s') → (y_K s') → z_T (k s' v5) (P_X12_run_309 r0)) : ∀ (F : Nat) (s : z_M) (a5 : Int), z_CI s → z_Fr R_X12_run_309 r0 s → (1 ≤ a5 ∧ a5 ≤ 200) → (a4 + a5 ≤ s 316 0) → (y_TA s) → (y_DD s) → (y_B s) → (y_K s) → (2147483647 - a5 < (F : Int)) → z_T (fX12_run_L51 fu 309 a1 a2 a3 a4 F s a5 k) (P_X12_run_309 r0) := by
  intro F
  induction F with
  | zero =>
    intro s a5 c f b5 i0 i1 i2 i3 i4 hm
    have u49 := CI_b c (k := 309) (j := 20) bd_309_20
    have u50 := CI_b c (k := 309) (j := 36) bd_309_36
    have u51 := CI_b c (k := 309) (j := 43) bd_309_43
    have u52 := CI_b c (k := 309) (j := 44) bd_309_44
    have u53 := CI_b c (k := 309) (j := 58) bd_309_58
    have u54 := CI_b c (k := 316) (j := 0) bd_316_0
    have u55 := CI_b c (k := 329) (j := 0) bd_329_0
    have u56 := CI_b c (k := 329) (j := 1) bd_329_1
    exfalso; omega
  | succ F ih =>
    intro s a5 c f b5 i0 i1 i2 i3 i4 hm
    refine T_of (fX12_run_L51.eq_2 ..) ?_
    have u1 := CI_b c (k := 309) (j := 20) bd_309_20
    have u2 := CI_b c (k := 309) (j := 36) bd_309_36
    have u3 := CI_b c (k := 309) (j := 43) bd_309_43
    have u4 := CI_b c (k := 309) (j := 44) bd_309_44
    have u5 := CI_b c (k := 309) (j := 58) bd_309_58
    have u6 := CI_b c (k := 316) (j := 0) bd_316_0
    have u7 := CI_b c (k := 329) (j := 0) bd_329_0
    have u8 := CI_b c (k := 329) (j := 1) bd_329_1
    have t9 : s 309 20 = r0 309 20 := f 309 20 (by decide)
    have t10 : s 309 36 = r0 309 36 := f 309 36 (by decide)
    have t11 : s 309 43 = r0 309 43 := f 309 43 (by decide)
    have t12 : s 309 44 = r0 309 44 := f 309 44 (by decide)
    have t13 : s 309 58 = r0 309 58 := f 309 58 (by decide)
    have t14 : s 316 0 = r0 316 0 := f 316 0 (by decide)
    have t15 : s 329 0 = r0 329 0 := f 329 0 (by decide)
    have t16 : s 329 1 = r0 329 1 := f 329 1 (by decide)
    refine T_leq (fun x17 e18 => ?_)
    first | (have w19 := z_wx e18 (by omega)) | (have w19 := z_wr e18)
    refine T_if1 (by decide +kernel) ?_
    refine T_let 315 (by decide +kernel) ?_
    refine T_if1 (z_ixl (n := 14) (by decide +kernel) (by omega) (by omega)) ?_
    refine T_let 316 (by decide +kernel) ?_
    refine T_if1 (z_ixl (n := 3) (by decide +kernel) (by omega) (by omega)) ?_
    refine T_leq (fun x20 e21 => ?_)
    have u22 := CI_b c (k := 316) (j := 0) bd_316_0
    refine T_ite (fun h23 => ?_) (fun h23 => ?_)
    · exact hk s a5 c f (by omega) (by omega) i1 (by first | exact i2 | exact y_DD.z (by omega) (by omega)) i3 (by first | exact i4 | exact y_K.b0 (by omega) | exact y_K.k0 (by omega) | exact y_K.bk (by omega))
    · refine T_leq (fun x24 e25 => ?_)
      have q26 : x17 = x24 := e18.symm.trans e25
      subst q26
      refine T_if1 (by decide +kernel) ?_
      refine T_useI (sf_X12_isTurned_309 hfu s c x17 (by omega)) (fun v32 s27 hq => ?_)
      obtain ⟨c28, f29, ⟨x31, rfl, b33, b34⟩⟩ := hq
      refine T_vI ?_
      have q35 := z_Fr.eq (fun a b h => h) f29
      subst q35
      refine T_if1 (by decide +kernel) ?_
      refine T_useI (sf_X12_isTurned_309 hfu s c a4 (by omega)) (fun v41 s36 hq => ?_)
      obtain ⟨c37, f38, ⟨x40, rfl, b42, b43⟩⟩ := hq
      refine T_vI ?_
      have q44 := z_Fr.eq (fun a b h => h) f38
      subst q44
      refine T_ite (fun h45 => ?_) (fun h45 => ?_)
      · exact hk s a5 c f (by omega) (by omega) i1 (by first | exact i2 | exact y_DD.z (by omega) (by omega)) i3 (by first | exact i4 | exact y_K.b0 (by omega) | exact y_K.k0 (by omega) | exact y_K.bk (by omega))
      · refine T_leq (fun x46 e47 => ?_)
        first | (have w48 := z_wx e47 (by omega)) | (have w48 := z_wr e47)
        exact ih s x46 c f (by omega) (by omega) i1 (by first | exact i2 | exact y_DD.z (by omega) (by omega)) i3 (by first | exact i4 | exact y_K.b0 (by omega) | exact y_K.k0 (by omega) | exact y_K.bk (by omega)) (by omega)
theorem sj_X12_run_309_J132 {fu : Nat} (hfu : 8589934592 ≤ fu) (r0 s : z_M) (c : z_CI s) (f : z_Fr R_X12_run_309 r0 s) (t0 : Int) (a1 : Int) (a2 : Int) (d0 : -2147483648 ≤ t0 ∧ t0 ≤ 2147483647) (e1 : -2147483648 ≤ a1 ∧ a1 ≤ 2147483647) (e2 : -2147483648 ≤ a2 ∧ a2 ≤ 2147483647) (p0 : y_TA s) (p1 : y_DD s) (p2 : y_B s) (p3 : y_K s) (M : Int) (pm : (0 : Int) ≤ 0) {r : z_M → Int → Int → z_O} {k : z_M → z_O} (hr : ∀ (s' : z_M) (v3 : Int) (v4 : Int), z_CI s' → z_Fr R_X12_run_309 r0 s' → (-2147483648 ≤ v3 ∧ v3 ≤ 2147483647) → (0 ≤ v4 ∧ v4 ≤ 200) → (y_TA s') → (y_DD s') → (y_B s') → (y_K s') → (201 - v4 < M) → z_T (r s' v3 v4) (P_X12_run_309 r0)) (hk : ∀ (s' : z_M), z_CI s' → z_Fr R_X12_run_309 r0 s' → (y_TA s') → (y_DD s') → (y_B s') → (y_K s') → z_T (k s') (P_X12_run_309 r0)) : z_T (fX12_run_J132 fu s t0 r k) (P_X12_run_309 r0) := by
  refine T_of (fX12_run_J132.eq_1 ..) ?_
  have u1 := CI_b c (k := 309) (j := 20) bd_309_20
  have u2 := CI_b c (k := 309) (j := 36) bd_309_36
  have u3 := CI_b c (k := 309) (j := 43) bd_309_43
  have u4 := CI_b c (k := 309) (j := 44) bd_309_44
  have u5 := CI_b c (k := 309) (j := 58) bd_309_58
  have u6 := CI_b c (k := 316) (j := 0) bd_316_0
  have u7 := CI_b c (k := 329) (j := 0) bd_329_0
  have u8 := CI_b c (k := 329) (j := 1) bd_329_1
  have t9 : s 309 20 = r0 309 20 := f 309 20 (by decide)
  have t10 : s 309 36 = r0 309 36 := f 309 36 (by decide)
  have t11 : s 309 43 = r0 309 43 := f 309 43 (by decide)
  have t12 : s 309 44 = r0 309 44 := f 309 44 (by decide)
  have t13 : s 309 58 = r0 309 58 := f 309 58 (by decide)
  have t14 : s 316 0 = r0 316 0 := f 316 0 (by decide)
  have t15 : s 329 0 = r0 329 0 := f 329 0 (by decide)
  have t16 : s 329 1 = r0 329 1 := f 329 1 (by decide)
  exact T_ret ⟨c, f, p0, (by first | exact p1 | exact y_DD.z (by omega) (by omega)), p2, (by first | exact p3 | exact y_K.b0 (by omega) | exact y_K.k0 (by omega) | exact y_K.bk (by omega)), ⟨t0, rfl, by omega, by omega⟩⟩
theorem sj_X12_run_309_J91 {fu : Nat} (hfu : 8589934592 ≤ fu) (r0 s : z_M) (c : z_CI s) (f : z_Fr R_X12_run_309 r0 s) (a1 : Int) (a2 : Int) (a3 : Int) (a4 : Int) (a5 : Int) (b1 : -2147483648 ≤ a1 ∧ a1 ≤ 2147483647) (b2 : -2147483648 ≤ a2 ∧ a2 ≤ 2147483647) (b3 : -2147483648 ≤ a3 ∧ a3 ≤ 2147483647) (b4 : 0 ≤ a4 ∧ a4 ≤ 199) (b5 : 1 ≤ a5 ∧ a5 ≤ 200) (p0 : a4 + a5 ≤ s 316 0) (p1 : y_TA s) (p2 : y_DD s) (p3 : y_B s) (p4 : y_K s) (M : Int) (pm : 201 - a4 ≤ M) {r : z_M → Int → Int → z_O} {k : z_M → z_O} (hr : ∀ (s' : z_M) (v3 : Int) (v4 : Int), z_CI s' → z_Fr R_X12_run_309 r0 s' → (-2147483648 ≤ v3 ∧ v3 ≤ 2147483647) → (0 ≤ v4 ∧ v4 ≤ 200) → (y_TA s') → (y_DD s') → (y_B s') → (y_K s') → (201 - v4 < M) → z_T (r s' v3 v4) (P_X12_run_309 r0)) (hk : ∀ (s' : z_M), z_CI s' → z_Fr R_X12_run_309 r0 s' → (y_TA s') → (y_DD s') → (y_B s') → (y_K s') → z_T (k s') (P_X12_run_309 r0)) : z_T (fX12_run_J91 fu s 309 a1 a2 a3 a4 a5 r k) (P_X12_run_309 r0) := by
  refine T_of (fX12_run_J91.eq_1 ..) ?_
  have u1 := CI_b c (k := 309) (j := 20) bd_309_20
  have u2 := CI_b c (k := 309) (j := 36) bd_309_36
  have u3 := CI_b c (k := 309) (j := 43) bd_309_43
  have u4 := CI_b c (k := 309) (j := 44) bd_309_44
  have u5 := CI_b c (k := 309) (j := 58) bd_309_58
  have u6 := CI_b c (k := 316) (j := 0) bd_316_0
  have u7 := CI_b c (k := 329) (j := 0) bd_329_0
  have u8 := CI_b c (k := 329) (j := 1) bd_329_1
  have t9 : s 309 20 = r0 309 20 := f 309 20 (by decide)
  have t10 : s 309 36 = r0 309 36 := f 309 36 (by decide)
  have t11 : s 309 43 = r0 309 43 := f 309 43 (by decide)
  have t12 : s 309 44 = r0 309 44 := f 309 44 (by decide)
  have t13 : s 309 58 = r0 309 58 := f 309 58 (by decide)
  have t14 : s 316 0 = r0 316 0 := f 316 0 (by decide)
  have t15 : s 329 0 = r0 329 0 := f 329 0 (by decide)
  have t16 : s 329 1 = r0 329 1 := f 329 1 (by decide)
  refine T_leq (fun x17 e18 => ?_)
  first | (have w19 := z_wx e18 (by omega)) | (have w19 := z_wr e18)
  refine T_ite (fun h20 => ?_) (fun h20 => ?_)
  · refine T_leq (fun x21 e22 => ?_)
    first | (have w23 := z_wx e22 (by omega)) | (have w23 := z_wr e22)
    exact hr s x17 x21 c f (by omega) (by omega) p1 (by first | exact p2 | exact y_DD.z (by omega) (by omega)) p3 (by first | exact p4 | exact y_K.b0 (by omega) | exact y_K.k0 (by omega) | exact y_K.bk (by omega)) (by omega)
  · refine T_ite (fun h24 => ?_) (fun h24 => ?_)
    · refine T_ite (fun h25 => ?_) (fun h25 => ?_)
      · refine T_if1 (by decide +kernel) ?_
        refine T_useI (sf_X12_isTurned_309 hfu s c a4 (by omega)) (fun v31 s26 hq => ?_)
        obtain ⟨c27, f28, ⟨x30, rfl, b32, b33⟩⟩ := hq
        refine T_vI ?_
        have q34 := z_Fr.eq (fun a b h => h) f28
        subst q34
        refine T_ite (fun h35 => ?_) (fun h35 => ?_)
        · exact sj_X12_run_309_J132 hfu r0 s c f 0 a1 a2 (by omega) (by omega) (by omega) p1 (by first | exact p2 | exact y_DD.z (by omega) (by omega)) p3 (by first | exact p4 | exact y_K.b0 (by omega) | exact y_K.k0 (by omega) | exact y_K.bk (by omega)) M (by omega) (fun s' v3 v4 c' f' w3 w4 z0 z1 z2 z3 pg => hr s' v3 v4 c' f' w3 w4 z0 z1 z2 z3 (by omega)) hk
        · exact sj_X12_run_309_J132 hfu r0 s c f 1 a1 a2 (by omega) (by omega) (by omega) p1 (by first | exact p2 | exact y_DD.z (by omega) (by omega)) p3 (by first | exact p4 | exact y_K.b0 (by omega) | exact y_K.k0 (by omega) | exact y_K.bk (by omega)) M (by omega) (fun s' v3 v4 c' f' w3 w4 z0 z1 z2 z3 pg => hr s' v3 v4 c' f' w3 w4 z0 z1 z2 z3 (by omega)) hk
      · exact sj_X12_run_309_J132 hfu r0 s c f a5 a1 a2 (by omega) (by omega) (by omega) p1 (by first | exact p2 | exact y_DD.z (by omega) (by omega)) p3 (by first | exact p4 | exact y_K.b0 (by omega) | exact y_K.k0 (by omega) | exact y_K.bk (by omega)) M (by omega) (fun s' v3 v4 c' f' w3 w4 z0 z1 z2 z3 pg => hr s' v3 v4 c' f' w3 w4 z0 z1 z2 z3 (by omega)) hk
    · exact sj_X12_run_309_J132 hfu r0 s c f a4 a1 a2 (by omega) (by omega) (by omega) p1 (by first | exact p2 | exact y_DD.z (by omega) (by omega)) p3 (by first | exact p4 | exact y_K.b0 (by omega) | exact y_K.k0 (by omega) | exact y_K.bk (by omega)) M (by omega) (fun s' v3 v4 c' f' w3 w4 z0 z1 z2 z3 pg => hr s' v3 v4 c' f' w3 w4 z0 z1 z2 z3 (by omega)) hk
theorem sl_X12_run_309_L35 {fu : Nat} (hfu : 8589934592 ≤ fu) (r0 : z_M) (a1 : Int) (a2 : Int) (b1 : -2147483648 ≤ a1 ∧ a1 ≤ 2147483647) (b2 : -2147483648 ≤ a2 ∧ a2 ≤ 2147483647) {k : z_M → z_O} (hk : ∀ (s' : z_M), z_CI s' → z_Fr R_X12_run_309 r0 s' → (y_TA s') → (y_DD s') → (y_B s') → (y_K s') → z_T (k s') (P_X12_run_309 r0)) : ∀ (F : Nat) (s : z_M) (a3 : Int) (a4 : Int), z_CI s → z_Fr R_X12_run_309 r0 s → (-2147483648 ≤ a3 ∧ a3 ≤ 2147483647) → (0 ≤ a4 ∧ a4 ≤ 200) → (y_TA s) → (y_DD s) → (y_B s) → (y_K s) → (201 - a4 < (F : Int)) → z_T (fX12_run_L35 fu 309 a1 a2 F s a3 a4 k) (P_X12_run_309 r0) := by
  intro F
  induction F with
  | zero =>
    intro s a3 a4 c f b3 b4 i0 i1 i2 i3 hm
    have u47 := CI_b c (k := 309) (j := 20) bd_309_20
    have u48 := CI_b c (k := 309) (j := 36) bd_309_36
    have u49 := CI_b c (k := 309) (j := 43) bd_309_43
    have u50 := CI_b c (k := 309) (j := 44) bd_309_44
    have u51 := CI_b c (k := 309) (j := 58) bd_309_58
    have u52 := CI_b c (k := 316) (j := 0) bd_316_0
    have u53 := CI_b c (k := 329) (j := 0) bd_329_0
    have u54 := CI_b c (k := 329) (j := 1) bd_329_1
    exfalso; omega
  | succ F ih =>
    intro s a3 a4 c f b3 b4 i0 i1 i2 i3 hm
    refine T_of (fX12_run_L35.eq_2 ..) ?_
    have u1 := CI_b c (k := 309) (j := 20) bd_309_20
    have u2 := CI_b c (k := 309) (j := 36) bd_309_36
    have u3 := CI_b c (k := 309) (j := 43) bd_309_43
    have u4 := CI_b c (k := 309) (j := 44) bd_309_44
    have u5 := CI_b c (k := 309) (j := 58) bd_309_58
    have u6 := CI_b c (k := 316) (j := 0) bd_316_0
    have u7 := CI_b c (k := 329) (j := 0) bd_329_0
    have u8 := CI_b c (k := 329) (j := 1) bd_329_1
    have t9 : s 309 20 = r0 309 20 := f 309 20 (by decide)
    have t10 : s 309 36 = r0 309 36 := f 309 36 (by decide)
    have t11 : s 309 43 = r0 309 43 := f 309 43 (by decide)
    have t12 : s 309 44 = r0 309 44 := f 309 44 (by decide)
    have t13 : s 309 58 = r0 309 58 := f 309 58 (by decide)
    have t14 : s 316 0 = r0 316 0 := f 316 0 (by decide)
    have t15 : s 329 0 = r0 329 0 := f 329 0 (by decide)
    have t16 : s 329 1 = r0 329 1 := f 329 1 (by decide)
    refine T_if1 (by decide +kernel) ?_
    refine T_let 315 (by decide +kernel) ?_
    refine T_if1 (z_ixl (n := 14) (by decide +kernel) (by omega) (by omega)) ?_
    refine T_let 316 (by decide +kernel) ?_
    refine T_if1 (z_ixl (n := 3) (by decide +kernel) (by omega) (by omega)) ?_
    refine T_leq (fun x17 e18 => ?_)
    have u19 := CI_b c (k := 316) (j := 0) bd_316_0
    refine T_ite (fun h20 => ?_) (fun h20 => ?_)
    · exact hk s c f i0 (by first | exact i1 | exact y_DD.z (by omega) (by omega)) i2 (by first | exact i3 | exact y_K.b0 (by omega) | exact y_K.k0 (by omega) | exact y_K.bk (by omega))
    · refine sl_X12_run_309_L51 hfu r0 a1 a2 a3 a4 (by omega) (by omega) (by omega) (by omega) (fun s21 y24 c22 f23 b25 g26 g27 g28 g29 g30 => ?_) fu s 1 c f (by omega) (by omega) i0 (by first | exact i1 | exact y_DD.z (by omega) (by omega)) i2 (by first | exact i3 | exact y_K.b0 (by omega) | exact y_K.k0 (by omega) | exact y_K.bk (by omega)) (by omega)
      have u31 := CI_b c22 (k := 309) (j := 20) bd_309_20
      have u32 := CI_b c22 (k := 309) (j := 36) bd_309_36
      have u33 := CI_b c22 (k := 309) (j := 43) bd_309_43
      have u34 := CI_b c22 (k := 309) (j := 44) bd_309_44
      have u35 := CI_b c22 (k := 309) (j := 58) bd_309_58
      have u36 := CI_b c22 (k := 316) (j := 0) bd_316_0
      have u37 := CI_b c22 (k := 329) (j := 0) bd_329_0
      have u38 := CI_b c22 (k := 329) (j := 1) bd_329_1
      have t39 : s21 309 20 = r0 309 20 := f23 309 20 (by decide)
      have t40 : s21 309 36 = r0 309 36 := f23 309 36 (by decide)
      have t41 : s21 309 43 = r0 309 43 := f23 309 43 (by decide)
      have t42 : s21 309 44 = r0 309 44 := f23 309 44 (by decide)
      have t43 : s21 309 58 = r0 309 58 := f23 309 58 (by decide)
      have t44 : s21 316 0 = r0 316 0 := f23 316 0 (by decide)
      have t45 : s21 329 0 = r0 329 0 := f23 329 0 (by decide)
      have t46 : s21 329 1 = r0 329 1 := f23 329 1 (by decide)
      exact sj_X12_run_309_J91 hfu r0 s21 c22 f23 a1 a2 a3 a4 y24 (by omega) (by omega) (by omega) (by omega) (by omega) (by omega) g27 (by first | exact g28 | exact y_DD.z (by omega) (by omega)) g29 (by first | exact g30 | exact y_K.b0 (by omega) | exact y_K.k0 (by omega) | exact y_K.bk (by omega)) (201 - a4) (by omega) (fun s' v3 v4 c' f' w3 w4 z0 z1 z2 z3 pg => ih s' v3 v4 c' f' w3 w4 z0 z1 z2 z3 (by omega)) hk
theorem sj_X12_run_309_J20 {fu : Nat} (hfu : 8589934592 ≤ fu) (r0 s : z_M) (c : z_CI s) (f : z_Fr R_X12_run_309 r0 s) (a1 : Int) (a2 : Int) (t1 : Int) (b1 : -2147483648 ≤ a1 ∧ a1 ≤ 2147483647) (b2 : -2147483648 ≤ a2 ∧ a2 ≤ 2147483647) (d1 : 0 ≤ t1 ∧ t1 ≤ 1) (p0 : y_TA s) (p1 : y_DD s) (p2 : y_B s) (p3 : y_K s) : z_T (fX12_run_J20 fu s 309 a1 a2 309 t1) (P_X12_run_309 r0) := by
  refine T_of (fX12_run_J20.eq_1 ..) ?_
  have u1 := CI_b c (k := 309) (j := 20) bd_309_20
  have u2 := CI_b c (k := 309) (j := 36) bd_309_36
  have u3 := CI_b c (k := 309) (j := 43) bd_309_43
  have u4 := CI_b c (k := 309) (j := 44) bd_309_44
  have u5 := CI_b c (k := 309) (j := 58) bd_309_58
  have u6 := CI_b c (k := 316) (j := 0) bd_316_0
  have u7 := CI_b c (k := 329) (j := 0) bd_329_0
  have u8 := CI_b c (k := 329) (j := 1) bd_329_1
  have t9 : s 309 20 = r0 309 20 := f 309 20 (by decide)
  have t10 : s 309 36 = r0 309 36 := f 309 36 (by decide)
  have t11 : s 309 43 = r0 309 43 := f 309 43 (by decide)
  have t12 : s 309 44 = r0 309 44 := f 309 44 (by decide)
  have t13 : s 309 58 = r0 309 58 := f 309 58 (by decide)
  have t14 : s 316 0 = r0 316 0 := f 316 0 (by decide)
  have t15 : s 329 0 = r0 329 0 := f 329 0 (by decide)
  have t16 : s 329 1 = r0 329 1 := f 329 1 (by decide)
  refine T_if1 (by decide +kernel) ?_
  refine T_useI (sf_X12_bad_309 hfu s c t1 1 1 (by omega) (by omega) (by omega) (by omega)) (fun v22 s17 hq => ?_)
  obtain ⟨c18, f19, o23, ⟨x21, rfl, b24, b25, o26, o27⟩⟩ := hq
  refine T_vI ?_
  have f20 := z_Fr.tr (R := R_X12_run_309) f f19 rs_X12_bad_309__X12_run_309
  have t28 : s17 309 20 = s 309 20 := f19 309 20 (by decide)
  have t29 : s17 309 36 = s 309 36 := f19 309 36 (by decide)
  have t30 : s17 309 43 = s 309 43 := f19 309 43 (by decide)
  have t31 : s17 309 44 = s 309 44 := f19 309 44 (by decide)
  have t32 : s17 309 58 = s 309 58 := f19 309 58 (by decide)
  have t33 : s17 316 0 = s 316 0 := f19 316 0 (by decide)
  have t34 : s17 329 0 = s 329 0 := f19 329 0 (by decide)
  have t35 : s17 329 1 = s 329 1 := f19 329 1 (by decide)
  have r36 := y_TA.fr p0 (fun a b h => f19 a b (nq_X12_bad_309__316 a b h)) (fun a b h => f19 a b (nq_X12_bad_309__346 a b h)) (fun a b h => f19 a b (nq_X12_bad_309__361 a b h))
  have r37 := y_DD.fr p1 (f19 329 0 (by decide)) (f19 329 1 (by decide)) (fun b => f19 359 b (nr_X12_bad_309__359 b)) (fun b => f19 374 b (nr_X12_bad_309__374 b))
  have r38 := y_B.fr p2 (f19 309 20 (by decide)) (f19 316 0 (by decide)) (fun b => f19 3220 b (nr_X12_bad_309__3220 b)) (fun b => f19 3221 b (nr_X12_bad_309__3221 b)) (fun b => f19 3222 b (nr_X12_bad_309__3222 b)) (fun b => f19 361 b (nr_X12_bad_309__361 b))
  have r39 := y_K.fr p3 (by omega) (by omega) (f19 309 44 (by decide)) (f19 309 20 (by decide)) (f19 309 58 (by decide)) (fun b => f19 3438 b (nr_X12_bad_309__3438 b)) (fun b => f19 3220 b (nr_X12_bad_309__3220 b)) (fun a b h => f19 a b (nq_X12_bad_309__3452 a b h))
  refine T_ite (fun h40 => ?_) (fun h40 => ?_)
  · refine sl_X12_run_309_L35 hfu r0 a1 a2 (by omega) (by omega) (fun s41 c42 f43 g44 g45 g46 g47 => ?_) fu s17 (-1) 0 c18 f20 (by omega) (by omega) r36 (by first | exact r37 | exact y_DD.z (by omega) (by omega)) r38 (by first | exact r39 | exact y_K.b0 (by omega) | exact y_K.k0 (by omega) | exact y_K.bk (by omega)) (by omega)
    have u48 := CI_b c42 (k := 309) (j := 20) bd_309_20
    have u49 := CI_b c42 (k := 309) (j := 36) bd_309_36
    have u50 := CI_b c42 (k := 309) (j := 43) bd_309_43
    have u51 := CI_b c42 (k := 309) (j := 44) bd_309_44
    have u52 := CI_b c42 (k := 309) (j := 58) bd_309_58
    have u53 := CI_b c42 (k := 316) (j := 0) bd_316_0
    have u54 := CI_b c42 (k := 329) (j := 0) bd_329_0
    have u55 := CI_b c42 (k := 329) (j := 1) bd_329_1
    have t56 : s41 309 20 = r0 309 20 := f43 309 20 (by decide)
    have t57 : s41 309 36 = r0 309 36 := f43 309 36 (by decide)
    have t58 : s41 309 43 = r0 309 43 := f43 309 43 (by decide)
    have t59 : s41 309 44 = r0 309 44 := f43 309 44 (by decide)
    have t60 : s41 309 58 = r0 309 58 := f43 309 58 (by decide)
    have t61 : s41 316 0 = r0 316 0 := f43 316 0 (by decide)
    have t62 : s41 329 0 = r0 329 0 := f43 329 0 (by decide)
    have t63 : s41 329 1 = r0 329 1 := f43 329 1 (by decide)
    exact T_ret ⟨c42, f43, g44, (by first | exact g45 | exact y_DD.z (by omega) (by omega)), g46, (by first | exact g47 | exact y_K.b0 (by omega) | exact y_K.k0 (by omega) | exact y_K.bk (by omega)), ⟨(-1), rfl, by omega, by omega⟩⟩
  · exact T_ret ⟨c18, f20, r36, (by first | exact r37 | exact y_DD.z (by omega) (by omega)), r38, (by first | exact r39 | exact y_K.b0 (by omega) | exact y_K.k0 (by omega) | exact y_K.bk (by omega)), ⟨0, rfl, by omega, by omega⟩⟩
theorem sf_X12_run_309 {fu : Nat} (hfu : 8589934592 ≤ fu) (r0 : z_M) (c0 : z_CI r0) (a1 : Int) (a2 : Int) (b1 : -2147483648 ≤ a1 ∧ a1 ≤ 2147483647) (b2 : -2147483648 ≤ a2 ∧ a2 ≤ 2147483647) (p0 : y_TA r0) (p1 : y_DD r0) (p2 : y_B r0) (p3 : y_K r0) : z_T (fX12_run fu r0 309 a1 a2) (P_X12_run_309 r0) := by
  refine T_of (fX12_run.eq_1 ..) ?_
  have u1 := CI_b c0 (k := 309) (j := 20) bd_309_20
  have u2 := CI_b c0 (k := 309) (j := 36) bd_309_36
  have u3 := CI_b c0 (k := 309) (j := 43) bd_309_43
  have u4 := CI_b c0 (k := 309) (j := 44) bd_309_44
  have u5 := CI_b c0 (k := 309) (j := 58) bd_309_58
  have u6 := CI_b c0 (k := 316) (j := 0) bd_316_0
  have u7 := CI_b c0 (k := 329) (j := 0) bd_329_0
  have u8 := CI_b c0 (k := 329) (j := 1) bd_329_1
  refine T_if1 (by decide +kernel) ?_
  refine T_upg c0 bd_309_0 (by omega) (fun s9 c10 g12 g13 e14 => ?_)
  have f11 := z_Fr.upf (R := R_X12_run_309) z_Fr.rf g12 g13 (Or.inr (⟨rfl, by decide⟩))
  have t15 : s9 309 20 = r0 309 20 := g13 20 (by decide)
  have t16 : s9 309 36 = r0 309 36 := g13 36 (by decide)
  have t17 : s9 309 43 = r0 309 43 := g13 43 (by decide)
  have t18 : s9 309 44 = r0 309 44 := g13 44 (by decide)
  have t19 : s9 309 58 = r0 309 58 := g13 58 (by decide)
  have t20 : s9 316 0 = r0 316 0 := g12 316 0 (by decide)
  have t21 : s9 329 0 = r0 329 0 := g12 329 0 (by decide)
  have t22 : s9 329 1 = r0 329 1 := g12 329 1 (by decide)
  have r23 := y_TA.fr p0 (fun a b h => g12 a b (by omega)) (fun a b h => g12 a b (by omega)) (fun a b h => g12 a b (by omega))
  have r24 := y_DD.fr p1 (g12 329 0 (by decide)) (g12 329 1 (by decide)) (fun b => g12 359 b (by decide)) (fun b => g12 374 b (by decide))
  have r25 := y_B.fr p2 (g13 20 (by decide)) (g12 316 0 (by decide)) (fun b => g12 3220 b (by decide)) (fun b => g12 3221 b (by decide)) (fun b => g12 3222 b (by decide)) (fun b => g12 361 b (by decide))
  have r26 := y_K.fr p3 (by omega) (by omega) (g13 44 (by decide)) (g13 20 (by decide)) (g13 58 (by decide)) (fun b => g12 3438 b (by decide)) (fun b => g12 3220 b (by decide)) (fun a b h => g12 a b (by omega))
  refine T_useI (sf_X12_in hfu s9 c10 a2 0 2 (by omega) (by omega) (by omega)) (fun v32 s27 hq => ?_)
  obtain ⟨c28, f29, ⟨x31, rfl, b33, b34, o35⟩⟩ := hq
  refine T_vI ?_
  have q36 := z_Fr.eq (fun a b h => h) f29
  subst q36
  refine T_ite (fun h37 => ?_) (fun h37 => ?_)
  · exact sj_X12_run_309_J20 hfu r0 s9 c10 f11 a1 a2 0 (by omega) (by omega) (by omega) r23 (by first | exact r24 | exact y_DD.z (by omega) (by omega)) r25 (by first | exact r26 | exact y_K.b0 (by omega) | exact y_K.k0 (by omega) | exact y_K.bk (by omega))
  · exact sj_X12_run_309_J20 hfu r0 s9 c10 f11 a1 a2 1 (by omega) (by omega) (by omega) r23 (by first | exact r24 | exact y_DD.z (by omega) (by omega)) r25 (by first | exact r26 | exact y_K.b0 (by omega) | exact y_K.k0 (by omega) | exact y_K.bk (by omega))
abbrev R_X12_at_309 (a b : Int) : Prop := (310 ≤ a ∧ a ≤ 310) ∨ (3224 ≤ a ∧ a ≤ 3651) ∨ (a = 309 ∧ (b = 0 ∨ b = 35 ∨ b = 36 ∨ b = 38 ∨ b = 39 ∨ b = 43 ∨ b = 44 ∨ b = 58))
abbrev P_X12_at_309 (r0 : z_M) : z_V → z_M → Prop := fun v s' => z_CI s' ∧ z_Fr R_X12_at_309 r0 s' ∧ (y_TA s') ∧ (y_DD s') ∧ (y_B s') ∧ (y_K s') ∧ (∃ x, v = vI x ∧ -2147483648 ≤ x ∧ x ≤ 2147483647)
theorem rs_X12_laysAll_309__X12_at_309 (a b : Int) (h : R_X12_laysAll_309 a b) : R_X12_at_309 a b := (h.elim (fun h => (Or.inr (Or.inl (⟨by omega, by omega⟩)))) (fun h => (Or.inr (Or.inr (⟨h.1, by omega⟩)))))
theorem rs_X12_bad_309__X12_at_309 (a b : Int) (h : R_X12_bad_309 a b) : R_X12_at_309 a b := (h.elim (fun h => (Or.inl (⟨by omega, by omega⟩))) (fun h => (Or.inr (Or.inr (⟨h.1, by omega⟩)))))
theorem sl_X12_at_309_L89 {fu : Nat} (hfu : 8589934592 ≤ fu) (r0 : z_M) (a1 : Int) (a2 : Int) (a3 : Int) (b1 : 0 ≤ a1 ∧ a1 ≤ 199) (b2 : -2147483648 ≤ a2 ∧ a2 ≤ 2147483647) (b3 : 0 ≤ a3 ∧ a3 ≤ 199) {k : z_M → z_O} (hk : ∀ (s' : z_M), z_CI s' → z_Fr R_X12_at_309 r0 s' → (y_L s' (s' 309 44)) → (a1 < s' 309 44) → (a3 < s' 309 20) → (y_TA s') → (y_DD s') → (y_B s') → (y_K s') → z_T (k s') (P_X12_at_309 r0)) : ∀ (F : Nat) (s : z_M) (a4 : Int), z_CI s → z_Fr R_X12_at_309 r0 s → (0 ≤ a4 ∧ a4 ≤ 200) → (y_L s (s 309 44)) → (a1 < s 309 44) → (a3 < s 309 20) → (y_TA s) → (y_DD s) → (y_B s) → (y_K s) → (2147483647 - a4 < (F : Int)) → z_T (fX12_at_L89 fu 309 a1 a2 a3 F s a4 k) (P_X12_at_309 r0) := by
  intro F
  induction F with
  | zero =>
    intro s a4 c f b4 i0 i1 i2 i3 i4 i5 i6 hm
    have u59 := CI_b c (k := 309) (j := 20) bd_309_20
    have u60 := CI_b c (k := 309) (j := 36) bd_309_36
    have u61 := CI_b c (k := 309) (j := 43) bd_309_43
    have u62 := CI_b c (k := 309) (j := 44) bd_309_44
    have u63 := CI_b c (k := 309) (j := 58) bd_309_58
    have u64 := CI_b c (k := 316) (j := 0) bd_316_0
    have u65 := CI_b c (k := 329) (j := 0) bd_329_0
    have u66 := CI_b c (k := 329) (j := 1) bd_329_1
    exfalso; omega
  | succ F ih =>
    intro s a4 c f b4 i0 i1 i2 i3 i4 i5 i6 hm
    refine T_of (fX12_at_L89.eq_2 ..) ?_
    have u1 := CI_b c (k := 309) (j := 20) bd_309_20
    have u2 := CI_b c (k := 309) (j := 36) bd_309_36
    have u3 := CI_b c (k := 309) (j := 43) bd_309_43
    have u4 := CI_b c (k := 309) (j := 44) bd_309_44
    have u5 := CI_b c (k := 309) (j := 58) bd_309_58
    have u6 := CI_b c (k := 316) (j := 0) bd_316_0
    have u7 := CI_b c (k := 329) (j := 0) bd_329_0
    have u8 := CI_b c (k := 329) (j := 1) bd_329_1
    have t9 : s 309 20 = r0 309 20 := f 309 20 (by decide)
    have t10 : s 316 0 = r0 316 0 := f 316 0 (by decide)
    have t11 : s 329 0 = r0 329 0 := f 329 0 (by decide)
    have t12 : s 329 1 = r0 329 1 := f 329 1 (by decide)
    have n13 := y_B.at i5 (u := a3) (by omega) (by omega)
    refine T_if1 (by decide +kernel) ?_
    refine T_let 3221 (by decide +kernel) ?_
    refine T_if1 (z_ixl (n := 200) (by decide +kernel) (by omega) (by omega)) ?_
    refine T_leq (fun x14 e15 => ?_)
    have u16 := CI_b c (k := 3221) (j := a3) (bdr_3221 a3)
    refine T_if1 (by decide +kernel) ?_
    refine T_let 3222 (by decide +kernel) ?_
    refine T_if1 (z_ixl (n := 200) (by decide +kernel) (by omega) (by omega)) ?_
    refine T_leq (fun x17 e18 => ?_)
    have u19 := CI_b c (k := 3222) (j := a3) (bdr_3222 a3)
    refine T_leq (fun x20 e21 => ?_)
    first | (have w22 := z_wx e21 (by omega)) | (have w22 := z_wr e21)
    refine T_ite (fun h23 => ?_) (fun h23 => ?_)
    · exact hk s c f (by first | exact y_L.cg i0 (by omega) | exact y_K.L i6 (by omega) (by omega)) (by omega) (by omega) i3 (by first | exact i4 | exact y_DD.z (by omega) (by omega)) i5 (by first | exact i6 | exact y_K.b0 (by omega) | exact y_K.k0 (by omega) | exact y_K.bk (by omega))
    · refine T_if1 (by decide +kernel) ?_
      refine T_let 3443 (by decide +kernel) ?_
      refine T_if1 (z_ixl (n := 200) (by decide +kernel) (by omega) (by omega)) ?_
      refine T_leq (fun x24 e25 => ?_)
      have u26 := CI_b c (k := 3443) (j := a4) (bdr_3443 a4)
      refine T_if1 (by decide +kernel) ?_
      refine T_let 3443 (by decide +kernel) ?_
      refine T_if1 (z_ixl (n := 200) (by decide +kernel) (by omega) (by omega)) ?_
      refine T_leq (fun x27 e28 => ?_)
      have q29 : x24 = x27 := e25.symm.trans e28
      subst q29
      refine T_if1 (by decide +kernel) ?_
      refine T_useI (sf_X12_signLong_309 hfu s c a4 (by omega)) (fun v35 s30 hq => ?_)
      obtain ⟨c31, f32, ⟨x34, rfl, b36, b37⟩⟩ := hq
      refine T_vI ?_
      have q38 := z_Fr.eq (fun a b h => h) f32
      subst q38
      refine T_leq (fun x39 e40 => ?_)
      first | (have w41 := z_wx e40 (by omega)) | (have w41 := z_wr e40)
      refine T_leq (fun x42 e43 => ?_)
      first | (have w44 := z_wx e43 (by omega)) | (have w44 := z_wr e43)
      refine T_useI (sf_X12_in hfu s c a2 x24 x42 (by omega) (by omega) (by omega)) (fun v50 s45 hq => ?_)
      obtain ⟨c46, f47, ⟨x49, rfl, b51, b52, o53⟩⟩ := hq
      refine T_vI ?_
      have q54 := z_Fr.eq (fun a b h => h) f47
      subst q54
      refine T_ite (fun h55 => ?_) (fun h55 => ?_)
      · refine T_leq (fun x56 e57 => ?_)
        first | (have w58 := z_wx e57 (by omega)) | (have w58 := z_wr e57)
        exact ih s x56 c f (by omega) (by first | exact y_L.cg i0 (by omega) | exact y_K.L i6 (by omega) (by omega)) (by omega) (by omega) i3 (by first | exact i4 | exact y_DD.z (by omega) (by omega)) i5 (by first | exact i6 | exact y_K.b0 (by omega) | exact y_K.k0 (by omega) | exact y_K.bk (by omega)) (by omega)
      · exact T_ret ⟨c, f, i3, (by first | exact i4 | exact y_DD.z (by omega) (by omega)), i5, (by first | exact i6 | exact y_K.b0 (by omega) | exact y_K.k0 (by omega) | exact y_K.bk (by omega)), ⟨a4, rfl, by omega, by omega⟩⟩
theorem sj_X12_at_309_J146 {fu : Nat} (hfu : 8589934592 ≤ fu) (r0 s : z_M) (c : z_CI s) (f : z_Fr R_X12_at_309 r0 s) (a1 : Int) (a2 : Int) (a3 : Int) (b1 : 0 ≤ a1 ∧ a1 ≤ 199) (b2 : -2147483648 ≤ a2 ∧ a2 ≤ 2147483647) (b3 : 0 ≤ a3 ∧ a3 ≤ 199) (p0 : y_L s (s 309 44)) (p1 : a1 < s 309 44) (p2 : a3 < s 309 20) (p3 : y_TA s) (p4 : y_DD s) (p5 : y_B s) (p6 : y_K s) (M : Int) (pm : 2147483647 - a3 ≤ M) {r : z_M → Int → z_O} {k : z_M → z_O} (hr : ∀ (s' : z_M) (v3 : Int), z_CI s' → z_Fr R_X12_at_309 r0 s' → (0 ≤ v3 ∧ v3 ≤ 200) → (y_L s' (s' 309 44)) → (a1 < s' 309 44) → (y_TA s') → (y_DD s') → (y_B s') → (y_K s') → (2147483647 - v3 < M) → z_T (r s' v3) (P_X12_at_309 r0)) (hk : ∀ (s' : z_M), z_CI s' → z_Fr R_X12_at_309 r0 s' → (y_TA s') → (y_DD s') → (y_B s') → (y_K s') → z_T (k s') (P_X12_at_309 r0)) : z_T (fX12_at_J146 fu s 309 a1 a2 a3 r k) (P_X12_at_309 r0) := by
  refine T_of (fX12_at_J146.eq_1 ..) ?_
  have u1 := CI_b c (k := 309) (j := 20) bd_309_20
  have u2 := CI_b c (k := 309) (j := 36) bd_309_36
  have u3 := CI_b c (k := 309) (j := 43) bd_309_43
  have u4 := CI_b c (k := 309) (j := 44) bd_309_44
  have u5 := CI_b c (k := 309) (j := 58) bd_309_58
  have u6 := CI_b c (k := 316) (j := 0) bd_316_0
  have u7 := CI_b c (k := 329) (j := 0) bd_329_0
  have u8 := CI_b c (k := 329) (j := 1) bd_329_1
  have t9 : s 309 20 = r0 309 20 := f 309 20 (by decide)
  have t10 : s 316 0 = r0 316 0 := f 316 0 (by decide)
  have t11 : s 329 0 = r0 329 0 := f 329 0 (by decide)
  have t12 : s 329 1 = r0 329 1 := f 329 1 (by decide)
  refine T_leq (fun x13 e14 => ?_)
  first | (have w15 := z_wx e14 (by omega)) | (have w15 := z_wr e14)
  exact hr s x13 c f (by omega) (by first | exact y_L.cg p0 (by omega) | exact y_K.L p6 (by omega) (by omega)) (by omega) p3 (by first | exact p4 | exact y_DD.z (by omega) (by omega)) p5 (by first | exact p6 | exact y_K.b0 (by omega) | exact y_K.k0 (by omega) | exact y_K.bk (by omega)) (by omega)
theorem sj_X12_at_309_J81 {fu : Nat} (hfu : 8589934592 ≤ fu) (r0 s : z_M) (c : z_CI s) (f : z_Fr R_X12_at_309 r0 s) (a1 : Int) (a2 : Int) (a3 : Int) (b1 : 0 ≤ a1 ∧ a1 ≤ 199) (b2 : -2147483648 ≤ a2 ∧ a2 ≤ 2147483647) (b3 : 0 ≤ a3 ∧ a3 ≤ 199) (p0 : y_L s (s 309 44)) (p1 : a1 < s 309 44) (p2 : a3 < s 309 20) (p3 : y_TA s) (p4 : y_DD s) (p5 : y_B s) (p6 : y_K s) (M : Int) (pm : 2147483647 - a3 ≤ M) {r : z_M → Int → z_O} {k : z_M → z_O} (hr : ∀ (s' : z_M) (v3 : Int), z_CI s' → z_Fr R_X12_at_309 r0 s' → (0 ≤ v3 ∧ v3 ≤ 200) → (y_L s' (s' 309 44)) → (a1 < s' 309 44) → (y_TA s') → (y_DD s') → (y_B s') → (y_K s') → (2147483647 - v3 < M) → z_T (r s' v3) (P_X12_at_309 r0)) (hk : ∀ (s' : z_M), z_CI s' → z_Fr R_X12_at_309 r0 s' → (y_TA s') → (y_DD s') → (y_B s') → (y_K s') → z_T (k s') (P_X12_at_309 r0)) : z_T (fX12_at_J81 fu s 309 a1 a2 a3 r k) (P_X12_at_309 r0) := by
  refine T_of (fX12_at_J81.eq_1 ..) ?_
  have u1 := CI_b c (k := 309) (j := 20) bd_309_20
  have u2 := CI_b c (k := 309) (j := 36) bd_309_36
  have u3 := CI_b c (k := 309) (j := 43) bd_309_43
  have u4 := CI_b c (k := 309) (j := 44) bd_309_44
  have u5 := CI_b c (k := 309) (j := 58) bd_309_58
  have u6 := CI_b c (k := 316) (j := 0) bd_316_0
  have u7 := CI_b c (k := 329) (j := 0) bd_329_0
  have u8 := CI_b c (k := 329) (j := 1) bd_329_1
  have t9 : s 309 20 = r0 309 20 := f 309 20 (by decide)
  have t10 : s 316 0 = r0 316 0 := f 316 0 (by decide)
  have t11 : s 329 0 = r0 329 0 := f 329 0 (by decide)
  have t12 : s 329 1 = r0 329 1 := f 329 1 (by decide)
  refine T_if1 (by decide +kernel) ?_
  refine T_let 3221 (by decide +kernel) ?_
  refine T_if1 (z_ixl (n := 200) (by decide +kernel) (by omega) (by omega)) ?_
  refine T_leq (fun x13 e14 => ?_)
  have u15 := CI_b c (k := 3221) (j := a3) (bdr_3221 a3)
  refine sl_X12_at_309_L89 hfu r0 a1 a2 a3 (by omega) (by omega) (by omega) (fun s16 c17 f18 g19 g20 g21 g22 g23 g24 g25 => ?_) fu s x13 c f (by omega) (by first | exact y_L.cg p0 (by omega) | exact y_K.L p6 (by omega) (by omega)) (by omega) (by omega) p3 (by first | exact p4 | exact y_DD.z (by omega) (by omega)) p5 (by first | exact p6 | exact y_K.b0 (by omega) | exact y_K.k0 (by omega) | exact y_K.bk (by omega)) (by omega)
  have u26 := CI_b c17 (k := 309) (j := 20) bd_309_20
  have u27 := CI_b c17 (k := 309) (j := 36) bd_309_36
  have u28 := CI_b c17 (k := 309) (j := 43) bd_309_43
  have u29 := CI_b c17 (k := 309) (j := 44) bd_309_44
  have u30 := CI_b c17 (k := 309) (j := 58) bd_309_58
  have u31 := CI_b c17 (k := 316) (j := 0) bd_316_0
  have u32 := CI_b c17 (k := 329) (j := 0) bd_329_0
  have u33 := CI_b c17 (k := 329) (j := 1) bd_329_1
  have t34 : s16 309 20 = r0 309 20 := f18 309 20 (by decide)
  have t35 : s16 316 0 = r0 316 0 := f18 316 0 (by decide)
  have t36 : s16 329 0 = r0 329 0 := f18 329 0 (by decide)
  have t37 : s16 329 1 = r0 329 1 := f18 329 1 (by decide)
  exact sj_X12_at_309_J146 hfu r0 s16 c17 f18 a1 a2 a3 (by omega) (by omega) (by omega) (by first | exact y_L.cg g19 (by omega) | exact y_K.L g25 (by omega) (by omega)) (by omega) (by omega) g22 (by first | exact g23 | exact y_DD.z (by omega) (by omega)) g24 (by first | exact g25 | exact y_K.b0 (by omega) | exact y_K.k0 (by omega) | exact y_K.bk (by omega)) M (by omega) (fun s' v3 c' f' w3 z0 z1 z2 z3 z4 z5 pg => hr s' v3 c' f' w3 z0 z1 z2 z3 z4 z5 (by omega)) hk
theorem sl_X12_at_309_L46 {fu : Nat} (hfu : 8589934592 ≤ fu) (r0 : z_M) (a1 : Int) (a2 : Int) (b1 : 0 ≤ a1 ∧ a1 ≤ 199) (b2 : -2147483648 ≤ a2 ∧ a2 ≤ 2147483647) {k : z_M → z_O} (hk : ∀ (s' : z_M), z_CI s' → z_Fr R_X12_at_309 r0 s' → (y_TA s') → (y_DD s') → (y_B s') → (y_K s') → z_T (k s') (P_X12_at_309 r0)) : ∀ (F : Nat) (s : z_M) (a3 : Int), z_CI s → z_Fr R_X12_at_309 r0 s → (0 ≤ a3 ∧ a3 ≤ 200) → (y_L s (s 309 44)) → (a1 < s 309 44) → (y_TA s) → (y_DD s) → (y_B s) → (y_K s) → (2147483647 - a3 < (F : Int)) → z_T (fX12_at_L46 fu 309 a1 a2 F s a3 k) (P_X12_at_309 r0) := by
  intro F
  induction F with
  | zero =>
    intro s a3 c f b3 i0 i1 i2 i3 i4 i5 hm
    have u29 := CI_b c (k := 309) (j := 20) bd_309_20
    have u30 := CI_b c (k := 309) (j := 36) bd_309_36
    have u31 := CI_b c (k := 309) (j := 43) bd_309_43
    have u32 := CI_b c (k := 309) (j := 44) bd_309_44
    have u33 := CI_b c (k := 309) (j := 58) bd_309_58
    have u34 := CI_b c (k := 316) (j := 0) bd_316_0
    have u35 := CI_b c (k := 329) (j := 0) bd_329_0
    have u36 := CI_b c (k := 329) (j := 1) bd_329_1
    exfalso; omega
  | succ F ih =>
    intro s a3 c f b3 i0 i1 i2 i3 i4 i5 hm
    refine T_of (fX12_at_L46.eq_2 ..) ?_
    have u1 := CI_b c (k := 309) (j := 20) bd_309_20
    have u2 := CI_b c (k := 309) (j := 36) bd_309_36
    have u3 := CI_b c (k := 309) (j := 43) bd_309_43
    have u4 := CI_b c (k := 309) (j := 44) bd_309_44
    have u5 := CI_b c (k := 309) (j := 58) bd_309_58
    have u6 := CI_b c (k := 316) (j := 0) bd_316_0
    have u7 := CI_b c (k := 329) (j := 0) bd_329_0
    have u8 := CI_b c (k := 329) (j := 1) bd_329_1
    have t9 : s 309 20 = r0 309 20 := f 309 20 (by decide)
    have t10 : s 316 0 = r0 316 0 := f 316 0 (by decide)
    have t11 : s 329 0 = r0 329 0 := f 329 0 (by decide)
    have t12 : s 329 1 = r0 329 1 := f 329 1 (by decide)
    refine T_if1 (by decide +kernel) ?_
    refine T_let 3438 (by decide +kernel) ?_
    refine T_leq (fun x13 e14 => ?_)
    first | (have w15 := z_wx e14 (by omega)) | (have w15 := z_wr e14)
    have n16 := y_L.at i0 (i := a1) (j := x13) (by omega) (by omega) (by omega)
    refine T_if1 (z_ixl (n := 201) (by decide +kernel) (by omega) (by omega)) ?_
    refine T_leq (fun x17 e18 => ?_)
    have u19 := CI_b c (k := 3438) (j := x13) (bdr_3438 x13)
    refine T_ite (fun h20 => ?_) (fun h20 => ?_)
    · exact hk s c f i2 (by first | exact i3 | exact y_DD.z (by omega) (by omega)) i4 (by first | exact i5 | exact y_K.b0 (by omega) | exact y_K.k0 (by omega) | exact y_K.bk (by omega))
    · refine T_if1 (by decide +kernel) ?_
      refine T_let 3220 (by decide +kernel) ?_
      refine T_if1 (z_ixl (n := 200) (by decide +kernel) (by omega) (by omega)) ?_
      refine T_leq (fun x21 e22 => ?_)
      have u23 := CI_b c (k := 3220) (j := a3) (bdr_3220 a3)
      refine T_ite (fun h24 => ?_) (fun h24 => ?_)
      · exact sj_X12_at_309_J81 hfu r0 s c f a1 a2 a3 (by omega) (by omega) (by omega) (by first | exact y_L.cg i0 (by omega) | exact y_K.L i5 (by omega) (by omega)) (by omega) (by omega) i2 (by first | exact i3 | exact y_DD.z (by omega) (by omega)) i4 (by first | exact i5 | exact y_K.b0 (by omega) | exact y_K.k0 (by omega) | exact y_K.bk (by omega)) (2147483647 - a3) (by omega) (fun s' v3 c' f' w3 z0 z1 z2 z3 z4 z5 pg => ih s' v3 c' f' w3 z0 z1 z2 z3 z4 z5 (by omega)) hk
      · refine T_if1 (by decide +kernel) ?_
        refine T_let 3445 (by decide +kernel) ?_
        refine T_if1 (z_ixl (n := 200) (by decide +kernel) (by omega) (by omega)) ?_
        refine T_leq (fun x25 e26 => ?_)
        have u27 := CI_b c (k := 3445) (j := a3) (bdr_3445 a3)
        refine T_ite (fun h28 => ?_) (fun h28 => ?_)
        · exact sj_X12_at_309_J81 hfu r0 s c f a1 a2 a3 (by omega) (by omega) (by omega) (by first | exact y_L.cg i0 (by omega) | exact y_K.L i5 (by omega) (by omega)) (by omega) (by omega) i2 (by first | exact i3 | exact y_DD.z (by omega) (by omega)) i4 (by first | exact i5 | exact y_K.b0 (by omega) | exact y_K.k0 (by omega) | exact y_K.bk (by omega)) (2147483647 - a3) (by omega) (fun s' v3 c' f' w3 z0 z1 z2 z3 z4 z5 pg => ih s' v3 c' f' w3 z0 z1 z2 z3 z4 z5 (by omega)) hk
        · exact sj_X12_at_309_J146 hfu r0 s c f a1 a2 a3 (by omega) (by omega) (by omega) (by first | exact y_L.cg i0 (by omega) | exact y_K.L i5 (by omega) (by omega)) (by omega) (by omega) i2 (by first | exact i3 | exact y_DD.z (by omega) (by omega)) i4 (by first | exact i5 | exact y_K.b0 (by omega) | exact y_K.k0 (by omega) | exact y_K.bk (by omega)) (2147483647 - a3) (by omega) (fun s' v3 c' f' w3 z0 z1 z2 z3 z4 z5 pg => ih s' v3 c' f' w3 z0 z1 z2 z3 z4 z5 (by omega)) hk
theorem sj_X12_at_309_J29 {fu : Nat} (hfu : 8589934592 ≤ fu) (r0 s : z_M) (c : z_CI s) (f : z_Fr R_X12_at_309 r0 s) (a1 : Int) (a2 : Int) (t1 : Int) (b1 : -2147483648 ≤ a1 ∧ a1 ≤ 2147483647) (b2 : -2147483648 ≤ a2 ∧ a2 ≤ 2147483647) (d1 : 0 ≤ t1 ∧ t1 ≤ 1) (p0 : t1 = 1 ∨ (0 ≤ a1 ∧ a1 < s 309 44)) (p1 : y_L s (s 309 44)) (p2 : y_TA s) (p3 : y_DD s) (p4 : y_B s) (p5 : y_K s) : z_T (fX12_at_J29 fu s 309 a1 a2 309 t1) (P_X12_at_309 r0) := by
  refine T_of (fX12_at_J29.eq_1 ..) ?_
  have u1 := CI_b c (k := 309) (j := 20) bd_309_20
  have u2 := CI_b c (k := 309) (j := 36) bd_309_36
  have u3 := CI_b c (k := 309) (j := 43) bd_309_43
  have u4 := CI_b c (k := 309) (j := 44) bd_309_44
  have u5 := CI_b c (k := 309) (j := 58) bd_309_58
  have u6 := CI_b c (k := 316) (j := 0) bd_316_0
  have u7 := CI_b c (k := 329) (j := 0) bd_329_0
  have u8 := CI_b c (k := 329) (j := 1) bd_329_1
  have t9 : s 309 20 = r0 309 20 := f 309 20 (by decide)
  have t10 : s 316 0 = r0 316 0 := f 316 0 (by decide)
  have t11 : s 329 0 = r0 329 0 := f 329 0 (by decide)
  have t12 : s 329 1 = r0 329 1 := f 329 1 (by decide)
  refine T_if1 (by decide +kernel) ?_
  refine T_useI (sf_X12_bad_309 hfu s c t1 1 0 (by omega) (by omega) (by omega) (by omega)) (fun v18 s13 hq => ?_)
  obtain ⟨c14, f15, o19, ⟨x17, rfl, b20, b21, o22, o23⟩⟩ := hq
  refine T_vI ?_
  have f16 := z_Fr.tr (R := R_X12_at_309) f f15 rs_X12_bad_309__X12_at_309
  have t24 : s13 309 20 = s 309 20 := f15 309 20 (by decide)
  have t25 : s13 309 36 = s 309 36 := f15 309 36 (by decide)
  have t26 : s13 309 43 = s 309 43 := f15 309 43 (by decide)
  have t27 : s13 309 44 = s 309 44 := f15 309 44 (by decide)
  have t28 : s13 309 58 = s 309 58 := f15 309 58 (by decide)
  have t29 : s13 316 0 = s 316 0 := f15 316 0 (by decide)
  have t30 : s13 329 0 = s 329 0 := f15 329 0 (by decide)
  have t31 : s13 329 1 = s 329 1 := f15 329 1 (by decide)
  have r32 := y_L.fr p1 (f15 309 20 (by decide)) (fun b => f15 3438 b (nr_X12_bad_309__3438 b))
  have r33 := y_TA.fr p2 (fun a b h => f15 a b (nq_X12_bad_309__316 a b h)) (fun a b h => f15 a b (nq_X12_bad_309__346 a b h)) (fun a b h => f15 a b (nq_X12_bad_309__361 a b h))
  have r34 := y_DD.fr p3 (f15 329 0 (by decide)) (f15 329 1 (by decide)) (fun b => f15 359 b (nr_X12_bad_309__359 b)) (fun b => f15 374 b (nr_X12_bad_309__374 b))
  have r35 := y_B.fr p4 (f15 309 20 (by decide)) (f15 316 0 (by decide)) (fun b => f15 3220 b (nr_X12_bad_309__3220 b)) (fun b => f15 3221 b (nr_X12_bad_309__3221 b)) (fun b => f15 3222 b (nr_X12_bad_309__3222 b)) (fun b => f15 361 b (nr_X12_bad_309__361 b))
  have r36 := y_K.fr p5 (by omega) (by omega) (f15 309 44 (by decide)) (f15 309 20 (by decide)) (f15 309 58 (by decide)) (fun b => f15 3438 b (nr_X12_bad_309__3438 b)) (fun b => f15 3220 b (nr_X12_bad_309__3220 b)) (fun a b h => f15 a b (nq_X12_bad_309__3452 a b h))
  refine T_ite (fun h37 => ?_) (fun h37 => ?_)
  · refine T_if1 (by decide +kernel) ?_
    refine T_let 3438 (by decide +kernel) ?_
    refine T_if1 (z_ixl (n := 201) (by decide +kernel) (by omega) (by omega)) ?_
    refine T_leq (fun x38 e39 => ?_)
    have u40 := CI_b c14 (k := 3438) (j := a1) (bdr_3438 a1)
    refine sl_X12_at_309_L46 hfu r0 a1 a2 (by omega) (by omega) (fun s41 c42 f43 g44 g45 g46 g47 => ?_) fu s13 x38 c14 f16 (by omega) (by first | exact y_L.cg r32 (by omega) | exact y_K.L r36 (by omega) (by omega)) (by omega) r33 (by first | exact r34 | exact y_DD.z (by omega) (by omega)) r35 (by first | exact r36 | exact y_K.b0 (by omega) | exact y_K.k0 (by omega) | exact y_K.bk (by omega)) (by omega)
    have u48 := CI_b c42 (k := 309) (j := 20) bd_309_20
    have u49 := CI_b c42 (k := 309) (j := 36) bd_309_36
    have u50 := CI_b c42 (k := 309) (j := 43) bd_309_43
    have u51 := CI_b c42 (k := 309) (j := 44) bd_309_44
    have u52 := CI_b c42 (k := 309) (j := 58) bd_309_58
    have u53 := CI_b c42 (k := 316) (j := 0) bd_316_0
    have u54 := CI_b c42 (k := 329) (j := 0) bd_329_0
    have u55 := CI_b c42 (k := 329) (j := 1) bd_329_1
    have t56 : s41 309 20 = r0 309 20 := f43 309 20 (by decide)
    have t57 : s41 316 0 = r0 316 0 := f43 316 0 (by decide)
    have t58 : s41 329 0 = r0 329 0 := f43 329 0 (by decide)
    have t59 : s41 329 1 = r0 329 1 := f43 329 1 (by decide)
    exact T_ret ⟨c42, f43, g44, (by first | exact g45 | exact y_DD.z (by omega) (by omega)), g46, (by first | exact g47 | exact y_K.b0 (by omega) | exact y_K.k0 (by omega) | exact y_K.bk (by omega)), ⟨(-1), rfl, by omega, by omega⟩⟩
  · exact T_ret ⟨c14, f16, r33, (by first | exact r34 | exact y_DD.z (by omega) (by omega)), r35, (by first | exact r36 | exact y_K.b0 (by omega) | exact y_K.k0 (by omega) | exact y_K.bk (by omega)), ⟨0, rfl, by omega, by omega⟩⟩
theorem sf_X12_at_309 {fu : Nat} (hfu : 8589934592 ≤ fu) (r0 : z_M) (c0 : z_CI r0) (a1 : Int) (a2 : Int) (b1 : -2147483648 ≤ a1 ∧ a1 ≤ 2147483647) (b2 : -2147483648 ≤ a2 ∧ a2 ≤ 2147483647) (p0 : y_TA r0) (p1 : y_DD r0) (p2 : y_B r0) (p3 : y_K r0) : z_T (fX12_at fu r0 309 a1 a2) (P_X12_at_309 r0) := by
  refine T_of (fX12_at.eq_1 ..) ?_
  have u1 := CI_b c0 (k := 309) (j := 20) bd_309_20
  have u2 := CI_b c0 (k := 309) (j := 36) bd_309_36
  have u3 := CI_b c0 (k := 309) (j := 43) bd_309_43
  have u4 := CI_b c0 (k := 309) (j := 44) bd_309_44
  have u5 := CI_b c0 (k := 309) (j := 58) bd_309_58
  have u6 := CI_b c0 (k := 316) (j := 0) bd_316_0
  have u7 := CI_b c0 (k := 329) (j := 0) bd_329_0
  have u8 := CI_b c0 (k := 329) (j := 1) bd_329_1
  refine T_if1 (by decide +kernel) ?_
  refine T_upg c0 bd_309_0 (by omega) (fun s9 c10 g12 g13 e14 => ?_)
  have f11 := z_Fr.upf (R := R_X12_at_309) z_Fr.rf g12 g13 (Or.inr (Or.inr (⟨rfl, by decide⟩)))
  have t15 : s9 309 20 = r0 309 20 := g13 20 (by decide)
  have t16 : s9 309 36 = r0 309 36 := g13 36 (by decide)
  have t17 : s9 309 43 = r0 309 43 := g13 43 (by decide)
  have t18 : s9 309 44 = r0 309 44 := g13 44 (by decide)
  have t19 : s9 309 58 = r0 309 58 := g13 58 (by decide)
  have t20 : s9 316 0 = r0 316 0 := g12 316 0 (by decide)
  have t21 : s9 329 0 = r0 329 0 := g12 329 0 (by decide)
  have t22 : s9 329 1 = r0 329 1 := g12 329 1 (by decide)
  have r23 := y_TA.fr p0 (fun a b h => g12 a b (by omega)) (fun a b h => g12 a b (by omega)) (fun a b h => g12 a b (by omega))
  have r24 := y_DD.fr p1 (g12 329 0 (by decide)) (g12 329 1 (by decide)) (fun b => g12 359 b (by decide)) (fun b => g12 374 b (by decide))
  have r25 := y_B.fr p2 (g13 20 (by decide)) (g12 316 0 (by decide)) (fun b => g12 3220 b (by decide)) (fun b => g12 3221 b (by decide)) (fun b => g12 3222 b (by decide)) (fun b => g12 361 b (by decide))
  have r26 := y_K.fr p3 (by omega) (by omega) (g13 44 (by decide)) (g13 20 (by decide)) (g13 58 (by decide)) (fun b => g12 3438 b (by decide)) (fun b => g12 3220 b (by decide)) (fun a b h => g12 a b (by omega))
  refine T_if1 (by decide +kernel) ?_
  refine T_useN (sf_X12_laysAll_309 hfu s9 c10 r25 (by first | exact r26 | exact y_K.b0 (by omega) | exact y_K.k0 (by omega) | exact y_K.bk (by omega))) (fun v32 s27 hq => ?_)
  obtain ⟨c28, f29, o33, o34, o35, o36, o37, o38, rfl⟩ := hq
  refine T_vN ?_
  have f30 := z_Fr.tr (R := R_X12_at_309) f11 f29 rs_X12_laysAll_309__X12_at_309
  have t41 : s27 309 20 = r0 309 20 := (f29 309 20 (by decide)).trans t15
  have t42 : s27 316 0 = r0 316 0 := (f29 316 0 (by decide)).trans t20
  have t43 : s27 329 0 = r0 329 0 := (f29 329 0 (by decide)).trans t21
  have t44 : s27 329 1 = r0 329 1 := (f29 329 1 (by decide)).trans t22
  have u45 := CI_b c28 (k := 309) (j := 36) bd_309_36
  have u46 := CI_b c28 (k := 309) (j := 43) bd_309_43
  have u47 := CI_b c28 (k := 309) (j := 44) bd_309_44
  have u48 := CI_b c28 (k := 309) (j := 58) bd_309_58
  have r49 := y_TA.fr r23 (fun a b h => f29 a b (nq_X12_laysAll_309__316 a b h)) (fun a b h => f29 a b (nq_X12_laysAll_309__346 a b h)) (fun a b h => f29 a b (nq_X12_laysAll_309__361 a b h))
  have r50 := y_DD.fr r24 (f29 329 0 (by decide)) (f29 329 1 (by decide)) (fun b => f29 359 b (nr_X12_laysAll_309__359 b)) (fun b => f29 374 b (nr_X12_laysAll_309__374 b))
  have r51 := y_B.fr r25 (f29 309 20 (by decide)) (f29 316 0 (by decide)) (fun b => f29 3220 b (nr_X12_laysAll_309__3220 b)) (fun b => f29 3221 b (nr_X12_laysAll_309__3221 b)) (fun b => f29 3222 b (nr_X12_laysAll_309__3222 b)) (fun b => f29 361 b (nr_X12_laysAll_309__361 b))
  clear t15
  clear t20
  clear t21
  clear t22
  refine T_if1 (by decide +kernel) ?_
  refine T_leq (fun x52 e53 => ?_)
  have u54 := CI_b c28 (k := 309) (j := 44) bd_309_44
  refine T_leq (fun x55 e56 => ?_)
  first | (have w57 := z_wx e56 (by omega)) | (have w57 := z_wr e56)
  refine T_useI (sf_X12_in hfu s27 c28 a1 0 x55 (by omega) (by omega) (by omega)) (fun v63 s58 hq => ?_)
  obtain ⟨c59, f60, ⟨x62, rfl, b64, b65, o66⟩⟩ := hq
  refine T_vI ?_
  have q67 := z_Fr.eq (fun a b h => h) f60
  subst q67
  refine T_ite (fun h68 => ?_) (fun h68 => ?_)
  · exact sj_X12_at_309_J29 hfu r0 s27 c28 f30 a1 a2 0 (by omega) (by omega) (by omega) (by omega) (by first | exact y_L.cg o34 (by omega) | exact y_K.L o33 (by omega) (by omega)) r49 (by first | exact r50 | exact y_DD.z (by omega) (by omega)) r51 (by first | exact o33 | exact y_K.b0 (by omega) | exact y_K.k0 (by omega) | exact y_K.bk (by omega) | exact y_K.mk o34 (by omega) o35)
  · exact sj_X12_at_309_J29 hfu r0 s27 c28 f30 a1 a2 1 (by omega) (by omega) (by omega) (by omega) (by first | exact y_L.cg o34 (by omega) | exact y_K.L o33 (by omega) (by omega)) r49 (by first | exact r50 | exact y_DD.z (by omega) (by omega)) r51 (by first | exact o33 | exact y_K.b0 (by omega) | exact y_K.k0 (by omega) | exact y_K.bk (by omega) | exact y_K.mk o34 (by omega) o35)
abbrev R_X12_partner_309 (a b : Int) : Prop := (310 ≤ a ∧ a ≤ 310) ∨ (3235 ≤ a ∧ a ≤ 3437) ∨ (a = 309 ∧ (b = 0 ∨ b = 36 ∨ b = 38 ∨ b = 39 ∨ b = 43))
abbrev P_X12_partner_309 (r0 : z_M) : z_V → z_M → Prop := fun v s' => z_CI s' ∧ z_Fr R_X12_partner_309 r0 s' ∧ (y_TA s') ∧ (y_DD s') ∧ (y_B s') ∧ (y_K s') ∧ (∃ x, v = vI x ∧ -2147483648 ≤ x ∧ x ≤ 2147483647)
theorem rs_X12_bad_309__X12_partner_309 (a b : Int) (h : R_X12_bad_309 a b) : R_X12_partner_309 a b := (h.elim (fun h => (Or.inl (⟨by omega, by omega⟩))) (fun h => (Or.inr (Or.inr (⟨h.1, by omega⟩)))))
theorem rs_X12_freshens_309__X12_partner_309 (a b : Int) (h : R_X12_freshens_309 a b) : R_X12_partner_309 a b := (h.elim (fun h => (Or.inr (Or.inl (⟨by omega, by omega⟩)))) (fun h => (Or.inr (Or.inr (⟨h.1, by omega⟩)))))
theorem nq_X12_freshens_309__316 (a b : Int) (h : 316 ≤ a ∧ a ≤ 328) : ¬ R_X12_freshens_309 a b := by
  unfold R_X12_freshens_309; omega
theorem nq_X12_freshens_309__346 (a b : Int) (h : 346 ≤ a ∧ a ≤ 358) : ¬ R_X12_freshens_309 a b := by
  unfold R_X12_freshens_309; omega
theorem nq_X12_freshens_309__361 (a b : Int) (h : 361 ≤ a ∧ a ≤ 373) : ¬ R_X12_freshens_309 a b := by
  unfold R_X12_freshens_309; omega
theorem nr_X12_freshens_309__359 (b : Int) : ¬ R_X12_freshens_309 359 b := by
  unfold R_X12_freshens_309; omega
theorem nr_X12_freshens_309__374 (b : Int) : ¬ R_X12_freshens_309 374 b := by
  unfold R_X12_freshens_309; omega
theorem sj_X12_partner_309_J19 {fu : Nat} (hfu : 8589934592 ≤ fu) (r0 s : z_M) (c : z_CI s) (f : z_Fr R_X12_partner_309 r0 s) (a1 : Int) (t1 : Int) (b1 : -2147483648 ≤ a1 ∧ a1 ≤ 2147483647) (d1 : 0 ≤ t1 ∧ t1 ≤ 1) (p0 : t1 = 1 ∨ (0 ≤ a1 ∧ a1 < s 309 20)) (p1 : y_TA s) (p2 : y_DD s) (p3 : y_B s) (p4 : y_K s) : z_T (fX12_partner_J19 fu s 309 a1 309 t1) (P_X12_partner_309 r0) := by
  refine T_of (fX12_partner_J19.eq_1 ..) ?_
  have u1 := CI_b c (k := 309) (j := 20) bd_309_20
  have u2 := CI_b c (k := 309) (j := 36) bd_309_36
  have u3 := CI_b c (k := 309) (j := 43) bd_309_43
  have u4 := CI_b c (k := 309) (j := 44) bd_309_44
  have u5 := CI_b c (k := 309) (j := 58) bd_309_58
  have u6 := CI_b c (k := 316) (j := 0) bd_316_0
  have u7 := CI_b c (k := 329) (j := 0) bd_329_0
  have u8 := CI_b c (k := 329) (j := 1) bd_329_1
  have t9 : s 309 20 = r0 309 20 := f 309 20 (by decide)
  have t10 : s 309 44 = r0 309 44 := f 309 44 (by decide)
  have t11 : s 309 58 = r0 309 58 := f 309 58 (by decide)
  have t12 : s 316 0 = r0 316 0 := f 316 0 (by decide)
  have t13 : s 329 0 = r0 329 0 := f 329 0 (by decide)
  have t14 : s 329 1 = r0 329 1 := f 329 1 (by decide)
  refine T_if1 (by decide +kernel) ?_
  refine T_useI (sf_X12_bad_309 hfu s c t1 1 0 (by omega) (by omega) (by omega) (by omega)) (fun v20 s15 hq => ?_)
  obtain ⟨c16, f17, o21, ⟨x19, rfl, b22, b23, o24, o25⟩⟩ := hq
  refine T_vI ?_
  have f18 := z_Fr.tr (R := R_X12_partner_309) f f17 rs_X12_bad_309__X12_partner_309
  have t26 : s15 309 20 = s 309 20 := f17 309 20 (by decide)
  have t27 : s15 309 36 = s 309 36 := f17 309 36 (by decide)
  have t28 : s15 309 43 = s 309 43 := f17 309 43 (by decide)
  have t29 : s15 309 44 = s 309 44 := f17 309 44 (by decide)
  have t30 : s15 309 58 = s 309 58 := f17 309 58 (by decide)
  have t31 : s15 316 0 = s 316 0 := f17 316 0 (by decide)
  have t32 : s15 329 0 = s 329 0 := f17 329 0 (by decide)
  have t33 : s15 329 1 = s 329 1 := f17 329 1 (by decide)
  have r34 := y_TA.fr p1 (fun a b h => f17 a b (nq_X12_bad_309__316 a b h)) (fun a b h => f17 a b (nq_X12_bad_309__346 a b h)) (fun a b h => f17 a b (nq_X12_bad_309__361 a b h))
  have r35 := y_DD.fr p2 (f17 329 0 (by decide)) (f17 329 1 (by decide)) (fun b => f17 359 b (nr_X12_bad_309__359 b)) (fun b => f17 374 b (nr_X12_bad_309__374 b))
  have r36 := y_B.fr p3 (f17 309 20 (by decide)) (f17 316 0 (by decide)) (fun b => f17 3220 b (nr_X12_bad_309__3220 b)) (fun b => f17 3221 b (nr_X12_bad_309__3221 b)) (fun b => f17 3222 b (nr_X12_bad_309__3222 b)) (fun b => f17 361 b (nr_X12_bad_309__361 b))
  have r37 := y_K.fr p4 (by omega) (by omega) (f17 309 44 (by decide)) (f17 309 20 (by decide)) (f17 309 58 (by decide)) (fun b => f17 3438 b (nr_X12_bad_309__3438 b)) (fun b => f17 3220 b (nr_X12_bad_309__3220 b)) (fun a b h => f17 a b (nq_X12_bad_309__3452 a b h))
  refine T_ite (fun h38 => ?_) (fun h38 => ?_)
  · refine T_if1 (by decide +kernel) ?_
    refine T_useN (sf_X12_freshens_309 hfu s15 c16 r36) (fun v44 s39 hq => ?_)
    obtain ⟨c40, f41, o45, o46, o47, o48, rfl⟩ := hq
    refine T_vN ?_
    have f42 := z_Fr.tr (R := R_X12_partner_309) f18 f41 rs_X12_freshens_309__X12_partner_309
    have t51 : s39 309 20 = s 309 20 := (f41 309 20 (by decide)).trans t26
    have t52 : s39 309 44 = s 309 44 := (f41 309 44 (by decide)).trans t29
    have t53 : s39 309 58 = s 309 58 := (f41 309 58 (by decide)).trans t30
    have t54 : s39 316 0 = s 316 0 := (f41 316 0 (by decide)).trans t31
    have t55 : s39 329 0 = s 329 0 := (f41 329 0 (by decide)).trans t32
    have t56 : s39 329 1 = s 329 1 := (f41 329 1 (by decide)).trans t33
    have u57 := CI_b c40 (k := 309) (j := 36) bd_309_36
    have u58 := CI_b c40 (k := 309) (j := 43) bd_309_43
    have r59 := y_TA.fr r34 (fun a b h => f41 a b (nq_X12_freshens_309__316 a b h)) (fun a b h => f41 a b (nq_X12_freshens_309__346 a b h)) (fun a b h => f41 a b (nq_X12_freshens_309__361 a b h))
    have r60 := y_DD.fr r35 (f41 329 0 (by decide)) (f41 329 1 (by decide)) (fun b => f41 359 b (nr_X12_freshens_309__359 b)) (fun b => f41 374 b (nr_X12_freshens_309__374 b))
    have r61 := y_B.fr r36 (f41 309 20 (by decide)) (f41 316 0 (by decide)) (fun b => f41 3220 b (nr_X12_freshens_309__3220 b)) (fun b => f41 3221 b (nr_X12_freshens_309__3221 b)) (fun b => f41 3222 b (nr_X12_freshens_309__3222 b)) (fun b => f41 361 b (nr_X12_freshens_309__361 b))
    have r62 := y_K.fr r37 (by omega) (by omega) (f41 309 44 (by decide)) (f41 309 20 (by decide)) (f41 309 58 (by decide)) (fun b => f41 3438 b (nr_X12_freshens_309__3438 b)) (fun b => f41 3220 b (nr_X12_freshens_309__3220 b)) (fun a b h => f41 a b (nq_X12_freshens_309__3452 a b h))
    clear t26
    clear t29
    clear t30
    clear t31
    clear t32
    clear t33
    refine T_if1 (by decide +kernel) ?_
    refine T_let 3435 (by decide +kernel) ?_
    refine T_if1 (z_ixl (n := 200) (by decide +kernel) (by omega) (by omega)) ?_
    refine T_leq (fun x63 e64 => ?_)
    have u65 := CI_b c40 (k := 3435) (j := a1) (bdr_3435 a1)
    exact T_ret ⟨c40, f42, r59, (by first | exact r60 | exact y_DD.z (by omega) (by omega)), r61, (by first | exact r62 | exact y_K.b0 (by omega) | exact y_K.k0 (by omega) | exact y_K.bk (by omega)), ⟨x63, rfl, by omega, by omega⟩⟩
  · exact T_ret ⟨c16, f18, r34, (by first | exact r35 | exact y_DD.z (by omega) (by omega)), r36, (by first | exact r37 | exact y_K.b0 (by omega) | exact y_K.k0 (by omega) | exact y_K.bk (by omega)), ⟨0, rfl, by omega, by omega⟩⟩
theorem sf_X12_partner_309 {fu : Nat} (hfu : 8589934592 ≤ fu) (r0 : z_M) (c0 : z_CI r0) (a1 : Int) (b1 : -2147483648 ≤ a1 ∧ a1 ≤ 2147483647) (p0 : y_TA r0) (p1 : y_DD r0) (p2 : y_B r0) (p3 : y_K r0) : z_T (fX12_partner fu r0 309 a1) (P_X12_partner_309 r0) := by
  refine T_of (fX12_partner.eq_1 ..) ?_
  have u1 := CI_b c0 (k := 309) (j := 20) bd_309_20
  have u2 := CI_b c0 (k := 309) (j := 36) bd_309_36
  have u3 := CI_b c0 (k := 309) (j := 43) bd_309_43
  have u4 := CI_b c0 (k := 309) (j := 44) bd_309_44
  have u5 := CI_b c0 (k := 309) (j := 58) bd_309_58
  have u6 := CI_b c0 (k := 316) (j := 0) bd_316_0
  have u7 := CI_b c0 (k := 329) (j := 0) bd_329_0
  have u8 := CI_b c0 (k := 329) (j := 1) bd_329_1
  refine T_if1 (by decide +kernel) ?_
  refine T_upg c0 bd_309_0 (by omega) (fun s9 c10 g12 g13 e14 => ?_)
  have f11 := z_Fr.upf (R := R_X12_partner_309) z_Fr.rf g12 g13 (Or.inr (Or.inr (⟨rfl, by decide⟩)))
  have t15 : s9 309 20 = r0 309 20 := g13 20 (by decide)
  have t16 : s9 309 36 = r0 309 36 := g13 36 (by decide)
  have t17 : s9 309 43 = r0 309 43 := g13 43 (by decide)
  have t18 : s9 309 44 = r0 309 44 := g13 44 (by decide)
  have t19 : s9 309 58 = r0 309 58 := g13 58 (by decide)
  have t20 : s9 316 0 = r0 316 0 := g12 316 0 (by decide)
  have t21 : s9 329 0 = r0 329 0 := g12 329 0 (by decide)
  have t22 : s9 329 1 = r0 329 1 := g12 329 1 (by decide)
  have r23 := y_TA.fr p0 (fun a b h => g12 a b (by omega)) (fun a b h => g12 a b (by omega)) (fun a b h => g12 a b (by omega))
  have r24 := y_DD.fr p1 (g12 329 0 (by decide)) (g12 329 1 (by decide)) (fun b => g12 359 b (by decide)) (fun b => g12 374 b (by decide))
  have r25 := y_B.fr p2 (g13 20 (by decide)) (g12 316 0 (by decide)) (fun b => g12 3220 b (by decide)) (fun b => g12 3221 b (by decide)) (fun b => g12 3222 b (by decide)) (fun b => g12 361 b (by decide))
  have r26 := y_K.fr p3 (by omega) (by omega) (g13 44 (by decide)) (g13 20 (by decide)) (g13 58 (by decide)) (fun b => g12 3438 b (by decide)) (fun b => g12 3220 b (by decide)) (fun a b h => g12 a b (by omega))
  refine T_if1 (by decide +kernel) ?_
  refine T_useI (sf_X12_isUnit_309 hfu s9 c10 a1 (by omega)) (fun v32 s27 hq => ?_)
  obtain ⟨c28, f29, ⟨x31, rfl, b33, b34, o35⟩⟩ := hq
  refine T_vI ?_
  have q36 := z_Fr.eq (fun a b h => h) f29
  subst q36
  refine T_ite (fun h37 => ?_) (fun h37 => ?_)
  · exact sj_X12_partner_309_J19 hfu r0 s9 c10 f11 a1 0 (by omega) (by omega) (by omega) r23 (by first | exact r24 | exact y_DD.z (by omega) (by omega)) r25 (by first | exact r26 | exact y_K.b0 (by omega) | exact y_K.k0 (by omega) | exact y_K.bk (by omega))
  · exact sj_X12_partner_309_J19 hfu r0 s9 c10 f11 a1 1 (by omega) (by omega) (by omega) r23 (by first | exact r24 | exact y_DD.z (by omega) (by omega)) r25 (by first | exact r26 | exact y_K.b0 (by omega) | exact y_K.k0 (by omega) | exact y_K.bk (by omega))
abbrev R_X12_addsThing_309 (a b : Int) : Prop := (3653 ≤ a ∧ a ≤ 7652) ∨ (a = 309 ∧ (b = 60))
abbrev P_X12_addsThing_309 (r0 : z_M) : z_V → z_M → Prop := fun v s' => z_CI s' ∧ z_Fr R_X12_addsThing_309 r0 s' ∧ (s' 309 60 = r0 309 60 + 1) ∧ (v = vN)
theorem sf_X12_addsThing_309 {fu : Nat} (hfu : 8589934592 ≤ fu) (r0 : z_M) (c0 : z_CI r0) (a1 : Int) (a2 : Int) (b1 : -2147483648 ≤ a1 ∧ a1 ≤ 2147483647) (b2 : -2147483648 ≤ a2 ∧ a2 ≤ 2147483647) (p0 : r0 309 60 ≤ 3999) : z_T (fX12_addsThing fu r0 309 a1 a2) (P_X12_addsThing_309 r0) := by
  refine T_of (fX12_addsThing.eq_1 ..) ?_
  have u1 := CI_b c0 (k := 309) (j := 60) bd_309_60
  refine T_if1 (by decide +kernel) ?_
  refine T_let 3652 (by decide +kernel) ?_
  refine T_if1 (by decide +kernel) ?_
  refine T_leq (fun x2 e3 => ?_)
  have u4 := CI_b c0 (k := 309) (j := 60) bd_309_60
  refine T_if1 (z_ixl (n := 4000) (by decide +kernel) (by omega) (by omega)) ?_
  refine T_let (3653 + x2) (gr_3652 x2) ?_
  refine T_if1 (z_ixs (sh_r3652 (by omega)) (by omega) (by omega) (by omega)) ?_
  refine T_upg c0 (bds_r3652 (by omega) 0) (by omega) (fun s5 c6 g8 g9 e10 => ?_)
  have f7 := z_Fr.up (R := R_X12_addsThing_309) z_Fr.rf g8 (fun b => by unfold R_X12_addsThing_309; omega)
  have t11 : s5 309 60 = x2 := (g8 309 60 (by omega)).trans e3
  refine T_if1 (by decide +kernel) ?_
  refine T_let 3652 (by decide +kernel) ?_
  refine T_if1 (by decide +kernel) ?_
  refine T_leq (fun x12 e13 => ?_)
  have q14 : x2 = x12 := t11.symm.trans e13
  subst q14
  refine T_if1 (z_ixl (n := 4000) (by decide +kernel) (by omega) (by omega)) ?_
  refine T_let (3653 + x2) (gr_3652 x2) ?_
  refine T_if1 (z_ixs (sh_r3652 (by omega)) (by omega) (by omega) (by omega)) ?_
  refine T_upg c6 (bds_r3652 (by omega) 1) (by omega) (fun s15 c16 g18 g19 e20 => ?_)
  have f17 := z_Fr.up (R := R_X12_addsThing_309) f7 g18 (fun b => by unfold R_X12_addsThing_309; omega)
  have t21 : s15 309 60 = x2 := (g18 309 60 (by omega)).trans t11
  clear t11
  refine T_if1 (by decide +kernel) ?_
  refine T_leq (fun x22 e23 => ?_)
  have q24 : x2 = x22 := t21.symm.trans e23
  subst q24
  refine T_leq (fun x25 e26 => ?_)
  first | (have w27 := z_wx e26 (by omega)) | (have w27 := z_wr e26)
  refine T_if1 (by decide +kernel) ?_
  refine T_upg c16 bd_309_60 (by omega) (fun s28 c29 g31 g32 e33 => ?_)
  have f30 := z_Fr.upf (R := R_X12_addsThing_309) f17 g31 g32 (Or.inr (⟨rfl, by decide⟩))
  have u34 := CI_b c29 (k := 309) (j := 60) bd_309_60
  exact T_ret ⟨c29, f30, (by omega), rfl⟩
abbrev R_X12_laysLetters_309 (a b : Int) : Prop := (3653 ≤ a ∧ a ≤ 7652) ∨ (a = 309 ∧ (b = 60))
abbrev P_X12_laysLetters_309 (r0 : z_M) : z_V → z_M → Prop := fun v s' => z_CI s' ∧ z_Fr R_X12_laysLetters_309 r0 s' ∧ (s' 309 60 ≤ r0 309 60 + 1800) ∧ (r0 309 60 ≤ s' 309 60) ∧ (∃ x, v = vI x ∧ 0 ≤ x ∧ x ≤ 4000 ∧ (x = s' 309 60))
theorem rs_X12_addsThing_309__X12_laysLetters_309 (a b : Int) (h : R_X12_addsThing_309 a b) : R_X12_laysLetters_309 a b := (h.elim (fun h => (Or.inl (⟨by omega, by omega⟩))) (fun h => (Or.inr (⟨h.1, by omega⟩))))
theorem nr_X12_addsThing_309__3220 (b : Int) : ¬ R_X12_addsThing_309 3220 b := by
  unfold R_X12_addsThing_309; omega
theorem nr_X12_addsThing_309__3221 (b : Int) : ¬ R_X12_addsThing_309 3221 b := by
  unfold R_X12_addsThing_309; omega
theorem nr_X12_addsThing_309__3222 (b : Int) : ¬ R_X12_addsThing_309 3222 b := by
  unfold R_X12_addsThing_309; omega
theorem nr_X12_addsThing_309__361 (b : Int) : ¬ R_X12_addsThing_309 361 b := by
  unfold R_X12_addsThing_309; omega
theorem nq_X12_addsThing_309__3452 (a b : Int) (h : 3452 ≤ a ∧ a ≤ 3651) : ¬ R_X12_addsThing_309 a b := by
  unfold R_X12_addsThing_309; omega
theorem nq_X12_addsThing_309__406 (a b : Int) (h : 406 ≤ a ∧ a ≤ 606) : ¬ R_X12_addsThing_309 a b := by
  unfold R_X12_addsThing_309; omega
theorem sl_X12_laysLetters_309_L33 {fu : Nat} (hfu : 8589934592 ≤ fu) (r0 : z_M) (a1 : Int) (a2 : Int) (a3 : Int) (b1 : -2147483648 ≤ a1 ∧ a1 ≤ 2147483647) (b2 : 0 ≤ a2 ∧ a2 ≤ 1) (b3 : 0 ≤ a3 ∧ a3 ≤ 199) (q0 : r0 309 60 ≤ 2200) {k : z_M → z_O} (hk : ∀ (s' : z_M), z_CI s' → z_Fr R_X12_laysLetters_309 r0 s' → (y_B s') → (y_BK s') → (a3 < s' 309 58) → (r0 309 60 ≤ s' 309 60) → (y_TH s' (a3 + 1) (s' 309 60 - r0 309 60)) → z_T (k s') (P_X12_laysLetters_309 r0)) : ∀ (F : Nat) (s : z_M) (a4 : Int), z_CI s → z_Fr R_X12_laysLetters_309 r0 s → (0 ≤ a4 ∧ a4 ≤ 1800) → (y_B s) → (y_BK s) → (a3 < s 309 58) → (r0 309 60 ≤ s 309 60) → (y_TH s a3 (s 309 60 - r0 309 60 - a4)) → (y_LI s a3 a2 a4) → (2147483647 - a4 < (F : Int)) → z_T (fX12_laysLetters_L33 fu 309 a1 a2 a3 F s a4 k) (P_X12_laysLetters_309 r0) := by
  intro F
  induction F with
  | zero =>
    intro s a4 c f b4 i0 i1 i2 i3 i4 i5 hm
    have u56 := CI_b c (k := 309) (j := 20) bd_309_20
    have u57 := CI_b c (k := 309) (j := 58) bd_309_58
    have u58 := CI_b c (k := 309) (j := 60) bd_309_60
    have u59 := CI_b c (k := 316) (j := 0) bd_316_0
    exfalso; omega
  | succ F ih =>
    intro s a4 c f b4 i0 i1 i2 i3 i4 i5 hm
    refine T_of (fX12_laysLetters_L33.eq_2 ..) ?_
    have u1 := CI_b c (k := 309) (j := 20) bd_309_20
    have u2 := CI_b c (k := 309) (j := 58) bd_309_58
    have u3 := CI_b c (k := 309) (j := 60) bd_309_60
    have u4 := CI_b c (k := 316) (j := 0) bd_316_0
    have t5 : s 309 20 = r0 309 20 := f 309 20 (by decide)
    have t6 : s 309 58 = r0 309 58 := f 309 58 (by decide)
    have t7 : s 316 0 = r0 316 0 := f 316 0 (by decide)
    have n8 := CI_b c (k := 3452 + a3) (j := 0) (bds_r3451_0 (by omega))
    have n9 := CI_b c (k := 3452 + a3) (j := 1) (bds_r3451_1 (by omega))
    refine T_if1 (by decide +kernel) ?_
    refine T_useI (sf_X12_lettersIn_309 hfu s c a3 a2 (by omega) (by omega) i0 i1 (by omega)) (fun v15 s10 hq => ?_)
    obtain ⟨c11, f12, ⟨x14, rfl, b16, b17, o18, o19⟩⟩ := hq
    refine T_vI ?_
    have q20 := z_Fr.eq (fun a b h => h) f12
    subst q20
    have n21 := y_LI.to i5
    refine T_ite (fun h22 => ?_) (fun h22 => ?_)
    · exact hk s c f i0 i1 (by omega) (by omega) (by first | exact y_TH.cg i4 (by omega) (by omega) | exact y_TH.z (by omega) (by omega) | exact y_TH.nx i4 i1 (by omega) (by omega) (by omega) (by omega) (by omega))
    · have n23 := y_TH.le i4 i1 (by omega) (by omega)
      have n24 := y_BK.en i1 (k := a3) (by omega) (by omega)
      have r25 : y_LI s a3 a2 (a4 + 1) := y_LI.mk (by assumption) (by omega)
      refine T_if1 (by decide +kernel) ?_
      refine T_useI (sf_X12_letterPlace_309 hfu s c a3 a2 a4 (by omega) (by omega) (by omega) i0 i1 (by omega) (by omega)) (fun v31 s26 hq => ?_)
      obtain ⟨c27, f28, ⟨x30, rfl, b32, b33⟩⟩ := hq
      refine T_vI ?_
      have q34 := z_Fr.eq (fun a b h => h) f28
      subst q34
      refine T_if1 (by decide +kernel) ?_
      refine T_useN (sf_X12_addsThing_309 hfu s c x30 6 (by omega) (by omega) (by omega)) (fun v40 s35 hq => ?_)
      obtain ⟨c36, f37, o41, rfl⟩ := hq
      refine T_vN ?_
      have f38 := z_Fr.tr (R := R_X12_laysLetters_309) f f37 rs_X12_addsThing_309__X12_laysLetters_309
      have t44 : s35 309 20 = s 309 20 := f37 309 20 (by decide)
      have t45 : s35 309 58 = s 309 58 := f37 309 58 (by decide)
      have t46 : s35 316 0 = s 316 0 := f37 316 0 (by decide)
      have u47 := CI_b c36 (k := 309) (j := 60) bd_309_60
      have r48 := y_B.fr i0 (f37 309 20 (by decide)) (f37 316 0 (by decide)) (fun b => f37 3220 b (nr_X12_addsThing_309__3220 b)) (fun b => f37 3221 b (nr_X12_addsThing_309__3221 b)) (fun b => f37 3222 b (nr_X12_addsThing_309__3222 b)) (fun b => f37 361 b (nr_X12_addsThing_309__361 b))
      have r49 := y_BK.fr i1 (by omega) (f37 309 20 (by decide)) (f37 309 58 (by decide)) (fun b => f37 3220 b (nr_X12_addsThing_309__3220 b)) (fun a b h => f37 a b (nq_X12_addsThing_309__3452 a b h))
      have r50 := y_TH.fr i4 (by omega) (fun a b h => f37 a b (nq_X12_addsThing_309__3452 a b h))
      have r51 := y_LI.fr i5 c (by omega) (fun b => f37 3221 b (nr_X12_addsThing_309__3221 b)) (fun b => f37 361 b (nr_X12_addsThing_309__361 b)) (fun a b h => f37 a b (nq_X12_addsThing_309__406 a b h)) (fun a b h => f37 a b (nq_X12_addsThing_309__3452 a b h))
      have r52 := y_LI.fr r25 c (by omega) (fun b => f37 3221 b (nr_X12_addsThing_309__3221 b)) (fun b => f37 361 b (nr_X12_addsThing_309__361 b)) (fun a b h => f37 a b (nq_X12_addsThing_309__406 a b h)) (fun a b h => f37 a b (nq_X12_addsThing_309__3452 a b h))
      refine T_leq (fun x53 e54 => ?_)
      first | (have w55 := z_wx e54 (by omega)) | (have w55 := z_wr e54)
      exact ih s35 x53 c36 f38 (by omega) r48 r49 (by omega) (by omega) (by first | exact y_TH.cg r50 (by omega) (by omega) | exact y_TH.z (by omega) (by omega) | exact y_TH.nx r50 r49 (by omega) (by omega) (by omega) (by omega) (by omega)) (by first | exact y_LI.cg r52 (by omega) (by omega) (by omega) | exact y_LI.cg r51 (by omega) (by omega) (by omega) | exact y_LI.z (by omega)) (by omega)
theorem sj_X12_laysLetters_309_J64 {fu : Nat} (hfu : 8589934592 ≤ fu) (r0 s : z_M) (c : z_CI s) (f : z_Fr R_X12_laysLetters_309 r0 s) (a1 : Int) (a2 : Int) (a3 : Int) (b1 : -2147483648 ≤ a1 ∧ a1 ≤ 2147483647) (b2 : 0 ≤ a2 ∧ a2 ≤ 1) (b3 : 0 ≤ a3 ∧ a3 ≤ 199) (p0 : y_B s) (p1 : y_BK s) (p2 : y_TH s (a3 + 1) (s 309 60 - r0 309 60)) (p3 : r0 309 60 ≤ s 309 60) (p4 : a3 < s 309 58) (M : Int) (pm : 2147483647 - a3 ≤ M) {r : z_M → Int → z_O} {k : z_M → z_O} (hr : ∀ (s' : z_M) (v3 : Int), z_CI s' → z_Fr R_X12_laysLetters_309 r0 s' → (0 ≤ v3 ∧ v3 ≤ 200) → (y_B s') → (y_BK s') → (y_TH s' v3 (s' 309 60 - r0 309 60)) → (r0 309 60 ≤ s' 309 60) → (v3 ≤ s' 309 58) → (2147483647 - v3 < M) → z_T (r s' v3) (P_X12_laysLetters_309 r0)) (hk : ∀ (s' : z_M), z_CI s' → z_Fr R_X12_laysLetters_309 r0 s' → (s' 309 60 ≤ r0 309 60 + 1800) → (r0 309 60 ≤ s' 309 60) → z_T (k s') (P_X12_laysLetters_309 r0)) : z_T (fX12_laysLetters_J64 fu s 309 a1 a2 a3 r k) (P_X12_laysLetters_309 r0) := by
  refine T_of (fX12_laysLetters_J64.eq_1 ..) ?_
  have u1 := CI_b c (k := 309) (j := 20) bd_309_20
  have u2 := CI_b c (k := 309) (j := 58) bd_309_58
  have u3 := CI_b c (k := 309) (j := 60) bd_309_60
  have u4 := CI_b c (k := 316) (j := 0) bd_316_0
  have t5 : s 309 20 = r0 309 20 := f 309 20 (by decide)
  have t6 : s 309 58 = r0 309 58 := f 309 58 (by decide)
  have t7 : s 316 0 = r0 316 0 := f 316 0 (by decide)
  refine T_leq (fun x8 e9 => ?_)
  first | (have w10 := z_wx e9 (by omega)) | (have w10 := z_wr e9)
  exact hr s x8 c f (by omega) p0 p1 (by first | exact y_TH.cg p2 (by omega) (by omega) | exact y_TH.z (by omega) (by omega) | exact y_TH.nx p2 p1 (by omega) (by omega) (by omega) (by omega) (by omega)) (by omega) (by omega) (by omega)
theorem sl_X12_laysLetters_309_L2 {fu : Nat} (hfu : 8589934592 ≤ fu) (r0 : z_M) (a1 : Int) (a2 : Int) (b1 : -2147483648 ≤ a1 ∧ a1 ≤ 2147483647) (b2 : 0 ≤ a2 ∧ a2 ≤ 1) (q0 : r0 309 60 ≤ 2200) {k : z_M → z_O} (hk : ∀ (s' : z_M), z_CI s' → z_Fr R_X12_laysLetters_309 r0 s' → (s' 309 60 ≤ r0 309 60 + 1800) → (r0 309 60 ≤ s' 309 60) → z_T (k s') (P_X12_laysLetters_309 r0)) : ∀ (F : Nat) (s : z_M) (a3 : Int), z_CI s → z_Fr R_X12_laysLetters_309 r0 s → (0 ≤ a3 ∧ a3 ≤ 200) → (y_B s) → (y_BK s) → (y_TH s a3 (s 309 60 - r0 309 60)) → (r0 309 60 ≤ s 309 60) → (a3 ≤ s 309 58) → (2147483647 - a3 < (F : Int)) → z_T (fX12_laysLetters_L2 fu 309 a1 a2 F s a3 k) (P_X12_laysLetters_309 r0) := by
  intro F
  induction F with
  | zero =>
    intro s a3 c f b3 i0 i1 i2 i3 i4 hm
    have u37 := CI_b c (k := 309) (j := 20) bd_309_20
    have u38 := CI_b c (k := 309) (j := 58) bd_309_58
    have u39 := CI_b c (k := 309) (j := 60) bd_309_60
    have u40 := CI_b c (k := 316) (j := 0) bd_316_0
    exfalso; omega
  | succ F ih =>
    intro s a3 c f b3 i0 i1 i2 i3 i4 hm
    refine T_of (fX12_laysLetters_L2.eq_2 ..) ?_
    have u1 := CI_b c (k := 309) (j := 20) bd_309_20
    have u2 := CI_b c (k := 309) (j := 58) bd_309_58
    have u3 := CI_b c (k := 309) (j := 60) bd_309_60
    have u4 := CI_b c (k := 316) (j := 0) bd_316_0
    have t5 : s 309 20 = r0 309 20 := f 309 20 (by decide)
    have t6 : s 309 58 = r0 309 58 := f 309 58 (by decide)
    have t7 : s 316 0 = r0 316 0 := f 316 0 (by decide)
    refine T_if1 (by decide +kernel) ?_
    refine T_leq (fun x8 e9 => ?_)
    have u10 := CI_b c (k := 309) (j := 58) bd_309_58
    have n11 := y_TH.end i2 i1 (by omega) (by omega)
    refine T_ite (fun h12 => ?_) (fun h12 => ?_)
    · exact hk s c f (by omega) (by omega)
    · have n13 := CI_b c (k := 3452 + a3) (j := 0) (bds_r3451_0 (by omega))
      have n14 := CI_b c (k := 3452 + a3) (j := 1) (bds_r3451_1 (by omega))
      refine T_if1 (by decide +kernel) ?_
      refine T_let 3441 (by decide +kernel) ?_
      refine T_if1 (by decide +kernel) ?_
      refine T_let 3451 (by decide +kernel) ?_
      refine T_if1 (z_ixl (n := 200) (by decide +kernel) (by omega) (by omega)) ?_
      refine T_let (3452 + a3) (gr_3451 a3) ?_
      refine T_if1 (z_ixs (sh_r3451 (by omega)) (by omega) (by omega) (by omega)) ?_
      refine T_leq (fun x15 e16 => ?_)
      have u17 := CI_b c (k := (3452 + a3)) (j := 0) (bds_r3451_0 (by omega))
      refine T_if1 (z_ixl (n := 200) (by decide +kernel) (by omega) (by omega)) ?_
      refine T_leq (fun x18 e19 => ?_)
      have u20 := CI_b c (k := 3441) (j := x15) (bdr_3441 x15)
      refine T_ite (fun h21 => ?_) (fun h21 => ?_)
      · refine sl_X12_laysLetters_309_L33 hfu r0 a1 a2 a3 (by omega) (by omega) (by omega) (by omega) (fun s22 c23 f24 g25 g26 g27 g28 g29 => ?_) fu s 0 c f (by omega) i0 i1 (by omega) (by omega) (by first | exact y_TH.cg i2 (by omega) (by omega) | exact y_TH.z (by omega) (by omega) | exact y_TH.nx i2 i1 (by omega) (by omega) (by omega) (by omega) (by omega)) (by first | exact y_LI.z (by omega)) (by omega)
        have u30 := CI_b c23 (k := 309) (j := 20) bd_309_20
        have u31 := CI_b c23 (k := 309) (j := 58) bd_309_58
        have u32 := CI_b c23 (k := 309) (j := 60) bd_309_60
        have u33 := CI_b c23 (k := 316) (j := 0) bd_316_0
        have t34 : s22 309 20 = r0 309 20 := f24 309 20 (by decide)
        have t35 : s22 309 58 = r0 309 58 := f24 309 58 (by decide)
        have t36 : s22 316 0 = r0 316 0 := f24 316 0 (by decide)
        exact sj_X12_laysLetters_309_J64 hfu r0 s22 c23 f24 a1 a2 a3 (by omega) (by omega) (by omega) g25 g26 (by first | exact y_TH.cg g29 (by omega) (by omega) | exact y_TH.z (by omega) (by omega) | exact y_TH.nx g29 g26 (by omega) (by omega) (by omega) (by omega) (by omega)) (by omega) (by omega) (2147483647 - a3) (by omega) (fun s' v3 c' f' w3 z0 z1 z2 z3 z4 pg => ih s' v3 c' f' w3 z0 z1 z2 z3 z4 (by omega)) hk
      · exact sj_X12_laysLetters_309_J64 hfu r0 s c f a1 a2 a3 (by omega) (by omega) (by omega) i0 i1 (by first | exact y_TH.cg i2 (by omega) (by omega) | exact y_TH.z (by omega) (by omega) | exact y_TH.nx i2 i1 (by omega) (by omega) (by omega) (by omega) (by omega)) (by omega) (by omega) (2147483647 - a3) (by omega) (fun s' v3 c' f' w3 z0 z1 z2 z3 z4 pg => ih s' v3 c' f' w3 z0 z1 z2 z3 z4 (by omega)) hk
theorem sf_X12_laysLetters_309 {fu : Nat} (hfu : 8589934592 ≤ fu) (r0 : z_M) (c0 : z_CI r0) (a1 : Int) (a2 : Int) (b1 : -2147483648 ≤ a1 ∧ a1 ≤ 2147483647) (b2 : 0 ≤ a2 ∧ a2 ≤ 1) (p0 : y_B r0) (p1 : y_BK r0) (p2 : r0 309 60 ≤ 2200) : z_T (fX12_laysLetters fu r0 309 a1 a2) (P_X12_laysLetters_309 r0) := by
  refine T_of (fX12_laysLetters.eq_1 ..) ?_
  have u1 := CI_b c0 (k := 309) (j := 20) bd_309_20
  have u2 := CI_b c0 (k := 309) (j := 58) bd_309_58
  have u3 := CI_b c0 (k := 309) (j := 60) bd_309_60
  have u4 := CI_b c0 (k := 316) (j := 0) bd_316_0
  refine sl_X12_laysLetters_309_L2 hfu r0 a1 a2 (by omega) (by omega) (by omega) (fun s5 c6 f7 g8 g9 => ?_) fu r0 0 c0 z_Fr.rf (by omega) p0 p1 (by first | exact y_TH.z (by omega) (by omega)) (by omega) (by omega) (by omega)
  have u10 := CI_b c6 (k := 309) (j := 20) bd_309_20
  have u11 := CI_b c6 (k := 309) (j := 58) bd_309_58
  have u12 := CI_b c6 (k := 309) (j := 60) bd_309_60
  have u13 := CI_b c6 (k := 316) (j := 0) bd_316_0
  have t14 : s5 309 20 = r0 309 20 := f7 309 20 (by decide)
  have t15 : s5 309 58 = r0 309 58 := f7 309 58 (by decide)
  have t16 : s5 316 0 = r0 316 0 := f7 316 0 (by decide)
  refine T_if1 (by decide +kernel) ?_
  refine T_leq (fun x17 e18 => ?_)
  have u19 := CI_b c6 (k := 309) (j := 60) bd_309_60
  exact T_ret ⟨c6, f7, (by omega), (by omega), ⟨x17, rfl, by omega, by omega, (by omega)⟩⟩
abbrev R_X12_laysSide_309 (a b : Int) : Prop := (3653 ≤ a ∧ a ≤ 7652) ∨ (a = 309 ∧ (b = 60))
abbrev P_X12_laysSide_309 (r0 : z_M) : z_V → z_M → Prop := fun v s' => z_CI s' ∧ z_Fr R_X12_laysSide_309 r0 s' ∧ (s' 309 60 ≤ r0 309 60 + 2000) ∧ (r0 309 60 ≤ s' 309 60) ∧ (∃ x, v = vI x ∧ 0 ≤ x ∧ x ≤ 4000 ∧ (x = s' 309 60))
theorem rs_X12_laysLetters_309__X12_laysSide_309 (a b : Int) (h : R_X12_laysLetters_309 a b) : R_X12_laysSide_309 a b := (h.elim (fun h => (Or.inl (⟨by omega, by omega⟩))) (fun h => (Or.inr (⟨h.1, by omega⟩))))
theorem nr_X12_laysLetters_309__3220 (b : Int) : ¬ R_X12_laysLetters_309 3220 b := by
  unfold R_X12_laysLetters_309; omega
theorem nr_X12_laysLetters_309__3221 (b : Int) : ¬ R_X12_laysLetters_309 3221 b := by
  unfold R_X12_laysLetters_309; omega
theorem nr_X12_laysLetters_309__3222 (b : Int) : ¬ R_X12_laysLetters_309 3222 b := by
  unfold R_X12_laysLetters_309; omega
theorem nr_X12_laysLetters_309__361 (b : Int) : ¬ R_X12_laysLetters_309 361 b := by
  unfold R_X12_laysLetters_309; omega
theorem nq_X12_laysLetters_309__3452 (a b : Int) (h : 3452 ≤ a ∧ a ≤ 3651) : ¬ R_X12_laysLetters_309 a b := by
  unfold R_X12_laysLetters_309; omega
theorem nr_X12_laysLetters_309__3438 (b : Int) : ¬ R_X12_laysLetters_309 3438 b := by
  unfold R_X12_laysLetters_309; omega
theorem nq_X12_laysLetters_309__316 (a b : Int) (h : 316 ≤ a ∧ a ≤ 328) : ¬ R_X12_laysLetters_309 a b := by
  unfold R_X12_laysLetters_309; omega
theorem nq_X12_laysLetters_309__346 (a b : Int) (h : 346 ≤ a ∧ a ≤ 358) : ¬ R_X12_laysLetters_309 a b := by
  unfold R_X12_laysLetters_309; omega
theorem nq_X12_laysLetters_309__361 (a b : Int) (h : 361 ≤ a ∧ a ≤ 373) : ¬ R_X12_laysLetters_309 a b := by
  unfold R_X12_laysLetters_309; omega
theorem sj_X12_laysSide_309_J80 {fu : Nat} (hfu : 8589934592 ≤ fu) (r0 s : z_M) (c : z_CI s) (f : z_Fr R_X12_laysSide_309 r0 s) (a1 : Int) (a2 : Int) (a3 : Int) (a4 : Int) (b1 : 0 ≤ a1 ∧ a1 ≤ 199) (b2 : 0 ≤ a2 ∧ a2 ≤ 1) (b3 : 0 ≤ a3 ∧ a3 ≤ 199) (b4 : 0 ≤ a4 ∧ a4 ≤ 199) (p0 : y_B s) (p1 : y_L s (s 309 44)) (p2 : y_TA s) (p3 : a1 < s 309 44) (p4 : r0 309 60 ≤ s 309 60) (p5 : a3 < s 309 20) (p6 : s 309 60 - r0 309 60 - 1800 ≤ a4 + 1) (p7 : y_FI s a3 (a4 + 1)) (p8 : r0 309 60 ≤ 2000) (M : Int) (pm : 2147483647 - a4 ≤ M) {r : z_M → Int → z_O} {k : z_M → z_O} (hr : ∀ (s' : z_M) (v4 : Int), z_CI s' → z_Fr R_X12_laysSide_309 r0 s' → (0 ≤ v4 ∧ v4 ≤ 200) → (y_B s') → (y_L s' (s' 309 44)) → (y_TA s') → (a1 < s' 309 44) → (r0 309 60 ≤ s' 309 60) → (a3 < s' 309 20) → (s' 309 60 - r0 309 60 - 1800 ≤ v4) → (y_FI s' a3 v4) → (2147483647 - v4 < M) → z_T (r s' v4) (P_X12_laysSide_309 r0)) (hk : ∀ (s' : z_M), z_CI s' → z_Fr R_X12_laysSide_309 r0 s' → (y_B s') → (y_L s' (s' 309 44)) → (y_TA s') → (a1 < s' 309 44) → (r0 309 60 ≤ s' 309 60) → (y_TS s' (a3 + 1) (s' 309 60 - r0 309 60 - 1800)) → z_T (k s') (P_X12_laysSide_309 r0)) : z_T (fX12_laysSide_J80 fu s 309 a1 a2 a3 a4 r k) (P_X12_laysSide_309 r0) := by
  refine T_of (fX12_laysSide_J80.eq_1 ..) ?_
  have u1 := CI_b c (k := 309) (j := 20) bd_309_20
  have u2 := CI_b c (k := 309) (j := 44) bd_309_44
  have u3 := CI_b c (k := 309) (j := 58) bd_309_58
  have u4 := CI_b c (k := 309) (j := 60) bd_309_60
  have u5 := CI_b c (k := 316) (j := 0) bd_316_0
  have t6 : s 309 20 = r0 309 20 := f 309 20 (by decide)
  have t7 : s 309 44 = r0 309 44 := f 309 44 (by decide)
  have t8 : s 309 58 = r0 309 58 := f 309 58 (by decide)
  have t9 : s 316 0 = r0 316 0 := f 316 0 (by decide)
  refine T_leq (fun x10 e11 => ?_)
  first | (have w12 := z_wx e11 (by omega)) | (have w12 := z_wr e11)
  exact hr s x10 c f (by omega) p0 (by first | exact y_L.cg p1 (by omega)) p2 (by omega) (by omega) (by omega) (by omega) (by first | exact y_FI.cg p7 (by omega) (by omega) | exact y_FI.z (by assumption) (by omega)) (by omega)
theorem rs_X12_addsThing_309__X12_laysSide_309 (a b : Int) (h : R_X12_addsThing_309 a b) : R_X12_laysSide_309 a b := (h.elim (fun h => (Or.inl (⟨by omega, by omega⟩))) (fun h => (Or.inr (⟨h.1, by omega⟩))))
theorem nr_X12_addsThing_309__3438 (b : Int) : ¬ R_X12_addsThing_309 3438 b := by
  unfold R_X12_addsThing_309; omega
theorem nq_X12_addsThing_309__316 (a b : Int) (h : 316 ≤ a ∧ a ≤ 328) : ¬ R_X12_addsThing_309 a b := by
  unfold R_X12_addsThing_309; omega
theorem nq_X12_addsThing_309__346 (a b : Int) (h : 346 ≤ a ∧ a ≤ 358) : ¬ R_X12_addsThing_309 a b := by
  unfold R_X12_addsThing_309; omega
theorem nq_X12_addsThing_309__361 (a b : Int) (h : 361 ≤ a ∧ a ≤ 373) : ¬ R_X12_addsThing_309 a b := by
  unfold R_X12_addsThing_309; omega
theorem sl_X12_laysSide_309_L34 {fu : Nat} (hfu : 8589934592 ≤ fu) (r0 : z_M) (a1 : Int) (a2 : Int) (a3 : Int) (b1 : 0 ≤ a1 ∧ a1 ≤ 199) (b2 : 0 ≤ a2 ∧ a2 ≤ 1) (b3 : 0 ≤ a3 ∧ a3 ≤ 199) (q0 : r0 309 60 ≤ 2000) {k : z_M → z_O} (hk : ∀ (s' : z_M), z_CI s' → z_Fr R_X12_laysSide_309 r0 s' → (y_B s') → (y_L s' (s' 309 44)) → (y_TA s') → (a1 < s' 309 44) → (r0 309 60 ≤ s' 309 60) → (y_TS s' (a3 + 1) (s' 309 60 - r0 309 60 - 1800)) → z_T (k s') (P_X12_laysSide_309 r0)) : ∀ (F : Nat) (s : z_M) (a4 : Int), z_CI s → z_Fr R_X12_laysSide_309 r0 s → (0 ≤ a4 ∧ a4 ≤ 200) → (y_B s) → (y_L s (s 309 44)) → (y_TA s) → (a1 < s 309 44) → (r0 309 60 ≤ s 309 60) → (a3 < s 309 20) → (s 309 60 - r0 309 60 - 1800 ≤ a4) → (y_FI s a3 a4) → (2147483647 - a4 < (F : Int)) → z_T (fX12_laysSide_L34 fu 309 a1 a2 a3 F s a4 k) (P_X12_laysSide_309 r0) := by
  intro F
  induction F with
  | zero =>
    intro s a4 c f b4 i0 i1 i2 i3 i4 i5 i6 i7 hm
    have u64 := CI_b c (k := 309) (j := 20) bd_309_20
    have u65 := CI_b c (k := 309) (j := 44) bd_309_44
    have u66 := CI_b c (k := 309) (j := 58) bd_309_58
    have u67 := CI_b c (k := 309) (j := 60) bd_309_60
    have u68 := CI_b c (k := 316) (j := 0) bd_316_0
    exfalso; omega
  | succ F ih =>
    intro s a4 c f b4 i0 i1 i2 i3 i4 i5 i6 i7 hm
    refine T_of (fX12_laysSide_L34.eq_2 ..) ?_
    have u1 := CI_b c (k := 309) (j := 20) bd_309_20
    have u2 := CI_b c (k := 309) (j := 44) bd_309_44
    have u3 := CI_b c (k := 309) (j := 58) bd_309_58
    have u4 := CI_b c (k := 309) (j := 60) bd_309_60
    have u5 := CI_b c (k := 316) (j := 0) bd_316_0
    have t6 : s 309 20 = r0 309 20 := f 309 20 (by decide)
    have t7 : s 309 44 = r0 309 44 := f 309 44 (by decide)
    have t8 : s 309 58 = r0 309 58 := f 309 58 (by decide)
    have t9 : s 316 0 = r0 316 0 := f 316 0 (by decide)
    have n10 := y_B.at i0 (u := a3) (by omega) (by omega)
    refine T_if1 (by decide +kernel) ?_
    refine T_let 3221 (by decide +kernel) ?_
    refine T_if1 (z_ixl (n := 200) (by decide +kernel) (by omega) (by omega)) ?_
    refine T_leq (fun x11 e12 => ?_)
    have u13 := CI_b c (k := 3221) (j := a3) (bdr_3221 a3)
    refine T_if1 (by decide +kernel) ?_
    refine T_let 3222 (by decide +kernel) ?_
    refine T_if1 (z_ixl (n := 200) (by decide +kernel) (by omega) (by omega)) ?_
    refine T_leq (fun x14 e15 => ?_)
    have u16 := CI_b c (k := 3222) (j := a3) (bdr_3222 a3)
    refine T_leq (fun x17 e18 => ?_)
    first | (have w19 := z_wx e18 (by omega)) | (have w19 := z_wr e18)
    have n20 := y_FI.to i7
    refine T_ite (fun h21 => ?_) (fun h21 => ?_)
    · exact hk s c f i0 (by first | exact y_L.cg i1 (by omega)) i2 (by omega) (by omega) (by first | exact y_TS.z (by omega) (by omega) (by omega) | exact y_TS.nx i0 (by omega) (by omega) (by omega) rfl)
    · have r22 : y_FI s a3 (a4 + 1) := y_FI.mk (by assumption) (by assumption) (by omega)
      refine T_if1 (by decide +kernel) ?_
      refine T_useI (sf_X12_marksOf_309 hfu s c a4 (by omega) i2 (by omega)) (fun v28 s23 hq => ?_)
      obtain ⟨c24, f25, ⟨x27, rfl, b29, b30⟩⟩ := hq
      refine T_vI ?_
      have q31 := z_Fr.eq (fun a b h => h) f25
      subst q31
      refine T_leq (fun x32 e33 => ?_)
      have w34 : -2147483648 ≤ x32 ∧ x32 ≤ 2147483647 := by rw [← e33]; exact z_i32b _
      refine T_leq (fun x35 e36 => ?_)
      have w37 : -2147483648 ≤ x35 ∧ x35 ≤ 2147483647 := by rw [← e36]; exact z_i32b _
      refine T_ite (fun h38 => ?_) (fun h38 => ?_)
      · exact sj_X12_laysSide_309_J80 hfu r0 s c f a1 a2 a3 a4 (by omega) (by omega) (by omega) (by omega) i0 (by first | exact y_L.cg i1 (by omega)) i2 (by omega) (by omega) (by omega) (by omega) (by first | exact y_FI.cg r22 (by omega) (by omega) | exact y_FI.cg i7 (by omega) (by omega) | exact y_FI.z (by assumption) (by omega)) (by omega) (2147483647 - a4) (by omega) (fun s' v4 c' f' w4 z0 z1 z2 z3 z4 z5 z6 z7 pg => ih s' v4 c' f' w4 z0 z1 z2 z3 z4 z5 z6 z7 (by omega)) hk
      · refine T_if1 (by decide +kernel) ?_
        refine T_let 3443 (by decide +kernel) ?_
        refine T_if1 (z_ixl (n := 200) (by decide +kernel) (by omega) (by omega)) ?_
        refine T_leq (fun x39 e40 => ?_)
        have u41 := CI_b c (k := 3443) (j := a4) (bdr_3443 a4)
        refine T_leq (fun x42 e43 => ?_)
        first | (have w44 := z_wx e43 (by omega)) | (have w44 := z_wr e43)
        refine T_if1 (by decide +kernel) ?_
        refine T_useN (sf_X12_addsThing_309 hfu s c x42 4 (by omega) (by omega) (by omega)) (fun v50 s45 hq => ?_)
        obtain ⟨c46, f47, o51, rfl⟩ := hq
        refine T_vN ?_
        have f48 := z_Fr.tr (R := R_X12_laysSide_309) f f47 rs_X12_addsThing_309__X12_laysSide_309
        have t54 : s45 309 20 = s 309 20 := f47 309 20 (by decide)
        have t55 : s45 309 44 = s 309 44 := f47 309 44 (by decide)
        have t56 : s45 309 58 = s 309 58 := f47 309 58 (by decide)
        have t57 : s45 316 0 = s 316 0 := f47 316 0 (by decide)
        have u58 := CI_b c46 (k := 309) (j := 60) bd_309_60
        have r59 := y_B.fr i0 (f47 309 20 (by decide)) (f47 316 0 (by decide)) (fun b => f47 3220 b (nr_X12_addsThing_309__3220 b)) (fun b => f47 3221 b (nr_X12_addsThing_309__3221 b)) (fun b => f47 3222 b (nr_X12_addsThing_309__3222 b)) (fun b => f47 361 b (nr_X12_addsThing_309__361 b))
        have r60 := y_L.fr i1 (f47 309 20 (by decide)) (fun b => f47 3438 b (nr_X12_addsThing_309__3438 b))
        have r61 := y_TA.fr i2 (fun a b h => f47 a b (nq_X12_addsThing_309__316 a b h)) (fun a b h => f47 a b (nq_X12_addsThing_309__346 a b h)) (fun a b h => f47 a b (nq_X12_addsThing_309__361 a b h))
        have r62 := y_FI.fr i7 (fun b => f47 3221 b (nr_X12_addsThing_309__3221 b)) (fun b => f47 3222 b (nr_X12_addsThing_309__3222 b))
        have r63 := y_FI.fr r22 (fun b => f47 3221 b (nr_X12_addsThing_309__3221 b)) (fun b => f47 3222 b (nr_X12_addsThing_309__3222 b))
        exact sj_X12_laysSide_309_J80 hfu r0 s45 c46 f48 a1 a2 a3 a4 (by omega) (by omega) (by omega) (by omega) r59 (by first | exact y_L.cg r60 (by omega)) r61 (by omega) (by omega) (by omega) (by omega) (by first | exact y_FI.cg r63 (by omega) (by omega) | exact y_FI.cg r62 (by omega) (by omega) | exact y_FI.z (by assumption) (by omega)) (by omega) (2147483647 - a4) (by omega) (fun s' v4 c' f' w4 z0 z1 z2 z3 z4 z5 z6 z7 pg => ih s' v4 c' f' w4 z0 z1 z2 z3 z4 z5 z6 z7 (by omega)) hk
theorem sl_X12_laysSide_309_L14 {fu : Nat} (hfu : 8589934592 ≤ fu) (r0 : z_M) (a1 : Int) (a2 : Int) (b1 : 0 ≤ a1 ∧ a1 ≤ 199) (b2 : 0 ≤ a2 ∧ a2 ≤ 1) (q0 : r0 309 60 ≤ 2000) {k : z_M → z_O} (hk : ∀ (s' : z_M), z_CI s' → z_Fr R_X12_laysSide_309 r0 s' → (s' 309 60 ≤ r0 309 60 + 2000) → (r0 309 60 ≤ s' 309 60) → z_T (k s') (P_X12_laysSide_309 r0)) : ∀ (F : Nat) (s : z_M) (a3 : Int), z_CI s → z_Fr R_X12_laysSide_309 r0 s → (0 ≤ a3 ∧ a3 ≤ 200) → (y_B s) → (y_L s (s 309 44)) → (y_TA s) → (a1 < s 309 44) → (r0 309 60 ≤ s 309 60) → (y_TS s a3 (s 309 60 - r0 309 60 - 1800)) → (2147483647 - a3 < (F : Int)) → z_T (fX12_laysSide_L14 fu 309 a1 a2 F s a3 k) (P_X12_laysSide_309 r0) := by
  intro F
  induction F with
  | zero =>
    intro s a3 c f b3 i0 i1 i2 i3 i4 i5 hm
    have u45 := CI_b c (k := 309) (j := 20) bd_309_20
    have u46 := CI_b c (k := 309) (j := 44) bd_309_44
    have u47 := CI_b c (k := 309) (j := 58) bd_309_58
    have u48 := CI_b c (k := 309) (j := 60) bd_309_60
    have u49 := CI_b c (k := 316) (j := 0) bd_316_0
    exfalso; omega
  | succ F ih =>
    intro s a3 c f b3 i0 i1 i2 i3 i4 i5 hm
    refine T_of (fX12_laysSide_L14.eq_2 ..) ?_
    have u1 := CI_b c (k := 309) (j := 20) bd_309_20
    have u2 := CI_b c (k := 309) (j := 44) bd_309_44
    have u3 := CI_b c (k := 309) (j := 58) bd_309_58
    have u4 := CI_b c (k := 309) (j := 60) bd_309_60
    have u5 := CI_b c (k := 316) (j := 0) bd_316_0
    have t6 : s 309 20 = r0 309 20 := f 309 20 (by decide)
    have t7 : s 309 44 = r0 309 44 := f 309 44 (by decide)
    have t8 : s 309 58 = r0 309 58 := f 309 58 (by decide)
    have t9 : s 316 0 = r0 316 0 := f 316 0 (by decide)
    refine T_if1 (by decide +kernel) ?_
    refine T_let 3438 (by decide +kernel) ?_
    refine T_leq (fun x10 e11 => ?_)
    first | (have w12 := z_wx e11 (by omega)) | (have w12 := z_wr e11)
    have n13 := y_L.at i1 (i := a1) (j := x10) (by omega) (by omega) (by omega)
    refine T_if1 (z_ixl (n := 201) (by decide +kernel) (by omega) (by omega)) ?_
    refine T_leq (fun x14 e15 => ?_)
    have u16 := CI_b c (k := 3438) (j := x10) (bdr_3438 x10)
    have n17 := (i5).2
    refine T_ite (fun h18 => ?_) (fun h18 => ?_)
    · exact hk s c f (by omega) (by omega)
    · refine T_if1 (by decide +kernel) ?_
      refine T_let 3221 (by decide +kernel) ?_
      refine T_if1 (z_ixl (n := 200) (by decide +kernel) (by omega) (by omega)) ?_
      refine T_leq (fun x19 e20 => ?_)
      have u21 := CI_b c (k := 3221) (j := a3) (bdr_3221 a3)
      have n22 := (i5).1 (by omega)
      have n23 := CI_b c (k := 3222) (j := a3) (bdr_3222 a3)
      refine sl_X12_laysSide_309_L34 hfu r0 a1 a2 a3 (by omega) (by omega) (by omega) (by omega) (fun s24 c25 f26 g27 g28 g29 g30 g31 g32 => ?_) fu s x19 c f (by omega) i0 (by first | exact y_L.cg i1 (by omega)) i2 (by omega) (by omega) (by omega) (by omega) (by first | exact y_FI.z (by assumption) (by omega)) (by omega)
      have u33 := CI_b c25 (k := 309) (j := 20) bd_309_20
      have u34 := CI_b c25 (k := 309) (j := 44) bd_309_44
      have u35 := CI_b c25 (k := 309) (j := 58) bd_309_58
      have u36 := CI_b c25 (k := 309) (j := 60) bd_309_60
      have u37 := CI_b c25 (k := 316) (j := 0) bd_316_0
      have t38 : s24 309 20 = r0 309 20 := f26 309 20 (by decide)
      have t39 : s24 309 44 = r0 309 44 := f26 309 44 (by decide)
      have t40 : s24 309 58 = r0 309 58 := f26 309 58 (by decide)
      have t41 : s24 316 0 = r0 316 0 := f26 316 0 (by decide)
      refine T_leq (fun x42 e43 => ?_)
      first | (have w44 := z_wx e43 (by omega)) | (have w44 := z_wr e43)
      exact ih s24 x42 c25 f26 (by omega) g27 (by first | exact y_L.cg g28 (by omega)) g29 (by omega) (by omega) (by first | exact y_TS.cg g32 (by omega) (by omega) | exact y_TS.z (by omega) (by omega) (by omega) | exact y_TS.nx g27 (by omega) (by omega) (by omega) rfl) (by omega)
theorem sf_X12_laysSide_309 {fu : Nat} (hfu : 8589934592 ≤ fu) (r0 : z_M) (c0 : z_CI r0) (a1 : Int) (a2 : Int) (b1 : 0 ≤ a1 ∧ a1 ≤ 199) (b2 : 0 ≤ a2 ∧ a2 ≤ 1) (p0 : y_B r0) (p1 : y_BK r0) (p2 : y_L r0 (r0 309 44)) (p3 : y_TA r0) (p4 : a1 < r0 309 44) (p5 : r0 309 60 ≤ 2000) : z_T (fX12_laysSide fu r0 309 a1 a2) (P_X12_laysSide_309 r0) := by
  refine T_of (fX12_laysSide.eq_1 ..) ?_
  have u1 := CI_b c0 (k := 309) (j := 20) bd_309_20
  have u2 := CI_b c0 (k := 309) (j := 44) bd_309_44
  have u3 := CI_b c0 (k := 309) (j := 58) bd_309_58
  have u4 := CI_b c0 (k := 309) (j := 60) bd_309_60
  have u5 := CI_b c0 (k := 316) (j := 0) bd_316_0
  refine T_if1 (by decide +kernel) ?_
  refine T_useI (sf_X12_laysLetters_309 hfu r0 c0 a1 a2 (by omega) (by omega) p0 p1 (by omega)) (fun v11 s6 hq => ?_)
  obtain ⟨c7, f8, o12, o13, ⟨x10, rfl, b14, b15, o16⟩⟩ := hq
  refine T_vI ?_
  have f9 := z_Fr.tr (R := R_X12_laysSide_309) z_Fr.rf f8 rs_X12_laysLetters_309__X12_laysSide_309
  have t17 : s6 309 20 = r0 309 20 := f8 309 20 (by decide)
  have t18 : s6 309 44 = r0 309 44 := f8 309 44 (by decide)
  have t19 : s6 309 58 = r0 309 58 := f8 309 58 (by decide)
  have t20 : s6 316 0 = r0 316 0 := f8 316 0 (by decide)
  have u21 := CI_b c7 (k := 309) (j := 60) bd_309_60
  have r22 := y_B.fr p0 (f8 309 20 (by decide)) (f8 316 0 (by decide)) (fun b => f8 3220 b (nr_X12_laysLetters_309__3220 b)) (fun b => f8 3221 b (nr_X12_laysLetters_309__3221 b)) (fun b => f8 3222 b (nr_X12_laysLetters_309__3222 b)) (fun b => f8 361 b (nr_X12_laysLetters_309__361 b))
  have r23 := y_BK.fr p1 (by omega) (f8 309 20 (by decide)) (f8 309 58 (by decide)) (fun b => f8 3220 b (nr_X12_laysLetters_309__3220 b)) (fun a b h => f8 a b (nq_X12_laysLetters_309__3452 a b h))
  have r24 := y_L.fr p2 (f8 309 20 (by decide)) (fun b => f8 3438 b (nr_X12_laysLetters_309__3438 b))
  have r25 := y_TA.fr p3 (fun a b h => f8 a b (nq_X12_laysLetters_309__316 a b h)) (fun a b h => f8 a b (nq_X12_laysLetters_309__346 a b h)) (fun a b h => f8 a b (nq_X12_laysLetters_309__361 a b h))
  refine T_if1 (by decide +kernel) ?_
  refine T_let 3438 (by decide +kernel) ?_
  refine T_if1 (z_ixl (n := 201) (by decide +kernel) (by omega) (by omega)) ?_
  refine T_leq (fun x26 e27 => ?_)
  have u28 := CI_b c7 (k := 3438) (j := a1) (bdr_3438 a1)
  have n29 := CI_b c7 (k := 3221) (j := x26) (bdr_3221 x26)
  refine sl_X12_laysSide_309_L14 hfu r0 a1 a2 (by omega) (by omega) (by omega) (fun s30 c31 f32 g33 g34 => ?_) fu s6 x26 c7 f9 (by omega) r22 (by first | exact y_L.cg r24 (by omega)) r25 (by omega) (by omega) (by first | exact y_TS.z (by omega) (by omega) (by omega) | exact y_TS.nx r22 (by omega) (by omega) (by omega) rfl) (by omega)
  have u35 := CI_b c31 (k := 309) (j := 20) bd_309_20
  have u36 := CI_b c31 (k := 309) (j := 44) bd_309_44
  have u37 := CI_b c31 (k := 309) (j := 58) bd_309_58
  have u38 := CI_b c31 (k := 309) (j := 60) bd_309_60
  have u39 := CI_b c31 (k := 316) (j := 0) bd_316_0
  have t40 : s30 309 20 = r0 309 20 := f32 309 20 (by decide)
  have t41 : s30 309 44 = r0 309 44 := f32 309 44 (by decide)
  have t42 : s30 309 58 = r0 309 58 := f32 309 58 (by decide)
  have t43 : s30 316 0 = r0 316 0 := f32 316 0 (by decide)
  refine T_if1 (by decide +kernel) ?_
  refine T_leq (fun x44 e45 => ?_)
  have u46 := CI_b c31 (k := 309) (j := 60) bd_309_60
  exact T_ret ⟨c31, f32, (by omega), (by omega), ⟨x44, rfl, by omega, by omega, (by omega)⟩⟩
abbrev R_X12_isLine_309 (a b : Int) : Prop := (3224 ≤ a ∧ a ≤ 3651) ∨ (a = 309 ∧ (b = 35 ∨ b = 36 ∨ b = 38 ∨ b = 39 ∨ b = 43 ∨ b = 44 ∨ b = 58))
abbrev P_X12_isLine_309 (r0 : z_M) (a1 : Int) : z_V → z_M → Prop := fun v s' => z_CI s' ∧ z_Fr R_X12_isLine_309 r0 s' ∧ (y_K s') ∧ (y_L s' (s' 309 44)) ∧ (y_BK s') ∧ (s' 309 36 ≠ 0) ∧ (s' 309 43 ≠ 0) ∧ (r0 309 36 = 0 ∨ r0 309 43 = 0 ∨ s' 309 44 = r0 309 44) ∧ (∃ x, v = vI x ∧ 0 ≤ x ∧ x ≤ 1 ∧ ((x = 1 ∧ 0 ≤ a1 ∧ a1 < s' 309 44) ∨ x = 0))
theorem rs_X12_laysAll_309__X12_isLine_309 (a b : Int) (h : R_X12_laysAll_309 a b) : R_X12_isLine_309 a b := (h.elim (fun h => (Or.inl (⟨by omega, by omega⟩))) (fun h => (Or.inr (⟨h.1, by omega⟩))))
theorem sf_X12_isLine_309 {fu : Nat} (hfu : 8589934592 ≤ fu) (r0 : z_M) (c0 : z_CI r0) (a1 : Int) (b1 : -2147483648 ≤ a1 ∧ a1 ≤ 2147483647) (p0 : y_B r0) (p1 : y_K r0) : z_T (fX12_isLine fu r0 309 a1) (P_X12_isLine_309 r0 a1) := by
  refine T_of (fX12_isLine.eq_1 ..) ?_
  have u1 := CI_b c0 (k := 309) (j := 20) bd_309_20
  have u2 := CI_b c0 (k := 309) (j := 36) bd_309_36
  have u3 := CI_b c0 (k := 309) (j := 43) bd_309_43
  have u4 := CI_b c0 (k := 309) (j := 44) bd_309_44
  have u5 := CI_b c0 (k := 309) (j := 58) bd_309_58
  have u6 := CI_b c0 (k := 316) (j := 0) bd_316_0
  refine T_if1 (by decide +kernel) ?_
  refine T_useN (sf_X12_laysAll_309 hfu r0 c0 p0 (by first | exact p1 | exact y_K.b0 (by omega) | exact y_K.k0 (by omega) | exact y_K.bk (by omega))) (fun v12 s7 hq => ?_)
  obtain ⟨c8, f9, o13, o14, o15, o16, o17, o18, rfl⟩ := hq
  refine T_vN ?_
  have f10 := z_Fr.tr (R := R_X12_isLine_309) z_Fr.rf f9 rs_X12_laysAll_309__X12_isLine_309
  have t21 : s7 309 20 = r0 309 20 := f9 309 20 (by decide)
  have t22 : s7 316 0 = r0 316 0 := f9 316 0 (by decide)
  have u23 := CI_b c8 (k := 309) (j := 36) bd_309_36
  have u24 := CI_b c8 (k := 309) (j := 43) bd_309_43
  have u25 := CI_b c8 (k := 309) (j := 44) bd_309_44
  have u26 := CI_b c8 (k := 309) (j := 58) bd_309_58
  have r27 := y_B.fr p0 (f9 309 20 (by decide)) (f9 316 0 (by decide)) (fun b => f9 3220 b (nr_X12_laysAll_309__3220 b)) (fun b => f9 3221 b (nr_X12_laysAll_309__3221 b)) (fun b => f9 3222 b (nr_X12_laysAll_309__3222 b)) (fun b => f9 361 b (nr_X12_laysAll_309__361 b))
  refine T_if1 (by decide +kernel) ?_
  refine T_leq (fun x28 e29 => ?_)
  have u30 := CI_b c8 (k := 309) (j := 44) bd_309_44
  refine T_leq (fun x31 e32 => ?_)
  first | (have w33 := z_wx e32 (by omega)) | (have w33 := z_wr e32)
  refine T_useI (sf_X12_in hfu s7 c8 a1 0 x31 (by omega) (by omega) (by omega)) (fun v39 s34 hq => ?_)
  obtain ⟨c35, f36, ⟨x38, rfl, b40, b41, o42⟩⟩ := hq
  refine T_vI ?_
  have q43 := z_Fr.eq (fun a b h => h) f36
  subst q43
  refine T_if1 (by unfold z_bl; omega) ?_
  exact T_ret ⟨c8, f10, (by first | exact o13 | exact y_K.b0 (by omega) | exact y_K.k0 (by omega) | exact y_K.bk (by omega) | exact y_K.mk o14 (by omega) o15), (by first | exact y_L.cg o14 (by omega) | exact y_K.L o13 (by omega) (by omega)), (by first | exact o15 | exact y_K.B o13 (by omega) (by omega)), (by omega), (by omega), (by omega), ⟨x38, rfl, by omega, by omega, (by omega)⟩⟩
abbrev R_X12_sideOf_309 (a b : Int) : Prop := (3653 ≤ a ∧ a ≤ 7652) ∨ (a = 309 ∧ (b = 60))
abbrev P_X12_sideOf_309 (r0 : z_M) : z_V → z_M → Prop := fun v s' => z_CI s' ∧ z_Fr R_X12_sideOf_309 r0 s' ∧ (∃ x, v = vI x ∧ 0 ≤ x ∧ x ≤ 2000 ∧ (x = s' 309 60))
theorem rs_X12_laysSide_309__X12_sideOf_309 (a b : Int) (h : R_X12_laysSide_309 a b) : R_X12_sideOf_309 a b := (h.elim (fun h => (Or.inl (⟨by omega, by omega⟩))) (fun h => (Or.inr (⟨h.1, by omega⟩))))
theorem nr_X12_laysSide_309__3220 (b : Int) : ¬ R_X12_laysSide_309 3220 b := by
  unfold R_X12_laysSide_309; omega
theorem nr_X12_laysSide_309__3221 (b : Int) : ¬ R_X12_laysSide_309 3221 b := by
  unfold R_X12_laysSide_309; omega
theorem nr_X12_laysSide_309__3222 (b : Int) : ¬ R_X12_laysSide_309 3222 b := by
  unfold R_X12_laysSide_309; omega
theorem nr_X12_laysSide_309__361 (b : Int) : ¬ R_X12_laysSide_309 361 b := by
  unfold R_X12_laysSide_309; omega
theorem nq_X12_laysSide_309__3452 (a b : Int) (h : 3452 ≤ a ∧ a ≤ 3651) : ¬ R_X12_laysSide_309 a b := by
  unfold R_X12_laysSide_309; omega
theorem nr_X12_laysSide_309__3438 (b : Int) : ¬ R_X12_laysSide_309 3438 b := by
  unfold R_X12_laysSide_309; omega
theorem nq_X12_laysSide_309__316 (a b : Int) (h : 316 ≤ a ∧ a ≤ 328) : ¬ R_X12_laysSide_309 a b := by
  unfold R_X12_laysSide_309; omega
theorem nq_X12_laysSide_309__346 (a b : Int) (h : 346 ≤ a ∧ a ≤ 358) : ¬ R_X12_laysSide_309 a b := by
  unfold R_X12_laysSide_309; omega
theorem nq_X12_laysSide_309__361 (a b : Int) (h : 361 ≤ a ∧ a ≤ 373) : ¬ R_X12_laysSide_309 a b := by
  unfold R_X12_laysSide_309; omega
theorem sf_X12_sideOf_309 {fu : Nat} (hfu : 8589934592 ≤ fu) (r0 : z_M) (c0 : z_CI r0) (a1 : Int) (a2 : Int) (b1 : 0 ≤ a1 ∧ a1 ≤ 199) (b2 : 0 ≤ a2 ∧ a2 ≤ 1) (p0 : y_B r0) (p1 : y_BK r0) (p2 : y_L r0 (r0 309 44)) (p3 : y_TA r0) (p4 : a1 < r0 309 44) : z_T (fX12_sideOf fu r0 309 a1 a2) (P_X12_sideOf_309 r0) := by
  refine T_of (fX12_sideOf.eq_1 ..) ?_
  have u1 := CI_b c0 (k := 309) (j := 20) bd_309_20
  have u2 := CI_b c0 (k := 309) (j := 44) bd_309_44
  have u3 := CI_b c0 (k := 309) (j := 58) bd_309_58
  have u4 := CI_b c0 (k := 309) (j := 60) bd_309_60
  have u5 := CI_b c0 (k := 316) (j := 0) bd_316_0
  refine T_if1 (by decide +kernel) ?_
  refine T_upg c0 bd_309_60 (by omega) (fun s6 c7 g9 g10 e11 => ?_)
  have f8 := z_Fr.upf (R := R_X12_sideOf_309) z_Fr.rf g9 g10 (Or.inr (⟨rfl, by decide⟩))
  have t12 : s6 309 20 = r0 309 20 := g10 20 (by decide)
  have t13 : s6 309 44 = r0 309 44 := g10 44 (by decide)
  have t14 : s6 309 58 = r0 309 58 := g10 58 (by decide)
  have t15 : s6 316 0 = r0 316 0 := g9 316 0 (by decide)
  have u16 := CI_b c7 (k := 309) (j := 60) bd_309_60
  have r17 := y_B.fr p0 (g10 20 (by decide)) (g9 316 0 (by decide)) (fun b => g9 3220 b (by decide)) (fun b => g9 3221 b (by decide)) (fun b => g9 3222 b (by decide)) (fun b => g9 361 b (by decide))
  have r18 := y_BK.fr p1 (by omega) (g10 20 (by decide)) (g10 58 (by decide)) (fun b => g9 3220 b (by decide)) (fun a b h => g9 a b (by omega))
  have r19 := y_L.fr p2 (g10 20 (by decide)) (fun b => g9 3438 b (by decide))
  have r20 := y_TA.fr p3 (fun a b h => g9 a b (by omega)) (fun a b h => g9 a b (by omega)) (fun a b h => g9 a b (by omega))
  refine T_if1 (by decide +kernel) ?_
  refine T_useI (sf_X12_laysSide_309 hfu s6 c7 a1 a2 (by omega) (by omega) r17 r18 (by first | exact y_L.cg r19 (by omega)) r20 (by omega) (by omega)) (fun v26 s21 hq => ?_)
  obtain ⟨c22, f23, o27, o28, ⟨x25, rfl, b29, b30, o31⟩⟩ := hq
  refine T_vI ?_
  have f24 := z_Fr.tr (R := R_X12_sideOf_309) f8 f23 rs_X12_laysSide_309__X12_sideOf_309
  have t32 : s21 309 20 = r0 309 20 := (f23 309 20 (by decide)).trans t12
  have t33 : s21 309 44 = r0 309 44 := (f23 309 44 (by decide)).trans t13
  have t34 : s21 309 58 = r0 309 58 := (f23 309 58 (by decide)).trans t14
  have t35 : s21 316 0 = r0 316 0 := (f23 316 0 (by decide)).trans t15
  have u36 := CI_b c22 (k := 309) (j := 60) bd_309_60
  have r37 := y_B.fr r17 (f23 309 20 (by decide)) (f23 316 0 (by decide)) (fun b => f23 3220 b (nr_X12_laysSide_309__3220 b)) (fun b => f23 3221 b (nr_X12_laysSide_309__3221 b)) (fun b => f23 3222 b (nr_X12_laysSide_309__3222 b)) (fun b => f23 361 b (nr_X12_laysSide_309__361 b))
  have r38 := y_BK.fr r18 (by omega) (f23 309 20 (by decide)) (f23 309 58 (by decide)) (fun b => f23 3220 b (nr_X12_laysSide_309__3220 b)) (fun a b h => f23 a b (nq_X12_laysSide_309__3452 a b h))
  have r39 := y_L.fr r19 (f23 309 20 (by decide)) (fun b => f23 3438 b (nr_X12_laysSide_309__3438 b))
  have r40 := y_TA.fr r20 (fun a b h => f23 a b (nq_X12_laysSide_309__316 a b h)) (fun a b h => f23 a b (nq_X12_laysSide_309__346 a b h)) (fun a b h => f23 a b (nq_X12_laysSide_309__361 a b h))
  clear t12
  clear t13
  clear t14
  clear t15
  exact T_ret ⟨c22, f24, ⟨x25, rfl, by omega, by omega, (by omega)⟩⟩
abbrev R_X12_side_309 (a b : Int) : Prop := (310 ≤ a ∧ a ≤ 310) ∨ (3224 ≤ a ∧ a ≤ 7652) ∨ (a = 309 ∧ (b = 0 ∨ b = 35 ∨ b = 36 ∨ b = 38 ∨ b = 39 ∨ b = 43 ∨ b = 44 ∨ b = 58 ∨ b = 60))
abbrev P_X12_side_309 (r0 : z_M) : z_V → z_M → Prop := fun v s' => z_CI s' ∧ z_Fr R_X12_side_309 r0 s' ∧ (y_TA s') ∧ (y_DD s') ∧ (y_B s') ∧ (y_K s') ∧ (∃ x, v = vI x ∧ -2147483648 ≤ x ∧ x ≤ 2147483647)
theorem rs_X12_isLine_309__X12_side_309 (a b : Int) (h : R_X12_isLine_309 a b) : R_X12_side_309 a b := (h.elim (fun h => (Or.inr (Or.inl (⟨by omega, by omega⟩)))) (fun h => (Or.inr (Or.inr (⟨h.1, by omega⟩)))))
theorem nq_X12_isLine_309__316 (a b : Int) (h : 316 ≤ a ∧ a ≤ 328) : ¬ R_X12_isLine_309 a b := by
  unfold R_X12_isLine_309; omega
theorem nq_X12_isLine_309__346 (a b : Int) (h : 346 ≤ a ∧ a ≤ 358) : ¬ R_X12_isLine_309 a b := by
  unfold R_X12_isLine_309; omega
theorem nq_X12_isLine_309__361 (a b : Int) (h : 361 ≤ a ∧ a ≤ 373) : ¬ R_X12_isLine_309 a b := by
  unfold R_X12_isLine_309; omega
theorem nr_X12_isLine_309__359 (b : Int) : ¬ R_X12_isLine_309 359 b := by
  unfold R_X12_isLine_309; omega
theorem nr_X12_isLine_309__374 (b : Int) : ¬ R_X12_isLine_309 374 b := by
  unfold R_X12_isLine_309; omega
theorem nr_X12_isLine_309__3220 (b : Int) : ¬ R_X12_isLine_309 3220 b := by
  unfold R_X12_isLine_309; omega
theorem nr_X12_isLine_309__3221 (b : Int) : ¬ R_X12_isLine_309 3221 b := by
  unfold R_X12_isLine_309; omega
theorem nr_X12_isLine_309__3222 (b : Int) : ¬ R_X12_isLine_309 3222 b := by
  unfold R_X12_isLine_309; omega
theorem nr_X12_isLine_309__361 (b : Int) : ¬ R_X12_isLine_309 361 b := by
  unfold R_X12_isLine_309; omega
theorem rs_X12_bad_309__X12_side_309 (a b : Int) (h : R_X12_bad_309 a b) : R_X12_side_309 a b := (h.elim (fun h => (Or.inl (⟨by omega, by omega⟩))) (fun h => (Or.inr (Or.inr (⟨h.1, by omega⟩)))))
theorem sj_X12_side_309_J59 {fu : Nat} (hfu : 8589934592 ≤ fu) (r0 s : z_M) (c : z_CI s) (f : z_Fr R_X12_side_309 r0 s) (p0 : y_TA s) (p1 : y_DD s) (p2 : y_B s) (p3 : y_K s) : z_T (fX12_side_J59 fu s) (P_X12_side_309 r0) := by
  refine T_of (fX12_side_J59.eq_1 ..) ?_
  have u1 := CI_b c (k := 309) (j := 20) bd_309_20
  have u2 := CI_b c (k := 309) (j := 36) bd_309_36
  have u3 := CI_b c (k := 309) (j := 43) bd_309_43
  have u4 := CI_b c (k := 309) (j := 44) bd_309_44
  have u5 := CI_b c (k := 309) (j := 58) bd_309_58
  have u6 := CI_b c (k := 316) (j := 0) bd_316_0
  have u7 := CI_b c (k := 329) (j := 0) bd_329_0
  have u8 := CI_b c (k := 329) (j := 1) bd_329_1
  have t9 : s 309 20 = r0 309 20 := f 309 20 (by decide)
  have t10 : s 316 0 = r0 316 0 := f 316 0 (by decide)
  have t11 : s 329 0 = r0 329 0 := f 329 0 (by decide)
  have t12 : s 329 1 = r0 329 1 := f 329 1 (by decide)
  exact T_ret ⟨c, f, p0, (by first | exact p1 | exact y_DD.z (by omega) (by omega)), p2, (by first | exact p3 | exact y_K.b0 (by omega) | exact y_K.k0 (by omega) | exact y_K.bk (by omega)), ⟨0, rfl, by omega, by omega⟩⟩
theorem rs_X12_laysLetters_309__X12_side_309 (a b : Int) (h : R_X12_laysLetters_309 a b) : R_X12_side_309 a b := (h.elim (fun h => (Or.inr (Or.inl (⟨by omega, by omega⟩)))) (fun h => (Or.inr (Or.inr (⟨h.1, by omega⟩)))))
theorem nr_X12_laysLetters_309__359 (b : Int) : ¬ R_X12_laysLetters_309 359 b := by
  unfold R_X12_laysLetters_309; omega
theorem nr_X12_laysLetters_309__374 (b : Int) : ¬ R_X12_laysLetters_309 374 b := by
  unfold R_X12_laysLetters_309; omega
theorem rs_X12_laysSide_309__X12_side_309 (a b : Int) (h : R_X12_laysSide_309 a b) : R_X12_side_309 a b := (h.elim (fun h => (Or.inr (Or.inl (⟨by omega, by omega⟩)))) (fun h => (Or.inr (Or.inr (⟨h.1, by omega⟩)))))
theorem nr_X12_laysSide_309__359 (b : Int) : ¬ R_X12_laysSide_309 359 b := by
  unfold R_X12_laysSide_309; omega
theorem nr_X12_laysSide_309__374 (b : Int) : ¬ R_X12_laysSide_309 374 b := by
  unfold R_X12_laysSide_309; omega
theorem sj_X12_side_309_J94 {fu : Nat} (hfu : 8589934592 ≤ fu) (r0 s : z_M) (c : z_CI s) (f : z_Fr R_X12_side_309 r0 s) (t0 : Int) (d0 : -2147483648 ≤ t0 ∧ t0 ≤ 2147483647) (p0 : y_TA s) (p1 : y_DD s) (p2 : y_B s) (p3 : y_K s) : z_T (fX12_side_J94 fu s t0) (P_X12_side_309 r0) := by
  refine T_of (fX12_side_J94.eq_1 ..) ?_
  have u1 := CI_b c (k := 309) (j := 20) bd_309_20
  have u2 := CI_b c (k := 309) (j := 36) bd_309_36
  have u3 := CI_b c (k := 309) (j := 43) bd_309_43
  have u4 := CI_b c (k := 309) (j := 44) bd_309_44
  have u5 := CI_b c (k := 309) (j := 58) bd_309_58
  have u6 := CI_b c (k := 316) (j := 0) bd_316_0
  have u7 := CI_b c (k := 329) (j := 0) bd_329_0
  have u8 := CI_b c (k := 329) (j := 1) bd_329_1
  have t9 : s 309 20 = r0 309 20 := f 309 20 (by decide)
  have t10 : s 316 0 = r0 316 0 := f 316 0 (by decide)
  have t11 : s 329 0 = r0 329 0 := f 329 0 (by decide)
  have t12 : s 329 1 = r0 329 1 := f 329 1 (by decide)
  exact T_ret ⟨c, f, p0, (by first | exact p1 | exact y_DD.z (by omega) (by omega)), p2, (by first | exact p3 | exact y_K.b0 (by omega) | exact y_K.k0 (by omega) | exact y_K.bk (by omega)), ⟨t0, rfl, by omega, by omega⟩⟩
set_option maxHeartbeats 4000000 in
theorem sj_X12_side_309_J51 {fu : Nat} (hfu : 8589934592 ≤ fu) (r0 s : z_M) (c : z_CI s) (f : z_Fr R_X12_side_309 r0 s) (a1 : Int) (a2 : Int) (a3 : Int) (t1 : Int) (b1 : -2147483648 ≤ a1 ∧ a1 ≤ 2147483647) (b2 : -2147483648 ≤ a2 ∧ a2 ≤ 2147483647) (b3 : -2147483648 ≤ a3 ∧ a3 ≤ 2147483647) (d1 : 0 ≤ t1 ∧ t1 ≤ 1) (p0 : 0 ≤ a1 ∧ a1 < s 309 44) (p1 : t1 = 1 ∨ (0 ≤ a2 ∧ a2 ≤ 1)) (p2 : y_L s (s 309 44)) (p3 : y_BK s) (p4 : y_TA s) (p5 : y_DD s) (p6 : y_B s) (p7 : y_K s) : z_T (fX12_side_J51 fu s 309 a1 a2 a3 309 t1) (P_X12_side_309 r0) := by
  refine T_of (fX12_side_J51.eq_1 ..) ?_
  have u1 := CI_b c (k := 309) (j := 20) bd_309_20
  have u2 := CI_b c (k := 309) (j := 36) bd_309_36
  have u3 := CI_b c (k := 309) (j := 43) bd_309_43
  have u4 := CI_b c (k := 309) (j := 44) bd_309_44
  have u5 := CI_b c (k := 309) (j := 58) bd_309_58
  have u6 := CI_b c (k := 316) (j := 0) bd_316_0
  have u7 := CI_b c (k := 329) (j := 0) bd_329_0
  have u8 := CI_b c (k := 329) (j := 1) bd_329_1
  have t9 : s 309 20 = r0 309 20 := f 309 20 (by decide)
  have t10 : s 316 0 = r0 316 0 := f 316 0 (by decide)
  have t11 : s 329 0 = r0 329 0 := f 329 0 (by decide)
  have t12 : s 329 1 = r0 329 1 := f 329 1 (by decide)
  refine T_if1 (by decide +kernel) ?_
  refine T_useI (sf_X12_bad_309 hfu s c t1 2 1 (by omega) (by omega) (by omega) (by omega)) (fun v18 s13 hq => ?_)
  obtain ⟨c14, f15, o19, ⟨x17, rfl, b20, b21, o22, o23⟩⟩ := hq
  refine T_vI ?_
  have f16 := z_Fr.tr (R := R_X12_side_309) f f15 rs_X12_bad_309__X12_side_309
  have t24 : s13 309 20 = s 309 20 := f15 309 20 (by decide)
  have t25 : s13 309 36 = s 309 36 := f15 309 36 (by decide)
  have t26 : s13 309 43 = s 309 43 := f15 309 43 (by decide)
  have t27 : s13 309 44 = s 309 44 := f15 309 44 (by decide)
  have t28 : s13 309 58 = s 309 58 := f15 309 58 (by decide)
  have t29 : s13 316 0 = s 316 0 := f15 316 0 (by decide)
  have t30 : s13 329 0 = s 329 0 := f15 329 0 (by decide)
  have t31 : s13 329 1 = s 329 1 := f15 329 1 (by decide)
  have r32 := y_L.fr p2 (f15 309 20 (by decide)) (fun b => f15 3438 b (nr_X12_bad_309__3438 b))
  have r33 := y_BK.fr p3 (by omega) (f15 309 20 (by decide)) (f15 309 58 (by decide)) (fun b => f15 3220 b (nr_X12_bad_309__3220 b)) (fun a b h => f15 a b (nq_X12_bad_309__3452 a b h))
  have r34 := y_TA.fr p4 (fun a b h => f15 a b (nq_X12_bad_309__316 a b h)) (fun a b h => f15 a b (nq_X12_bad_309__346 a b h)) (fun a b h => f15 a b (nq_X12_bad_309__361 a b h))
  have r35 := y_DD.fr p5 (f15 329 0 (by decide)) (f15 329 1 (by decide)) (fun b => f15 359 b (nr_X12_bad_309__359 b)) (fun b => f15 374 b (nr_X12_bad_309__374 b))
  have r36 := y_B.fr p6 (f15 309 20 (by decide)) (f15 316 0 (by decide)) (fun b => f15 3220 b (nr_X12_bad_309__3220 b)) (fun b => f15 3221 b (nr_X12_bad_309__3221 b)) (fun b => f15 3222 b (nr_X12_bad_309__3222 b)) (fun b => f15 361 b (nr_X12_bad_309__361 b))
  have r37 := y_K.fr p7 (by omega) (by omega) (f15 309 44 (by decide)) (f15 309 20 (by decide)) (f15 309 58 (by decide)) (fun b => f15 3438 b (nr_X12_bad_309__3438 b)) (fun b => f15 3220 b (nr_X12_bad_309__3220 b)) (fun a b h => f15 a b (nq_X12_bad_309__3452 a b h))
  refine T_ite (fun h38 => ?_) (fun h38 => ?_)
  · refine T_if1 (by decide +kernel) ?_
    refine T_upg c14 bd_309_60 (by omega) (fun s39 c40 g42 g43 e44 => ?_)
    have f41 := z_Fr.upf (R := R_X12_side_309) f16 g42 g43 (Or.inr (Or.inr (⟨rfl, by decide⟩)))
    have t45 : s39 309 20 = s 309 20 := (g43 20 (by decide)).trans t24
    have t46 : s39 309 36 = s 309 36 := (g43 36 (by decide)).trans t25
    have t47 : s39 309 43 = s 309 43 := (g43 43 (by decide)).trans t26
    have t48 : s39 309 44 = s 309 44 := (g43 44 (by decide)).trans t27
    have t49 : s39 309 58 = s 309 58 := (g43 58 (by decide)).trans t28
    have t50 : s39 316 0 = s 316 0 := (g42 316 0 (by decide)).trans t29
    have t51 : s39 329 0 = s 329 0 := (g42 329 0 (by decide)).trans t30
    have t52 : s39 329 1 = s 329 1 := (g42 329 1 (by decide)).trans t31
    have r53 := y_L.fr r32 (g43 20 (by decide)) (fun b => g42 3438 b (by decide))
    have r54 := y_BK.fr r33 (by omega) (g43 20 (by decide)) (g43 58 (by decide)) (fun b => g42 3220 b (by decide)) (fun a b h => g42 a b (by omega))
    have r55 := y_TA.fr r34 (fun a b h => g42 a b (by omega)) (fun a b h => g42 a b (by omega)) (fun a b h => g42 a b (by omega))
    have r56 := y_DD.fr r35 (g42 329 0 (by decide)) (g42 329 1 (by decide)) (fun b => g42 359 b (by decide)) (fun b => g42 374 b (by decide))
    have r57 := y_B.fr r36 (g43 20 (by decide)) (g42 316 0 (by decide)) (fun b => g42 3220 b (by decide)) (fun b => g42 3221 b (by decide)) (fun b => g42 3222 b (by decide)) (fun b => g42 361 b (by decide))
    have r58 := y_K.fr r37 (by omega) (by omega) (g43 44 (by decide)) (g43 20 (by decide)) (g43 58 (by decide)) (fun b => g42 3438 b (by decide)) (fun b => g42 3220 b (by decide)) (fun a b h => g42 a b (by omega))
    clear t24
    clear t25
    clear t26
    clear t27
    clear t28
    clear t29
    clear t30
    clear t31
    refine T_if1 (by decide +kernel) ?_
    refine T_useI (sf_X12_laysLetters_309 hfu s39 c40 a1 a2 (by omega) (by omega) r57 (by first | exact r54 | exact y_K.B r58 (by omega) (by omega)) (by omega)) (fun v64 s59 hq => ?_)
    obtain ⟨c60, f61, o65, o66, ⟨x63, rfl, b67, b68, o69⟩⟩ := hq
    refine T_vI ?_
    have f62 := z_Fr.tr (R := R_X12_side_309) f41 f61 rs_X12_laysLetters_309__X12_side_309
    have t70 : s59 309 20 = s 309 20 := (f61 309 20 (by decide)).trans t45
    have t71 : s59 309 36 = s 309 36 := (f61 309 36 (by decide)).trans t46
    have t72 : s59 309 43 = s 309 43 := (f61 309 43 (by decide)).trans t47
    have t73 : s59 309 44 = s 309 44 := (f61 309 44 (by decide)).trans t48
    have t74 : s59 309 58 = s 309 58 := (f61 309 58 (by decide)).trans t49
    have t75 : s59 316 0 = s 316 0 := (f61 316 0 (by decide)).trans t50
    have t76 : s59 329 0 = s 329 0 := (f61 329 0 (by decide)).trans t51
    have t77 : s59 329 1 = s 329 1 := (f61 329 1 (by decide)).trans t52
    have r78 := y_L.fr r53 (f61 309 20 (by decide)) (fun b => f61 3438 b (nr_X12_laysLetters_309__3438 b))
    have r79 := y_BK.fr r54 (by omega) (f61 309 20 (by decide)) (f61 309 58 (by decide)) (fun b => f61 3220 b (nr_X12_laysLetters_309__3220 b)) (fun a b h => f61 a b (nq_X12_laysLetters_309__3452 a b h))
    have r80 := y_TA.fr r55 (fun a b h => f61 a b (nq_X12_laysLetters_309__316 a b h)) (fun a b h => f61 a b (nq_X12_laysLetters_309__346 a b h)) (fun a b h => f61 a b (nq_X12_laysLetters_309__361 a b h))
    have r81 := y_DD.fr r56 (f61 329 0 (by decide)) (f61 329 1 (by decide)) (fun b => f61 359 b (nr_X12_laysLetters_309__359 b)) (fun b => f61 374 b (nr_X12_laysLetters_309__374 b))
    have r82 := y_B.fr r57 (f61 309 20 (by decide)) (f61 316 0 (by decide)) (fun b => f61 3220 b (nr_X12_laysLetters_309__3220 b)) (fun b => f61 3221 b (nr_X12_laysLetters_309__3221 b)) (fun b => f61 3222 b (nr_X12_laysLetters_309__3222 b)) (fun b => f61 361 b (nr_X12_laysLetters_309__361 b))
    have r83 := y_K.fr r58 (by omega) (by omega) (f61 309 44 (by decide)) (f61 309 20 (by decide)) (f61 309 58 (by decide)) (fun b => f61 3438 b (nr_X12_laysLetters_309__3438 b)) (fun b => f61 3220 b (nr_X12_laysLetters_309__3220 b)) (fun a b h => f61 a b (nq_X12_laysLetters_309__3452 a b h))
    clear t45
    clear t46
    clear t47
    clear t48
    clear t49
    clear t50
    clear t51
    clear t52
    refine T_ite (fun h84 => ?_) (fun h84 => ?_)
    · refine T_if1 (by decide +kernel) ?_
      refine T_useI (sf_X12_laysSide_309 hfu s59 c60 a1 a2 (by omega) (by omega) r82 (by first | exact r79 | exact y_K.B r83 (by omega) (by omega)) (by first | exact y_L.cg r78 (by omega) | exact y_K.L r83 (by omega) (by omega)) r80 (by omega) (by omega)) (fun v90 s85 hq => ?_)
      obtain ⟨c86, f87, o91, o92, ⟨x89, rfl, b93, b94, o95⟩⟩ := hq
      refine T_vI ?_
      have f88 := z_Fr.tr (R := R_X12_side_309) f62 f87 rs_X12_laysSide_309__X12_side_309
      have t96 : s85 309 20 = s 309 20 := (f87 309 20 (by decide)).trans t70
      have t97 : s85 309 36 = s 309 36 := (f87 309 36 (by decide)).trans t71
      have t98 : s85 309 43 = s 309 43 := (f87 309 43 (by decide)).trans t72
      have t99 : s85 309 44 = s 309 44 := (f87 309 44 (by decide)).trans t73
      have t100 : s85 309 58 = s 309 58 := (f87 309 58 (by decide)).trans t74
      have t101 : s85 316 0 = s 316 0 := (f87 316 0 (by decide)).trans t75
      have t102 : s85 329 0 = s 329 0 := (f87 329 0 (by decide)).trans t76
      have t103 : s85 329 1 = s 329 1 := (f87 329 1 (by decide)).trans t77
      have r104 := y_L.fr r78 (f87 309 20 (by decide)) (fun b => f87 3438 b (nr_X12_laysSide_309__3438 b))
      have r105 := y_BK.fr r79 (by omega) (f87 309 20 (by decide)) (f87 309 58 (by decide)) (fun b => f87 3220 b (nr_X12_laysSide_309__3220 b)) (fun a b h => f87 a b (nq_X12_laysSide_309__3452 a b h))
      have r106 := y_TA.fr r80 (fun a b h => f87 a b (nq_X12_laysSide_309__316 a b h)) (fun a b h => f87 a b (nq_X12_laysSide_309__346 a b h)) (fun a b h => f87 a b (nq_X12_laysSide_309__361 a b h))
      have r107 := y_DD.fr r81 (f87 329 0 (by decide)) (f87 329 1 (by decide)) (fun b => f87 359 b (nr_X12_laysSide_309__359 b)) (fun b => f87 374 b (nr_X12_laysSide_309__374 b))
      have r108 := y_B.fr r82 (f87 309 20 (by decide)) (f87 316 0 (by decide)) (fun b => f87 3220 b (nr_X12_laysSide_309__3220 b)) (fun b => f87 3221 b (nr_X12_laysSide_309__3221 b)) (fun b => f87 3222 b (nr_X12_laysSide_309__3222 b)) (fun b => f87 361 b (nr_X12_laysSide_309__361 b))
      have r109 := y_K.fr r83 (by omega) (by omega) (f87 309 44 (by decide)) (f87 309 20 (by decide)) (f87 309 58 (by decide)) (fun b => f87 3438 b (nr_X12_laysSide_309__3438 b)) (fun b => f87 3220 b (nr_X12_laysSide_309__3220 b)) (fun a b h => f87 a b (nq_X12_laysSide_309__3452 a b h))
      clear t70
      clear t71
      clear t72
      clear t73
      clear t74
      clear t75
      clear t76
      clear t77
      refine T_leq (fun x110 e111 => ?_)
      first | (have w112 := z_wx e111 (by omega)) | (have w112 := z_wr e111)
      refine T_leq (fun x113 e114 => ?_)
      first | (have w115 := z_wx e114 (by omega)) | (have w115 := z_wr e114)
      exact sj_X12_side_309_J94 hfu r0 s85 c86 f88 x113 (by omega) r106 (by first | exact r107 | exact y_DD.z (by omega) (by omega)) r108 (by first | exact r109 | exact y_K.b0 (by omega) | exact y_K.k0 (by omega) | exact y_K.bk (by omega) | exact y_K.mk r104 (by omega) r105)
    · exact sj_X12_side_309_J94 hfu r0 s59 c60 f62 x63 (by omega) r80 (by first | exact r81 | exact y_DD.z (by omega) (by omega)) r82 (by first | exact r83 | exact y_K.b0 (by omega) | exact y_K.k0 (by omega) | exact y_K.bk (by omega) | exact y_K.mk r78 (by omega) r79)
  · exact sj_X12_side_309_J59 hfu r0 s13 c14 f16 r34 (by first | exact r35 | exact y_DD.z (by omega) (by omega)) r36 (by first | exact r37 | exact y_K.b0 (by omega) | exact y_K.k0 (by omega) | exact y_K.bk (by omega) | exact y_K.mk r32 (by omega) r33)
theorem sj_X12_side_309_J46 {fu : Nat} (hfu : 8589934592 ≤ fu) (r0 s : z_M) (c : z_CI s) (f : z_Fr R_X12_side_309 r0 s) (a1 : Int) (a2 : Int) (a3 : Int) (b1 : -2147483648 ≤ a1 ∧ a1 ≤ 2147483647) (b2 : -2147483648 ≤ a2 ∧ a2 ≤ 2147483647) (b3 : -2147483648 ≤ a3 ∧ a3 ≤ 2147483647) (p0 : 0 ≤ a1 ∧ a1 < s 309 44) (p1 : y_L s (s 309 44)) (p2 : y_BK s) (p3 : y_TA s) (p4 : y_DD s) (p5 : y_B s) (p6 : y_K s) : z_T (fX12_side_J46 fu s 309 a1 a2 a3 309) (P_X12_side_309 r0) := by
  refine T_of (fX12_side_J46.eq_1 ..) ?_
  have u1 := CI_b c (k := 309) (j := 20) bd_309_20
  have u2 := CI_b c (k := 309) (j := 36) bd_309_36
  have u3 := CI_b c (k := 309) (j := 43) bd_309_43
  have u4 := CI_b c (k := 309) (j := 44) bd_309_44
  have u5 := CI_b c (k := 309) (j := 58) bd_309_58
  have u6 := CI_b c (k := 316) (j := 0) bd_316_0
  have u7 := CI_b c (k := 329) (j := 0) bd_329_0
  have u8 := CI_b c (k := 329) (j := 1) bd_329_1
  have t9 : s 309 20 = r0 309 20 := f 309 20 (by decide)
  have t10 : s 316 0 = r0 316 0 := f 316 0 (by decide)
  have t11 : s 329 0 = r0 329 0 := f 329 0 (by decide)
  have t12 : s 329 1 = r0 329 1 := f 329 1 (by decide)
  exact sj_X12_side_309_J51 hfu r0 s c f a1 a2 a3 1 (by omega) (by omega) (by omega) (by omega) (by omega) (by omega) (by first | exact y_L.cg p1 (by omega) | exact y_K.L p6 (by omega) (by omega)) (by first | exact p2 | exact y_K.B p6 (by omega) (by omega)) p3 (by first | exact p4 | exact y_DD.z (by omega) (by omega)) p5 (by first | exact p6 | exact y_K.b0 (by omega) | exact y_K.k0 (by omega) | exact y_K.bk (by omega) | exact y_K.mk p1 (by omega) p2)
theorem sj_X12_side_309_J19 {fu : Nat} (hfu : 8589934592 ≤ fu) (r0 s : z_M) (c : z_CI s) (f : z_Fr R_X12_side_309 r0 s) (a1 : Int) (a2 : Int) (a3 : Int) (t1 : Int) (b1 : -2147483648 ≤ a1 ∧ a1 ≤ 2147483647) (b2 : -2147483648 ≤ a2 ∧ a2 ≤ 2147483647) (b3 : -2147483648 ≤ a3 ∧ a3 ≤ 2147483647) (d1 : 0 ≤ t1 ∧ t1 ≤ 1) (p0 : t1 = 1 ∨ (0 ≤ a1 ∧ a1 < s 309 44)) (p1 : y_L s (s 309 44)) (p2 : y_BK s) (p3 : y_TA s) (p4 : y_DD s) (p5 : y_B s) (p6 : y_K s) : z_T (fX12_side_J19 fu s 309 a1 a2 a3 309 t1) (P_X12_side_309 r0) := by
  refine T_of (fX12_side_J19.eq_1 ..) ?_
  have u1 := CI_b c (k := 309) (j := 20) bd_309_20
  have u2 := CI_b c (k := 309) (j := 36) bd_309_36
  have u3 := CI_b c (k := 309) (j := 43) bd_309_43
  have u4 := CI_b c (k := 309) (j := 44) bd_309_44
  have u5 := CI_b c (k := 309) (j := 58) bd_309_58
  have u6 := CI_b c (k := 316) (j := 0) bd_316_0
  have u7 := CI_b c (k := 329) (j := 0) bd_329_0
  have u8 := CI_b c (k := 329) (j := 1) bd_329_1
  have t9 : s 309 20 = r0 309 20 := f 309 20 (by decide)
  have t10 : s 316 0 = r0 316 0 := f 316 0 (by decide)
  have t11 : s 329 0 = r0 329 0 := f 329 0 (by decide)
  have t12 : s 329 1 = r0 329 1 := f 329 1 (by decide)
  refine T_if1 (by decide +kernel) ?_
  refine T_useI (sf_X12_bad_309 hfu s c t1 1 0 (by omega) (by omega) (by omega) (by omega)) (fun v18 s13 hq => ?_)
  obtain ⟨c14, f15, o19, ⟨x17, rfl, b20, b21, o22, o23⟩⟩ := hq
  refine T_vI ?_
  have f16 := z_Fr.tr (R := R_X12_side_309) f f15 rs_X12_bad_309__X12_side_309
  have t24 : s13 309 20 = s 309 20 := f15 309 20 (by decide)
  have t25 : s13 309 36 = s 309 36 := f15 309 36 (by decide)
  have t26 : s13 309 43 = s 309 43 := f15 309 43 (by decide)
  have t27 : s13 309 44 = s 309 44 := f15 309 44 (by decide)
  have t28 : s13 309 58 = s 309 58 := f15 309 58 (by decide)
  have t29 : s13 316 0 = s 316 0 := f15 316 0 (by decide)
  have t30 : s13 329 0 = s 329 0 := f15 329 0 (by decide)
  have t31 : s13 329 1 = s 329 1 := f15 329 1 (by decide)
  have r32 := y_L.fr p1 (f15 309 20 (by decide)) (fun b => f15 3438 b (nr_X12_bad_309__3438 b))
  have r33 := y_BK.fr p2 (by omega) (f15 309 20 (by decide)) (f15 309 58 (by decide)) (fun b => f15 3220 b (nr_X12_bad_309__3220 b)) (fun a b h => f15 a b (nq_X12_bad_309__3452 a b h))
  have r34 := y_TA.fr p3 (fun a b h => f15 a b (nq_X12_bad_309__316 a b h)) (fun a b h => f15 a b (nq_X12_bad_309__346 a b h)) (fun a b h => f15 a b (nq_X12_bad_309__361 a b h))
  have r35 := y_DD.fr p4 (f15 329 0 (by decide)) (f15 329 1 (by decide)) (fun b => f15 359 b (nr_X12_bad_309__359 b)) (fun b => f15 374 b (nr_X12_bad_309__374 b))
  have r36 := y_B.fr p5 (f15 309 20 (by decide)) (f15 316 0 (by decide)) (fun b => f15 3220 b (nr_X12_bad_309__3220 b)) (fun b => f15 3221 b (nr_X12_bad_309__3221 b)) (fun b => f15 3222 b (nr_X12_bad_309__3222 b)) (fun b => f15 361 b (nr_X12_bad_309__361 b))
  have r37 := y_K.fr p6 (by omega) (by omega) (f15 309 44 (by decide)) (f15 309 20 (by decide)) (f15 309 58 (by decide)) (fun b => f15 3438 b (nr_X12_bad_309__3438 b)) (fun b => f15 3220 b (nr_X12_bad_309__3220 b)) (fun a b h => f15 a b (nq_X12_bad_309__3452 a b h))
  refine T_ite (fun h38 => ?_) (fun h38 => ?_)
  · exact sj_X12_side_309_J59 hfu r0 s13 c14 f16 r34 (by first | exact r35 | exact y_DD.z (by omega) (by omega)) r36 (by first | exact r37 | exact y_K.b0 (by omega) | exact y_K.k0 (by omega) | exact y_K.bk (by omega) | exact y_K.mk r32 (by omega) r33)
  · refine T_useI (sf_X12_in hfu s13 c14 a2 0 1 (by omega) (by omega) (by omega)) (fun v44 s39 hq => ?_)
    obtain ⟨c40, f41, ⟨x43, rfl, b45, b46, o47⟩⟩ := hq
    refine T_vI ?_
    have q48 := z_Fr.eq (fun a b h => h) f41
    subst q48
    refine T_ite (fun h49 => ?_) (fun h49 => ?_)
    · exact sj_X12_side_309_J46 hfu r0 s13 c14 f16 a1 a2 a3 (by omega) (by omega) (by omega) (by omega) (by first | exact y_L.cg r32 (by omega) | exact y_K.L r37 (by omega) (by omega)) (by first | exact r33 | exact y_K.B r37 (by omega) (by omega)) r34 (by first | exact r35 | exact y_DD.z (by omega) (by omega)) r36 (by first | exact r37 | exact y_K.b0 (by omega) | exact y_K.k0 (by omega) | exact y_K.bk (by omega) | exact y_K.mk r32 (by omega) r33)
    · refine T_useI (sf_X12_in hfu s13 c14 a3 0 1 (by omega) (by omega) (by omega)) (fun v55 s50 hq => ?_)
      obtain ⟨c51, f52, ⟨x54, rfl, b56, b57, o58⟩⟩ := hq
      refine T_vI ?_
      have q59 := z_Fr.eq (fun a b h => h) f52
      subst q59
      refine T_ite (fun h60 => ?_) (fun h60 => ?_)
      · exact sj_X12_side_309_J51 hfu r0 s13 c14 f16 a1 a2 a3 0 (by omega) (by omega) (by omega) (by omega) (by omega) (by omega) (by first | exact y_L.cg r32 (by omega) | exact y_K.L r37 (by omega) (by omega)) (by first | exact r33 | exact y_K.B r37 (by omega) (by omega)) r34 (by first | exact r35 | exact y_DD.z (by omega) (by omega)) r36 (by first | exact r37 | exact y_K.b0 (by omega) | exact y_K.k0 (by omega) | exact y_K.bk (by omega) | exact y_K.mk r32 (by omega) r33)
      · exact sj_X12_side_309_J46 hfu r0 s13 c14 f16 a1 a2 a3 (by omega) (by omega) (by omega) (by omega) (by first | exact y_L.cg r32 (by omega) | exact y_K.L r37 (by omega) (by omega)) (by first | exact r33 | exact y_K.B r37 (by omega) (by omega)) r34 (by first | exact r35 | exact y_DD.z (by omega) (by omega)) r36 (by first | exact r37 | exact y_K.b0 (by omega) | exact y_K.k0 (by omega) | exact y_K.bk (by omega) | exact y_K.mk r32 (by omega) r33)
theorem sf_X12_side_309 {fu : Nat} (hfu : 8589934592 ≤ fu) (r0 : z_M) (c0 : z_CI r0) (a1 : Int) (a2 : Int) (a3 : Int) (b1 : -2147483648 ≤ a1 ∧ a1 ≤ 2147483647) (b2 : -2147483648 ≤ a2 ∧ a2 ≤ 2147483647) (b3 : -2147483648 ≤ a3 ∧ a3 ≤ 2147483647) (p0 : y_TA r0) (p1 : y_DD r0) (p2 : y_B r0) (p3 : y_K r0) : z_T (fX12_side fu r0 309 a1 a2 a3) (P_X12_side_309 r0) := by
  refine T_of (fX12_side.eq_1 ..) ?_
  have u1 := CI_b c0 (k := 309) (j := 20) bd_309_20
  have u2 := CI_b c0 (k := 309) (j := 36) bd_309_36
  have u3 := CI_b c0 (k := 309) (j := 43) bd_309_43
  have u4 := CI_b c0 (k := 309) (j := 44) bd_309_44
  have u5 := CI_b c0 (k := 309) (j := 58) bd_309_58
  have u6 := CI_b c0 (k := 316) (j := 0) bd_316_0
  have u7 := CI_b c0 (k := 329) (j := 0) bd_329_0
  have u8 := CI_b c0 (k := 329) (j := 1) bd_329_1
  refine T_if1 (by decide +kernel) ?_
  refine T_upg c0 bd_309_0 (by omega) (fun s9 c10 g12 g13 e14 => ?_)
  have f11 := z_Fr.upf (R := R_X12_side_309) z_Fr.rf g12 g13 (Or.inr (Or.inr (⟨rfl, by decide⟩)))
  have t15 : s9 309 20 = r0 309 20 := g13 20 (by decide)
  have t16 : s9 309 36 = r0 309 36 := g13 36 (by decide)
  have t17 : s9 309 43 = r0 309 43 := g13 43 (by decide)
  have t18 : s9 309 44 = r0 309 44 := g13 44 (by decide)
  have t19 : s9 309 58 = r0 309 58 := g13 58 (by decide)
  have t20 : s9 316 0 = r0 316 0 := g12 316 0 (by decide)
  have t21 : s9 329 0 = r0 329 0 := g12 329 0 (by decide)
  have t22 : s9 329 1 = r0 329 1 := g12 329 1 (by decide)
  have r23 := y_TA.fr p0 (fun a b h => g12 a b (by omega)) (fun a b h => g12 a b (by omega)) (fun a b h => g12 a b (by omega))
  have r24 := y_DD.fr p1 (g12 329 0 (by decide)) (g12 329 1 (by decide)) (fun b => g12 359 b (by decide)) (fun b => g12 374 b (by decide))
  have r25 := y_B.fr p2 (g13 20 (by decide)) (g12 316 0 (by decide)) (fun b => g12 3220 b (by decide)) (fun b => g12 3221 b (by decide)) (fun b => g12 3222 b (by decide)) (fun b => g12 361 b (by decide))
  have r26 := y_K.fr p3 (by omega) (by omega) (g13 44 (by decide)) (g13 20 (by decide)) (g13 58 (by decide)) (fun b => g12 3438 b (by decide)) (fun b => g12 3220 b (by decide)) (fun a b h => g12 a b (by omega))
  refine T_if1 (by decide +kernel) ?_
  refine T_useI (sf_X12_isLine_309 hfu s9 c10 a1 (by omega) r25 (by first | exact r26 | exact y_K.b0 (by omega) | exact y_K.k0 (by omega) | exact y_K.bk (by omega))) (fun v32 s27 hq => ?_)
  obtain ⟨c28, f29, o33, o34, o35, o36, o37, o38, ⟨x31, rfl, b39, b40, o41⟩⟩ := hq
  refine T_vI ?_
  have f30 := z_Fr.tr (R := R_X12_side_309) f11 f29 rs_X12_isLine_309__X12_side_309
  have t42 : s27 309 20 = r0 309 20 := (f29 309 20 (by decide)).trans t15
  have t43 : s27 316 0 = r0 316 0 := (f29 316 0 (by decide)).trans t20
  have t44 : s27 329 0 = r0 329 0 := (f29 329 0 (by decide)).trans t21
  have t45 : s27 329 1 = r0 329 1 := (f29 329 1 (by decide)).trans t22
  have u46 := CI_b c28 (k := 309) (j := 36) bd_309_36
  have u47 := CI_b c28 (k := 309) (j := 43) bd_309_43
  have u48 := CI_b c28 (k := 309) (j := 44) bd_309_44
  have u49 := CI_b c28 (k := 309) (j := 58) bd_309_58
  have r50 := y_TA.fr r23 (fun a b h => f29 a b (nq_X12_isLine_309__316 a b h)) (fun a b h => f29 a b (nq_X12_isLine_309__346 a b h)) (fun a b h => f29 a b (nq_X12_isLine_309__361 a b h))
  have r51 := y_DD.fr r24 (f29 329 0 (by decide)) (f29 329 1 (by decide)) (fun b => f29 359 b (nr_X12_isLine_309__359 b)) (fun b => f29 374 b (nr_X12_isLine_309__374 b))
  have r52 := y_B.fr r25 (f29 309 20 (by decide)) (f29 316 0 (by decide)) (fun b => f29 3220 b (nr_X12_isLine_309__3220 b)) (fun b => f29 3221 b (nr_X12_isLine_309__3221 b)) (fun b => f29 3222 b (nr_X12_isLine_309__3222 b)) (fun b => f29 361 b (nr_X12_isLine_309__361 b))
  clear t15
  clear t20
  clear t21
  clear t22
  refine T_ite (fun h53 => ?_) (fun h53 => ?_)
  · exact sj_X12_side_309_J19 hfu r0 s27 c28 f30 a1 a2 a3 0 (by omega) (by omega) (by omega) (by omega) (by omega) (by first | exact y_L.cg o34 (by omega) | exact y_K.L o33 (by omega) (by omega)) (by first | exact o35 | exact y_K.B o33 (by omega) (by omega)) r50 (by first | exact r51 | exact y_DD.z (by omega) (by omega)) r52 (by first | exact o33 | exact y_K.b0 (by omega) | exact y_K.k0 (by omega) | exact y_K.bk (by omega) | exact y_K.mk o34 (by omega) o35)
  · exact sj_X12_side_309_J19 hfu r0 s27 c28 f30 a1 a2 a3 1 (by omega) (by omega) (by omega) (by omega) (by omega) (by first | exact y_L.cg o34 (by omega) | exact y_K.L o33 (by omega) (by omega)) (by first | exact o35 | exact y_K.B o33 (by omega) (by omega)) r50 (by first | exact r51 | exact y_DD.z (by omega) (by omega)) r52 (by first | exact o33 | exact y_K.b0 (by omega) | exact y_K.k0 (by omega) | exact y_K.bk (by omega) | exact y_K.mk o34 (by omega) o35)
abbrev R_X12_clashOf_309 (a b : Int) : Prop := (3653 ≤ a ∧ a ≤ 7652) ∨ (a = 309 ∧ (b = 60))
abbrev P_X12_clashOf_309 (r0 : z_M) : z_V → z_M → Prop := fun v s' => z_CI s' ∧ z_Fr R_X12_clashOf_309 r0 s' ∧ (∃ x, v = vI x ∧ -2147483648 ≤ x ∧ x ≤ 2147483647)
theorem rs_X12_sideOf_309__X12_clashOf_309 (a b : Int) (h : R_X12_sideOf_309 a b) : R_X12_clashOf_309 a b := (h.elim (fun h => (Or.inl (⟨by omega, by omega⟩))) (fun h => (Or.inr (⟨h.1, by omega⟩))))
theorem nr_X12_sideOf_309__3220 (b : Int) : ¬ R_X12_sideOf_309 3220 b := by
  unfold R_X12_sideOf_309; omega
theorem nr_X12_sideOf_309__3221 (b : Int) : ¬ R_X12_sideOf_309 3221 b := by
  unfold R_X12_sideOf_309; omega
theorem nr_X12_sideOf_309__3222 (b : Int) : ¬ R_X12_sideOf_309 3222 b := by
  unfold R_X12_sideOf_309; omega
theorem nr_X12_sideOf_309__361 (b : Int) : ¬ R_X12_sideOf_309 361 b := by
  unfold R_X12_sideOf_309; omega
theorem nq_X12_sideOf_309__3452 (a b : Int) (h : 3452 ≤ a ∧ a ≤ 3651) : ¬ R_X12_sideOf_309 a b := by
  unfold R_X12_sideOf_309; omega
theorem nr_X12_sideOf_309__3438 (b : Int) : ¬ R_X12_sideOf_309 3438 b := by
  unfold R_X12_sideOf_309; omega
theorem nq_X12_sideOf_309__316 (a b : Int) (h : 316 ≤ a ∧ a ≤ 328) : ¬ R_X12_sideOf_309 a b := by
  unfold R_X12_sideOf_309; omega
theorem nq_X12_sideOf_309__346 (a b : Int) (h : 346 ≤ a ∧ a ≤ 358) : ¬ R_X12_sideOf_309 a b := by
  unfold R_X12_sideOf_309; omega
theorem nq_X12_sideOf_309__361 (a b : Int) (h : 361 ≤ a ∧ a ≤ 373) : ¬ R_X12_sideOf_309 a b := by
  unfold R_X12_sideOf_309; omega
theorem rs_X12_laysSide_309__X12_clashOf_309 (a b : Int) (h : R_X12_laysSide_309 a b) : R_X12_clashOf_309 a b := (h.elim (fun h => (Or.inl (⟨by omega, by omega⟩))) (fun h => (Or.inr (⟨h.1, by omega⟩))))
theorem sj_X12_clashOf_309_J145 {fu : Nat} (hfu : 8589934592 ≤ fu) (r0 s : z_M) (c : z_CI s) (f : z_Fr R_X12_clashOf_309 r0 s) (a2 : Int) (a3 : Int) (a4 : Int) (a5 : Int) (a6 : Int) (b2 : 0 ≤ a2 ∧ a2 ≤ 2000) (b3 : 0 ≤ a3 ∧ a3 ≤ 4000) (b4 : -2147483648 ≤ a4 ∧ a4 ≤ 2147483647) (b5 : 0 ≤ a5 ∧ a5 ≤ 1999) (b6 : 0 ≤ a6 ∧ a6 ≤ 3999) (M : Int) (pm : 2147483647 - a6 ≤ M) {r : z_M → Int → Int → z_O} {k : z_M → Int → z_O} (hr : ∀ (s' : z_M) (v4 : Int) (v6 : Int), z_CI s' → z_Fr R_X12_clashOf_309 r0 s' → (-2147483648 ≤ v4 ∧ v4 ≤ 2147483647) → (0 ≤ v6 ∧ v6 ≤ 4000) → (2147483647 - v6 < M) → z_T (r s' v4 v6) (P_X12_clashOf_309 r0)) (hk : ∀ (s' : z_M) (v4 : Int), z_CI s' → z_Fr R_X12_clashOf_309 r0 s' → (-2147483648 ≤ v4 ∧ v4 ≤ 2147483647) → z_T (k s' v4) (P_X12_clashOf_309 r0)) : z_T (fX12_clashOf_J145 fu s 309 a2 a3 a4 a5 a6 r k) (P_X12_clashOf_309 r0) := by
  refine T_of (fX12_clashOf_J145.eq_1 ..) ?_
  have u1 := CI_b c (k := 309) (j := 20) bd_309_20
  have u2 := CI_b c (k := 309) (j := 44) bd_309_44
  have u3 := CI_b c (k := 309) (j := 58) bd_309_58
  have u4 := CI_b c (k := 316) (j := 0) bd_316_0
  have t5 : s 309 20 = r0 309 20 := f 309 20 (by decide)
  have t6 : s 309 44 = r0 309 44 := f 309 44 (by decide)
  have t7 : s 309 58 = r0 309 58 := f 309 58 (by decide)
  have t8 : s 316 0 = r0 316 0 := f 316 0 (by decide)
  refine T_leq (fun x9 e10 => ?_)
  first | (have w11 := z_wx e10 (by omega)) | (have w11 := z_wr e10)
  exact hr s a4 x9 c f (by omega) (by omega) (by omega)
theorem sj_X12_clashOf_309_J141 {fu : Nat} (hfu : 8589934592 ≤ fu) (r0 s : z_M) (c : z_CI s) (f : z_Fr R_X12_clashOf_309 r0 s) (a2 : Int) (a3 : Int) (a5 : Int) (a6 : Int) (a7 : Int) (b2 : 0 ≤ a2 ∧ a2 ≤ 2000) (b3 : 0 ≤ a3 ∧ a3 ≤ 4000) (b5 : 0 ≤ a5 ∧ a5 ≤ 1999) (b6 : 0 ≤ a6 ∧ a6 ≤ 3999) (b7 : -2147483648 ≤ a7 ∧ a7 ≤ 2147483647) (M : Int) (pm : 2147483647 - a6 ≤ M) {r : z_M → Int → Int → z_O} {k : z_M → Int → z_O} (hr : ∀ (s' : z_M) (v4 : Int) (v6 : Int), z_CI s' → z_Fr R_X12_clashOf_309 r0 s' → (-2147483648 ≤ v4 ∧ v4 ≤ 2147483647) → (0 ≤ v6 ∧ v6 ≤ 4000) → (2147483647 - v6 < M) → z_T (r s' v4 v6) (P_X12_clashOf_309 r0)) (hk : ∀ (s' : z_M) (v4 : Int), z_CI s' → z_Fr R_X12_clashOf_309 r0 s' → (-2147483648 ≤ v4 ∧ v4 ≤ 2147483647) → z_T (k s' v4) (P_X12_clashOf_309 r0)) : z_T (fX12_clashOf_J141 fu s 309 a2 a3 a5 a6 a7 r k) (P_X12_clashOf_309 r0) := by
  refine T_of (fX12_clashOf_J141.eq_1 ..) ?_
  have u1 := CI_b c (k := 309) (j := 20) bd_309_20
  have u2 := CI_b c (k := 309) (j := 44) bd_309_44
  have u3 := CI_b c (k := 309) (j := 58) bd_309_58
  have u4 := CI_b c (k := 316) (j := 0) bd_316_0
  have t5 : s 309 20 = r0 309 20 := f 309 20 (by decide)
  have t6 : s 309 44 = r0 309 44 := f 309 44 (by decide)
  have t7 : s 309 58 = r0 309 58 := f 309 58 (by decide)
  have t8 : s 316 0 = r0 316 0 := f 316 0 (by decide)
  exact sj_X12_clashOf_309_J145 hfu r0 s c f a2 a3 a7 a5 a6 (by omega) (by omega) (by omega) (by omega) (by omega) M (by omega) (fun s' v4 v6 c' f' w4 w6 pg => hr s' v4 v6 c' f' w4 w6 (by omega)) hk
theorem sl_X12_clashOf_309_L47 {fu : Nat} (hfu : 8589934592 ≤ fu) (r0 : z_M) (a2 : Int) (a3 : Int) (a5 : Int) (b2 : 0 ≤ a2 ∧ a2 ≤ 2000) (b3 : 0 ≤ a3 ∧ a3 ≤ 4000) (b5 : 0 ≤ a5 ∧ a5 ≤ 1999) {k : z_M → Int → z_O} (hk : ∀ (s' : z_M) (v4 : Int), z_CI s' → z_Fr R_X12_clashOf_309 r0 s' → (-2147483648 ≤ v4 ∧ v4 ≤ 2147483647) → z_T (k s' v4) (P_X12_clashOf_309 r0)) : ∀ (F : Nat) (s : z_M) (a4 : Int) (a6 : Int), z_CI s → z_Fr R_X12_clashOf_309 r0 s → (-2147483648 ≤ a4 ∧ a4 ≤ 2147483647) → (0 ≤ a6 ∧ a6 ≤ 4000) → (2147483647 - a6 < (F : Int)) → z_T (fX12_clashOf_L47 fu 309 a2 a3 a5 F s a4 a6 k) (P_X12_clashOf_309 r0) := by
  intro F
  induction F with
  | zero =>
    intro s a4 a6 c f b4 b6 hm
    have u57 := CI_b c (k := 309) (j := 20) bd_309_20
    have u58 := CI_b c (k := 309) (j := 44) bd_309_44
    have u59 := CI_b c (k := 309) (j := 58) bd_309_58
    have u60 := CI_b c (k := 316) (j := 0) bd_316_0
    exfalso; omega
  | succ F ih =>
    intro s a4 a6 c f b4 b6 hm
    refine T_of (fX12_clashOf_L47.eq_2 ..) ?_
    have u1 := CI_b c (k := 309) (j := 20) bd_309_20
    have u2 := CI_b c (k := 309) (j := 44) bd_309_44
    have u3 := CI_b c (k := 309) (j := 58) bd_309_58
    have u4 := CI_b c (k := 316) (j := 0) bd_316_0
    have t5 : s 309 20 = r0 309 20 := f 309 20 (by decide)
    have t6 : s 309 44 = r0 309 44 := f 309 44 (by decide)
    have t7 : s 309 58 = r0 309 58 := f 309 58 (by decide)
    have t8 : s 316 0 = r0 316 0 := f 316 0 (by decide)
    refine T_ite (fun h9 => ?_) (fun h9 => ?_)
    · exact hk s a4 c f (by omega)
    · refine T_if1 (by decide +kernel) ?_
      refine T_let 3652 (by decide +kernel) ?_
      refine T_if1 (z_ixl (n := 4000) (by decide +kernel) (by omega) (by omega)) ?_
      refine T_let (3653 + a5) (gr_3652 a5) ?_
      refine T_if1 (z_ixs (sh_r3652 (by omega)) (by omega) (by omega) (by omega)) ?_
      refine T_leq (fun x10 e11 => ?_)
      have u12 := CI_b c (k := (3653 + a5)) (j := 0) (bds_r3652 (by omega) 0)
      refine T_if1 (by decide +kernel) ?_
      refine T_let 3652 (by decide +kernel) ?_
      refine T_if1 (z_ixl (n := 4000) (by decide +kernel) (by omega) (by omega)) ?_
      refine T_let (3653 + a6) (gr_3652 a6) ?_
      refine T_if1 (z_ixs (sh_r3652 (by omega)) (by omega) (by omega) (by omega)) ?_
      refine T_leq (fun x13 e14 => ?_)
      have u15 := CI_b c (k := (3653 + a6)) (j := 0) (bds_r3652 (by omega) 0)
      refine T_useI (sf_X12_more hfu s c x10 x13 (by omega) (by omega)) (fun v21 s16 hq => ?_)
      obtain ⟨c17, f18, ⟨x20, rfl, b22, b23, o24⟩⟩ := hq
      refine T_vI ?_
      have q25 := z_Fr.eq (fun a b h => h) f18
      subst q25
      refine T_if1 (by decide +kernel) ?_
      refine T_let 3652 (by decide +kernel) ?_
      refine T_if1 (z_ixl (n := 4000) (by decide +kernel) (by omega) (by omega)) ?_
      refine T_let (3653 + a5) (gr_3652 a5) ?_
      refine T_if1 (z_ixs (sh_r3652 (by omega)) (by omega) (by omega) (by omega)) ?_
      refine T_leq (fun x26 e27 => ?_)
      have q28 : x10 = x26 := e11.symm.trans e27
      subst q28
      refine T_if1 (by decide +kernel) ?_
      refine T_let 3652 (by decide +kernel) ?_
      refine T_if1 (z_ixl (n := 4000) (by decide +kernel) (by omega) (by omega)) ?_
      refine T_let (3653 + a5) (gr_3652 a5) ?_
      refine T_if1 (z_ixs (sh_r3652 (by omega)) (by omega) (by omega) (by omega)) ?_
      refine T_leq (fun x29 e30 => ?_)
      have u31 := CI_b c (k := (3653 + a5)) (j := 1) (bds_r3652 (by omega) 1)
      refine T_leq (fun x32 e33 => ?_)
      first | (have w34 := z_wx e33 (by omega)) | (have w34 := z_wr e33)
      refine T_if1 (by decide +kernel) ?_
      refine T_let 3652 (by decide +kernel) ?_
      refine T_if1 (z_ixl (n := 4000) (by decide +kernel) (by omega) (by omega)) ?_
      refine T_let (3653 + a6) (gr_3652 a6) ?_
      refine T_if1 (z_ixs (sh_r3652 (by omega)) (by omega) (by omega) (by omega)) ?_
      refine T_leq (fun x35 e36 => ?_)
      have q37 : x13 = x35 := e14.symm.trans e36
      subst q37
      refine T_if1 (by decide +kernel) ?_
      refine T_let 3652 (by decide +kernel) ?_
      refine T_if1 (z_ixl (n := 4000) (by decide +kernel) (by omega) (by omega)) ?_
      refine T_let (3653 + a6) (gr_3652 a6) ?_
      refine T_if1 (z_ixs (sh_r3652 (by omega)) (by omega) (by omega) (by omega)) ?_
      refine T_leq (fun x38 e39 => ?_)
      have u40 := CI_b c (k := (3653 + a6)) (j := 1) (bds_r3652 (by omega) 1)
      refine T_leq (fun x41 e42 => ?_)
      first | (have w43 := z_wx e42 (by omega)) | (have w43 := z_wr e42)
      refine T_useI (sf_X12_less hfu s c x32 x41 (by omega) (by omega)) (fun v49 s44 hq => ?_)
      obtain ⟨c45, f46, ⟨x48, rfl, b50, b51, o52⟩⟩ := hq
      refine T_vI ?_
      have q53 := z_Fr.eq (fun a b h => h) f46
      subst q53
      refine T_ite (fun h54 => ?_) (fun h54 => ?_)
      · exact sj_X12_clashOf_309_J145 hfu r0 s c f a2 a3 a4 a5 a6 (by omega) (by omega) (by omega) (by omega) (by omega) (2147483647 - a6) (by omega) (fun s' v4 v6 c' f' w4 w6 pg => ih s' v4 v6 c' f' w4 w6 (by omega)) hk
      · refine T_ite (fun h55 => ?_) (fun h55 => ?_)
        · exact sj_X12_clashOf_309_J141 hfu r0 s c f a2 a3 a5 a6 x20 (by omega) (by omega) (by omega) (by omega) (by omega) (2147483647 - a6) (by omega) (fun s' v4 v6 c' f' w4 w6 pg => ih s' v4 v6 c' f' w4 w6 (by omega)) hk
        · refine T_ite (fun h56 => ?_) (fun h56 => ?_)
          · exact sj_X12_clashOf_309_J145 hfu r0 s c f a2 a3 a4 a5 a6 (by omega) (by omega) (by omega) (by omega) (by omega) (2147483647 - a6) (by omega) (fun s' v4 v6 c' f' w4 w6 pg => ih s' v4 v6 c' f' w4 w6 (by omega)) hk
          · exact sj_X12_clashOf_309_J141 hfu r0 s c f a2 a3 a5 a6 x20 (by omega) (by omega) (by omega) (by omega) (by omega) (2147483647 - a6) (by omega) (fun s' v4 v6 c' f' w4 w6 pg => ih s' v4 v6 c' f' w4 w6 (by omega)) hk
theorem sl_X12_clashOf_309_L38 {fu : Nat} (hfu : 8589934592 ≤ fu) (r0 : z_M) (a2 : Int) (a3 : Int) (b2 : 0 ≤ a2 ∧ a2 ≤ 2000) (b3 : 0 ≤ a3 ∧ a3 ≤ 4000) {k : z_M → Int → z_O} (hk : ∀ (s' : z_M) (v4 : Int), z_CI s' → z_Fr R_X12_clashOf_309 r0 s' → (-2147483648 ≤ v4 ∧ v4 ≤ 2147483647) → z_T (k s' v4) (P_X12_clashOf_309 r0)) : ∀ (F : Nat) (s : z_M) (a4 : Int) (a5 : Int), z_CI s → z_Fr R_X12_clashOf_309 r0 s → (-2147483648 ≤ a4 ∧ a4 ≤ 2147483647) → (0 ≤ a5 ∧ a5 ≤ 2000) → (2147483647 - a5 < (F : Int)) → z_T (fX12_clashOf_L38 fu 309 a2 a3 F s a4 a5 k) (P_X12_clashOf_309 r0) := by
  intro F
  induction F with
  | zero =>
    intro s a4 a5 c f b4 b5 hm
    have u26 := CI_b c (k := 309) (j := 20) bd_309_20
    have u27 := CI_b c (k := 309) (j := 44) bd_309_44
    have u28 := CI_b c (k := 309) (j := 58) bd_309_58
    have u29 := CI_b c (k := 316) (j := 0) bd_316_0
    exfalso; omega
  | succ F ih =>
    intro s a4 a5 c f b4 b5 hm
    refine T_of (fX12_clashOf_L38.eq_2 ..) ?_
    have u1 := CI_b c (k := 309) (j := 20) bd_309_20
    have u2 := CI_b c (k := 309) (j := 44) bd_309_44
    have u3 := CI_b c (k := 309) (j := 58) bd_309_58
    have u4 := CI_b c (k := 316) (j := 0) bd_316_0
    have t5 : s 309 20 = r0 309 20 := f 309 20 (by decide)
    have t6 : s 309 44 = r0 309 44 := f 309 44 (by decide)
    have t7 : s 309 58 = r0 309 58 := f 309 58 (by decide)
    have t8 : s 316 0 = r0 316 0 := f 316 0 (by decide)
    refine T_ite (fun h9 => ?_) (fun h9 => ?_)
    · exact hk s a4 c f (by omega)
    · refine sl_X12_clashOf_309_L47 hfu r0 a2 a3 a5 (by omega) (by omega) (by omega) (fun s10 y13 c11 f12 b14 => ?_) fu s a4 a2 c f (by omega) (by omega) (by omega)
      have u15 := CI_b c11 (k := 309) (j := 20) bd_309_20
      have u16 := CI_b c11 (k := 309) (j := 44) bd_309_44
      have u17 := CI_b c11 (k := 309) (j := 58) bd_309_58
      have u18 := CI_b c11 (k := 316) (j := 0) bd_316_0
      have t19 : s10 309 20 = r0 309 20 := f12 309 20 (by decide)
      have t20 : s10 309 44 = r0 309 44 := f12 309 44 (by decide)
      have t21 : s10 309 58 = r0 309 58 := f12 309 58 (by decide)
      have t22 : s10 316 0 = r0 316 0 := f12 316 0 (by decide)
      refine T_leq (fun x23 e24 => ?_)
      first | (have w25 := z_wx e24 (by omega)) | (have w25 := z_wr e24)
      exact ih s10 y13 x23 c11 f12 (by omega) (by omega) (by omega)
theorem sf_X12_clashOf_309 {fu : Nat} (hfu : 8589934592 ≤ fu) (r0 : z_M) (c0 : z_CI r0) (a1 : Int) (b1 : 0 ≤ a1 ∧ a1 ≤ 199) (p0 : y_B r0) (p1 : y_BK r0) (p2 : y_L r0 (r0 309 44)) (p3 : y_TA r0) (p4 : a1 < r0 309 44) : z_T (fX12_clashOf fu r0 309 a1) (P_X12_clashOf_309 r0) := by
  refine T_of (fX12_clashOf.eq_1 ..) ?_
  have u1 := CI_b c0 (k := 309) (j := 20) bd_309_20
  have u2 := CI_b c0 (k := 309) (j := 44) bd_309_44
  have u3 := CI_b c0 (k := 309) (j := 58) bd_309_58
  have u4 := CI_b c0 (k := 316) (j := 0) bd_316_0
  refine T_leq (fun x5 e6 => ?_)
  first | (have w7 := z_wx e6 (by omega)) | (have w7 := z_wr e6)
  refine T_if1 (by decide +kernel) ?_
  refine T_leq (fun x8 e9 => ?_)
  have u10 := CI_b c0 (k := 309) (j := 44) bd_309_44
  refine T_ite (fun h11 => ?_) (fun h11 => ?_)
  · refine T_if1 (by decide +kernel) ?_
    refine T_useI (sf_X12_sideOf_309 hfu r0 c0 a1 1 (by omega) (by omega) p0 p1 (by first | exact y_L.cg p2 (by omega)) p3 (by omega)) (fun v17 s12 hq => ?_)
    obtain ⟨c13, f14, ⟨x16, rfl, b18, b19, o20⟩⟩ := hq
    refine T_vI ?_
    have f15 := z_Fr.tr (R := R_X12_clashOf_309) z_Fr.rf f14 rs_X12_sideOf_309__X12_clashOf_309
    have t21 : s12 309 20 = r0 309 20 := f14 309 20 (by decide)
    have t22 : s12 309 44 = x8 := (f14 309 44 (by decide)).trans e9
    have t23 : s12 309 58 = r0 309 58 := f14 309 58 (by decide)
    have t24 : s12 316 0 = r0 316 0 := f14 316 0 (by decide)
    have r25 := y_B.fr p0 (f14 309 20 (by decide)) (f14 316 0 (by decide)) (fun b => f14 3220 b (nr_X12_sideOf_309__3220 b)) (fun b => f14 3221 b (nr_X12_sideOf_309__3221 b)) (fun b => f14 3222 b (nr_X12_sideOf_309__3222 b)) (fun b => f14 361 b (nr_X12_sideOf_309__361 b))
    have r26 := y_BK.fr p1 (by omega) (f14 309 20 (by decide)) (f14 309 58 (by decide)) (fun b => f14 3220 b (nr_X12_sideOf_309__3220 b)) (fun a b h => f14 a b (nq_X12_sideOf_309__3452 a b h))
    have r27 := y_L.fr p2 (f14 309 20 (by decide)) (fun b => f14 3438 b (nr_X12_sideOf_309__3438 b))
    have r28 := y_TA.fr p3 (fun a b h => f14 a b (nq_X12_sideOf_309__316 a b h)) (fun a b h => f14 a b (nq_X12_sideOf_309__346 a b h)) (fun a b h => f14 a b (nq_X12_sideOf_309__361 a b h))
    refine T_leq (fun x29 e30 => ?_)
    have q31 : x5 = x29 := e6.symm.trans e30
    subst q31
    refine T_if1 (by decide +kernel) ?_
    refine T_useI (sf_X12_laysSide_309 hfu s12 c13 x5 0 (by omega) (by omega) r25 r26 (by first | exact y_L.cg r27 (by omega)) r28 (by omega) (by omega)) (fun v37 s32 hq => ?_)
    obtain ⟨c33, f34, o38, o39, ⟨x36, rfl, b40, b41, o42⟩⟩ := hq
    refine T_vI ?_
    have f35 := z_Fr.tr (R := R_X12_clashOf_309) f15 f34 rs_X12_laysSide_309__X12_clashOf_309
    have t43 : s32 309 20 = r0 309 20 := (f34 309 20 (by decide)).trans t21
    have t44 : s32 309 44 = x8 := (f34 309 44 (by decide)).trans t22
    have t45 : s32 309 58 = r0 309 58 := (f34 309 58 (by decide)).trans t23
    have t46 : s32 316 0 = r0 316 0 := (f34 316 0 (by decide)).trans t24
    have r47 := y_B.fr r25 (f34 309 20 (by decide)) (f34 316 0 (by decide)) (fun b => f34 3220 b (nr_X12_laysSide_309__3220 b)) (fun b => f34 3221 b (nr_X12_laysSide_309__3221 b)) (fun b => f34 3222 b (nr_X12_laysSide_309__3222 b)) (fun b => f34 361 b (nr_X12_laysSide_309__361 b))
    have r48 := y_BK.fr r26 (by omega) (f34 309 20 (by decide)) (f34 309 58 (by decide)) (fun b => f34 3220 b (nr_X12_laysSide_309__3220 b)) (fun a b h => f34 a b (nq_X12_laysSide_309__3452 a b h))
    have r49 := y_L.fr r27 (f34 309 20 (by decide)) (fun b => f34 3438 b (nr_X12_laysSide_309__3438 b))
    have r50 := y_TA.fr r28 (fun a b h => f34 a b (nq_X12_laysSide_309__316 a b h)) (fun a b h => f34 a b (nq_X12_laysSide_309__346 a b h)) (fun a b h => f34 a b (nq_X12_laysSide_309__361 a b h))
    clear t21
    clear t22
    clear t23
    clear t24
    refine sl_X12_clashOf_309_L38 hfu r0 x16 x36 (by omega) (by omega) (fun s51 y54 c52 f53 b55 => ?_) fu s32 (-1000) 0 c33 f35 (by omega) (by omega) (by omega)
    have u56 := CI_b c52 (k := 309) (j := 20) bd_309_20
    have u57 := CI_b c52 (k := 309) (j := 44) bd_309_44
    have u58 := CI_b c52 (k := 309) (j := 58) bd_309_58
    have u59 := CI_b c52 (k := 316) (j := 0) bd_316_0
    have t60 : s51 309 20 = r0 309 20 := f53 309 20 (by decide)
    have t61 : s51 309 44 = r0 309 44 := f53 309 44 (by decide)
    have t62 : s51 309 58 = r0 309 58 := f53 309 58 (by decide)
    have t63 : s51 316 0 = r0 316 0 := f53 316 0 (by decide)
    exact T_ret ⟨c52, f53, ⟨y54, rfl, by omega, by omega⟩⟩
  · exact T_ret ⟨c0, z_Fr.rf, ⟨(-1000), rfl, by omega, by omega⟩⟩
