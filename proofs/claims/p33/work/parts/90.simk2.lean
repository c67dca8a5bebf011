/-! what the reference has kept stays right: its functions once more (by program, wip/tool/mksim.py, simspeck) -/
theorem sl_X12_laysLine_309K_L278 {fu : Nat} (hfu : 8589934592 ≤ fu) (r0 : z_M) (a1 : Int) (a3 : Int) (a5 : Int) (a6 : Int) (a7 : Int) (a8 : Int) (a9 : Int) (a10 : Int) (b1 : 0 ≤ a1 ∧ a1 ≤ 199) (b3 : 0 ≤ a3 ∧ a3 ≤ 199) (b5 : -2147483648 ≤ a5 ∧ a5 ≤ 2147483647) (b6 : -2147483648 ≤ a6 ∧ a6 ≤ 2147483647) (b7 : -2147483648 ≤ a7 ∧ a7 ≤ 2147483647) (b8 : 0 ≤ a8 ∧ a8 ≤ 1) (b9 : -2147483648 ≤ a9 ∧ a9 ≤ 2147483647) (b10 : 0 ≤ a10 ∧ a10 ≤ 199) {k : z_M → z_O} (hk : ∀ (s' : z_M), z_CI s' → z_Fr R_X12_laysLine_309 r0 s' → (y_BX s' (a10 + 1) a3) → (a3 < s' 309 20) → (y_B s') → (y_L s' (s' 309 44)) → (y_E s' a10 a3) → (y_LE s' a1 a3) → (s' 309 43 = 0 ∨ s' 309 36 = 0 ∨ (r0 309 36 ≠ 0 ∧ r0 309 43 ≠ 0)) → (r0 309 36 = 0 ∨ s' 309 36 ≠ 0) → (y_KM s') → z_T (k s') (P_X12_laysLine_309K r0 a1)) : ∀ (F : Nat) (s : z_M) (a11 : Int) (a12 : Int), z_CI s → z_Fr R_X12_laysLine_309 r0 s → (-2147483648 ≤ a11 ∧ a11 ≤ 2147483647) → (0 ≤ a12 ∧ a12 ≤ 200) → (a10 ≤ a3) → (y_BX s (a10 + 1) a3) → (a3 < s 309 20) → (y_B s) → (y_L s (s 309 44)) → (y_E s a10 a3) → (y_LE s a1 a3) → (s 309 43 = 0 ∨ s 309 36 = 0 ∨ (r0 309 36 ≠ 0 ∧ r0 309 43 ≠ 0)) → (r0 309 36 = 0 ∨ s 309 36 ≠ 0) → (y_KM s) → (2147483647 - a12 < (F : Int)) → z_T (fX12_laysLine_L278 fu 309 a1 a3 a5 a6 a7 a8 a9 a10 F s a11 a12 k) (P_X12_laysLine_309K r0 a1) := by
  intro F
  induction F with
  | zero =>
    intro s a11 a12 c f b11 b12 i0 i1 i2 i3 i4 i5 i6 i7 i8 i9 hm
    have u58 := CI_b c (k := 309) (j := 20) bd_309_20
    have u59 := CI_b c (k := 309) (j := 36) bd_309_36
    have u60 := CI_b c (k := 309) (j := 43) bd_309_43
    have u61 := CI_b c (k := 309) (j := 44) bd_309_44
    have u62 := CI_b c (k := 309) (j := 58) bd_309_58
    have u63 := CI_b c (k := 316) (j := 0) bd_316_0
    exfalso; omega
  | succ F ih =>
    intro s a11 a12 c f b11 b12 i0 i1 i2 i3 i4 i5 i6 i7 i8 i9 hm
    refine T_of (fX12_laysLine_L278.eq_2 ..) ?_
    have u1 := CI_b c (k := 309) (j := 20) bd_309_20
    have u2 := CI_b c (k := 309) (j := 36) bd_309_36
    have u3 := CI_b c (k := 309) (j := 43) bd_309_43
    have u4 := CI_b c (k := 309) (j := 44) bd_309_44
    have u5 := CI_b c (k := 309) (j := 58) bd_309_58
    have u6 := CI_b c (k := 316) (j := 0) bd_316_0
    have t7 : s 309 20 = r0 309 20 := f 309 20 (by decide)
    have t8 : s 309 44 = r0 309 44 := f 309 44 (by decide)
    have t9 : s 316 0 = r0 316 0 := f 316 0 (by decide)
    have n10 := y_B.at i3 (u := a10) (by omega) (by omega)
    refine T_if1 (by decide +kernel) ?_
    refine T_let 3221 (by decide +kernel) ?_
    refine T_if1 (z_ixl (n := 200) (by decide +kernel) (by omega) (by omega)) ?_
    refine T_leq (fun x11 e12 => ?_)
    have u13 := CI_b c (k := 3221) (j := a10) (bdr_3221 a10)
    refine T_if1 (by decide +kernel) ?_
    refine T_let 3222 (by decide +kernel) ?_
    refine T_if1 (z_ixl (n := 200) (by decide +kernel) (by omega) (by omega)) ?_
    refine T_leq (fun x14 e15 => ?_)
    have u16 := CI_b c (k := 3222) (j := a10) (bdr_3222 a10)
    refine T_leq (fun x17 e18 => ?_)
    first | (have w19 := z_wx e18 (by omega)) | (have w19 := z_wr e18)
    refine T_ite (fun h20 => ?_) (fun h20 => ?_)
    · exact hk s c f (by first | exact y_BX.cg i1 (by omega) (by omega)) (by omega) i3 (by first | exact y_L.cg i4 (by omega)) (by first | exact y_E.cg i5 (by omega) (by omega)) (by first | exact y_LE.cg i6 (by omega) (by omega)) (by omega) (by omega) (by first | exact i9 | exact y_KM.z (by omega))
    · refine T_if1 (by decide +kernel) ?_
      refine T_let 3443 (by decide +kernel) ?_
      refine T_if1 (z_ixl (n := 200) (by decide +kernel) (by omega) (by omega)) ?_
      refine T_upg c (bdr_3443 a12) (by omega) (fun s21 c22 g24 g25 e26 => ?_)
      have f23 := z_Fr.up (R := R_X12_laysLine_309) f g24 (fun _ => (Or.inr (Or.inl (⟨by decide, by decide⟩))))
      have t27 : s21 309 20 = s 309 20 := g24 309 20 (by decide)
      have t28 : s21 309 36 = s 309 36 := g24 309 36 (by decide)
      have t29 : s21 309 43 = s 309 43 := g24 309 43 (by decide)
      have t30 : s21 309 44 = s 309 44 := g24 309 44 (by decide)
      have t31 : s21 309 58 = s 309 58 := g24 309 58 (by decide)
      have t32 : s21 316 0 = s 316 0 := g24 316 0 (by decide)
      have r33 := y_BX.fr i1 (by omega) (g24 309 58 (by decide)) (fun b => g24 3220 b (by decide)) (fun b => g24 3229 b (by decide)) (fun a b h => g24 a b (by omega))
      have r34 := y_B.fr i3 (g24 309 20 (by decide)) (g24 316 0 (by decide)) (fun b => g24 3220 b (by decide)) (fun b => g24 3221 b (by decide)) (fun b => g24 3222 b (by decide)) (fun b => g24 361 b (by decide))
      have r35 := y_L.fr i4 (g24 309 20 (by decide)) (fun b => g24 3438 b (by decide))
      have r36 := y_E.fr i5 (fun b => g24 3229 b (by decide)) (fun b => g24 3220 b (by decide))
      have r37 := y_LE.fr i6 (fun b => g24 3438 b (by decide))
      have r38 := y_KM.fr i9 (g24 309 20 (by decide)) (g24 309 36 (by decide)) (g24 309 38 (by decide)) (g24 309 39 (by decide)) (fun b => g24 312 b (by decide)) (fun b => g24 331 b (by decide)) (fun b => g24 346 b (by decide)) (fun b => g24 361 b (by decide)) (fun b => g24 391 b (by decide)) (fun a b h => g24 a b (by omega)) (fun a b h => g24 a b (by omega)) (fun a b h => g24 a b (by omega))
      refine T_if1 (by decide +kernel) ?_
      refine T_useI (sf_X12_isAcross_309 hfu s21 c22 a10 (by omega)) (fun v44 s39 hq => ?_)
      obtain ⟨c40, f41, ⟨x43, rfl, b45, b46⟩⟩ := hq
      refine T_vI ?_
      have q47 := z_Fr.eq (fun a b h => h) f41
      subst q47
      refine T_ite (fun h48 => ?_) (fun h48 => ?_)
      · refine T_if1 (by decide +kernel) ?_
        refine T_useI (sf_X12_signLong_309 hfu s21 c22 a12 (by omega)) (fun v54 s49 hq => ?_)
        obtain ⟨c50, f51, ⟨x53, rfl, b55, b56⟩⟩ := hq
        refine T_vI ?_
        have q57 := z_Fr.eq (fun a b h => h) f51
        subst q57
        exact sj_X12_laysLine_309K_J328 hfu r0 s21 c22 f23 a1 a3 a5 a6 a7 a8 a9 a10 a12 a11 x53 (by omega) (by omega) (by omega) (by omega) (by omega) (by omega) (by omega) (by omega) (by omega) (by omega) (by omega) (by omega) (by first | exact y_BX.cg r33 (by omega) (by omega)) (by omega) r34 (by first | exact y_L.cg r35 (by omega)) (by first | exact y_E.cg r36 (by omega) (by omega)) (by first | exact y_LE.cg r37 (by omega) (by omega)) (by omega) (by omega) (by first | exact r38 | exact y_KM.z (by omega)) (2147483647 - a12) (by omega) (fun s' v11 v12 c' f' w11 w12 z0 z1 z2 z3 z4 z5 z6 z7 z8 z9 pg => ih s' v11 v12 c' f' w11 w12 z0 z1 z2 z3 z4 z5 z6 z7 z8 z9 (by omega)) hk
      · exact sj_X12_laysLine_309K_J328 hfu r0 s21 c22 f23 a1 a3 a5 a6 a7 a8 a9 a10 a12 a11 0 (by omega) (by omega) (by omega) (by omega) (by omega) (by omega) (by omega) (by omega) (by omega) (by omega) (by omega) (by omega) (by first | exact y_BX.cg r33 (by omega) (by omega)) (by omega) r34 (by first | exact y_L.cg r35 (by omega)) (by first | exact y_E.cg r36 (by omega) (by omega)) (by first | exact y_LE.cg r37 (by omega) (by omega)) (by omega) (by omega) (by first | exact r38 | exact y_KM.z (by omega)) (2147483647 - a12) (by omega) (fun s' v11 v12 c' f' w11 w12 z0 z1 z2 z3 z4 z5 z6 z7 z8 z9 pg => ih s' v11 v12 c' f' w11 w12 z0 z1 z2 z3 z4 z5 z6 z7 z8 z9 (by omega)) hk
theorem sj_X12_laysLine_309K_J436 {fu : Nat} (hfu : 8589934592 ≤ fu) (r0 s : z_M) (c : z_CI s) (f : z_Fr R_X12_laysLine_309 r0 s) (a1 : Int) (a3 : Int) (a5 : Int) (a6 : Int) (a7 : Int) (a8 : Int) (a9 : Int) (a10 : Int) (b1 : 0 ≤ a1 ∧ a1 ≤ 199) (b3 : 0 ≤ a3 ∧ a3 ≤ 199) (b5 : -2147483648 ≤ a5 ∧ a5 ≤ 2147483647) (b6 : -2147483648 ≤ a6 ∧ a6 ≤ 2147483647) (b7 : -2147483648 ≤ a7 ∧ a7 ≤ 2147483647) (b8 : 0 ≤ a8 ∧ a8 ≤ 1) (b9 : -2147483648 ≤ a9 ∧ a9 ≤ 2147483647) (b10 : 0 ≤ a10 ∧ a10 ≤ 199) (p0 : a10 ≤ a3) (p1 : y_BX s (a10 + 1) a3) (p2 : a8 = 0 ∨ 1 ≤ a5) (p3 : a3 < s 309 20) (p4 : y_B s) (p5 : y_L s (s 309 44)) (p6 : y_E s a10 a3) (p7 : y_LE s a1 a3) (p8 : s 309 43 = 0 ∨ s 309 36 = 0 ∨ (r0 309 36 ≠ 0 ∧ r0 309 43 ≠ 0)) (p9 : r0 309 36 = 0 ∨ s 309 36 ≠ 0) (p10 : y_KM s) (M : Int) (pm : 2147483647 - a10 ≤ M) {r : z_M → Int → Int → Int → z_O} {k : z_M → z_O} (hr : ∀ (s' : z_M) (v7 : Int) (v9 : Int) (v10 : Int), z_CI s' → z_Fr R_X12_laysLine_309 r0 s' → (-2147483648 ≤ v7 ∧ v7 ≤ 2147483647) → (-2147483648 ≤ v9 ∧ v9 ≤ 2147483647) → (0 ≤ v10 ∧ v10 ≤ 200) → (v10 ≤ a3 + 1) → (y_BX s' v10 a3) → (a8 = 0 ∨ 1 ≤ a5) → (a3 < s' 309 20) → (y_B s') → (y_L s' (s' 309 44)) → (y_E s' v10 a3) → (y_LE s' a1 a3) → (s' 309 43 = 0 ∨ s' 309 36 = 0 ∨ (r0 309 36 ≠ 0 ∧ r0 309 43 ≠ 0)) → (r0 309 36 = 0 ∨ s' 309 36 ≠ 0) → (y_KM s') → (2147483647 - v10 < M) → z_T (r s' v7 v9 v10) (P_X12_laysLine_309K r0 a1)) (hk : ∀ (s' : z_M), z_CI s' → z_Fr R_X12_laysLine_309 r0 s' → (y_BL s' (a1 + 1)) → (s' 309 43 = 0 ∨ s' 309 36 = 0 ∨ (r0 309 36 ≠ 0 ∧ r0 309 43 ≠ 0)) → (r0 309 36 = 0 ∨ s' 309 36 ≠ 0) → (y_KM s') → z_T (k s') (P_X12_laysLine_309K r0 a1)) : z_T (fX12_laysLine_J436 fu s 309 a1 a3 a5 a6 a7 a8 a9 a10 r k) (P_X12_laysLine_309K r0 a1) := by
  refine T_of (fX12_laysLine_J436.eq_1 ..) ?_
  have u1 := CI_b c (k := 309) (j := 20) bd_309_20
  have u2 := CI_b c (k := 309) (j := 36) bd_309_36
  have u3 := CI_b c (k := 309) (j := 43) bd_309_43
  have u4 := CI_b c (k := 309) (j := 44) bd_309_44
  have u5 := CI_b c (k := 309) (j := 58) bd_309_58
  have u6 := CI_b c (k := 316) (j := 0) bd_316_0
  have t7 : s 309 20 = r0 309 20 := f 309 20 (by decide)
  have t8 : s 309 44 = r0 309 44 := f 309 44 (by decide)
  have t9 : s 316 0 = r0 316 0 := f 316 0 (by decide)
  refine T_leq (fun x10 e11 => ?_)
  first | (have w12 := z_wx e11 (by omega)) | (have w12 := z_wr e11)
  exact hr s a7 a9 x10 c f (by omega) (by omega) (by omega) (by omega) (by first | exact y_BX.cg p1 (by omega) (by omega)) (by omega) (by omega) p4 (by first | exact y_L.cg p5 (by omega)) (by first | exact y_E.cg p6 (by omega) (by omega)) (by first | exact y_LE.cg p7 (by omega) (by omega)) (by omega) (by omega) (by first | exact p10 | exact y_KM.z (by omega)) (by omega)
theorem sj_X12_laysLine_309K_J429 {fu : Nat} (hfu : 8589934592 ≤ fu) (r0 s : z_M) (c : z_CI s) (f : z_Fr R_X12_laysLine_309 r0 s) (a1 : Int) (a3 : Int) (a5 : Int) (a6 : Int) (a8 : Int) (a9 : Int) (a10 : Int) (t0 : Int) (t1 : Int) (t2 : Int) (b1 : 0 ≤ a1 ∧ a1 ≤ 199) (b3 : 0 ≤ a3 ∧ a3 ≤ 199) (b5 : -2147483648 ≤ a5 ∧ a5 ≤ 2147483647) (b6 : -2147483648 ≤ a6 ∧ a6 ≤ 2147483647) (b8 : 0 ≤ a8 ∧ a8 ≤ 1) (b9 : -2147483648 ≤ a9 ∧ a9 ≤ 2147483647) (b10 : 0 ≤ a10 ∧ a10 ≤ 199) (d0 : -2147483648 ≤ t0 ∧ t0 ≤ 2147483647) (d1 : -2147483648 ≤ t1 ∧ t1 ≤ 2147483647) (d2 : 0 ≤ t2 ∧ t2 ≤ 1) (p0 : a10 ≤ a3) (p1 : y_BX s (a10 + 1) a3) (p2 : a8 = 0 ∨ 1 ≤ a5) (p3 : a3 < s 309 20) (p4 : y_B s) (p5 : y_L s (s 309 44)) (p6 : y_E s a10 a3) (p7 : y_LE s a1 a3) (p8 : s 309 43 = 0 ∨ s 309 36 = 0 ∨ (r0 309 36 ≠ 0 ∧ r0 309 43 ≠ 0)) (p9 : r0 309 36 = 0 ∨ s 309 36 ≠ 0) (p10 : y_KM s) (M : Int) (pm : 2147483647 - a10 ≤ M) {r : z_M → Int → Int → Int → z_O} {k : z_M → z_O} (hr : ∀ (s' : z_M) (v7 : Int) (v9 : Int) (v10 : Int), z_CI s' → z_Fr R_X12_laysLine_309 r0 s' → (-2147483648 ≤ v7 ∧ v7 ≤ 2147483647) → (-2147483648 ≤ v9 ∧ v9 ≤ 2147483647) → (0 ≤ v10 ∧ v10 ≤ 200) → (v10 ≤ a3 + 1) → (y_BX s' v10 a3) → (a8 = 0 ∨ 1 ≤ a5) → (a3 < s' 309 20) → (y_B s') → (y_L s' (s' 309 44)) → (y_E s' v10 a3) → (y_LE s' a1 a3) → (s' 309 43 = 0 ∨ s' 309 36 = 0 ∨ (r0 309 36 ≠ 0 ∧ r0 309 43 ≠ 0)) → (r0 309 36 = 0 ∨ s' 309 36 ≠ 0) → (y_KM s') → (2147483647 - v10 < M) → z_T (r s' v7 v9 v10) (P_X12_laysLine_309K r0 a1)) (hk : ∀ (s' : z_M), z_CI s' → z_Fr R_X12_laysLine_309 r0 s' → (y_BL s' (a1 + 1)) → (s' 309 43 = 0 ∨ s' 309 36 = 0 ∨ (r0 309 36 ≠ 0 ∧ r0 309 43 ≠ 0)) → (r0 309 36 = 0 ∨ s' 309 36 ≠ 0) → (y_KM s') → z_T (k s') (P_X12_laysLine_309K r0 a1)) : z_T (fX12_laysLine_J429 fu s 309 a1 a3 a5 a6 a8 a9 a10 t0 t1 t2 r k) (P_X12_laysLine_309K r0 a1) := by
  refine T_of (fX12_laysLine_J429.eq_1 ..) ?_
  have u1 := CI_b c (k := 309) (j := 20) bd_309_20
  have u2 := CI_b c (k := 309) (j := 36) bd_309_36
  have u3 := CI_b c (k := 309) (j := 43) bd_309_43
  have u4 := CI_b c (k := 309) (j := 44) bd_309_44
  have u5 := CI_b c (k := 309) (j := 58) bd_309_58
  have u6 := CI_b c (k := 316) (j := 0) bd_316_0
  have t7 : s 309 20 = r0 309 20 := f 309 20 (by decide)
  have t8 : s 309 44 = r0 309 44 := f 309 44 (by decide)
  have t9 : s 316 0 = r0 316 0 := f 316 0 (by decide)
  refine T_leq (fun x10 e11 => ?_)
  first | (have w12 := z_wx e11 (by omega)) | (have w12 := z_wr e11)
  refine T_leq (fun x13 e14 => ?_)
  first | (have w15 := z_wx e14 (by omega)) | (have w15 := z_wr e14)
  refine T_leq (fun x16 e17 => ?_)
  first | (have w18 := z_wx e17 (by omega)) | (have w18 := z_wr e17)
  exact sj_X12_laysLine_309K_J436 hfu r0 s c f a1 a3 a5 a6 x13 a8 x16 a10 (by omega) (by omega) (by omega) (by omega) (by omega) (by omega) (by omega) (by omega) (by omega) (by first | exact y_BX.cg p1 (by omega) (by omega)) (by omega) (by omega) p4 (by first | exact y_L.cg p5 (by omega)) (by first | exact y_E.cg p6 (by omega) (by omega)) (by first | exact y_LE.cg p7 (by omega) (by omega)) (by omega) (by omega) (by first | exact p10 | exact y_KM.z (by omega)) M (by omega) (fun s' v7 v9 v10 c' f' w7 w9 w10 z0 z1 z2 z3 z4 z5 z6 z7 z8 z9 z10 pg => hr s' v7 v9 v10 c' f' w7 w9 w10 z0 z1 z2 z3 z4 z5 z6 z7 z8 z9 z10 (by omega)) hk
set_option maxHeartbeats 4000000 in
theorem sj_X12_laysLine_309K_J192 {fu : Nat} (hfu : 8589934592 ≤ fu) (r0 s : z_M) (c : z_CI s) (f : z_Fr R_X12_laysLine_309 r0 s) (a1 : Int) (a3 : Int) (a5 : Int) (a6 : Int) (a7 : Int) (a8 : Int) (a9 : Int) (a10 : Int) (b1 : 0 ≤ a1 ∧ a1 ≤ 199) (b3 : 0 ≤ a3 ∧ a3 ≤ 199) (b5 : -2147483648 ≤ a5 ∧ a5 ≤ 2147483647) (b6 : -2147483648 ≤ a6 ∧ a6 ≤ 2147483647) (b7 : -2147483648 ≤ a7 ∧ a7 ≤ 2147483647) (b8 : 0 ≤ a8 ∧ a8 ≤ 1) (b9 : -2147483648 ≤ a9 ∧ a9 ≤ 2147483647) (b10 : 0 ≤ a10 ∧ a10 ≤ 199) (p0 : a10 ≤ a3) (p1 : y_BX s (a10 + 1) a3) (p2 : a8 = 0 ∨ 1 ≤ a5) (p3 : a3 < s 309 20) (p4 : y_B s) (p5 : y_L s (s 309 44)) (p6 : y_E s a10 a3) (p7 : y_LE s a1 a3) (p8 : s 309 43 = 0 ∨ s 309 36 = 0 ∨ (r0 309 36 ≠ 0 ∧ r0 309 43 ≠ 0)) (p9 : r0 309 36 = 0 ∨ s 309 36 ≠ 0) (p10 : y_KM s) (M : Int) (pm : 2147483647 - a10 ≤ M) {r : z_M → Int → Int → Int → z_O} {k : z_M → z_O} (hr : ∀ (s' : z_M) (v7 : Int) (v9 : Int) (v10 : Int), z_CI s' → z_Fr R_X12_laysLine_309 r0 s' → (-2147483648 ≤ v7 ∧ v7 ≤ 2147483647) → (-2147483648 ≤ v9 ∧ v9 ≤ 2147483647) → (0 ≤ v10 ∧ v10 ≤ 200) → (v10 ≤ a3 + 1) → (y_BX s' v10 a3) → (a8 = 0 ∨ 1 ≤ a5) → (a3 < s' 309 20) → (y_B s') → (y_L s' (s' 309 44)) → (y_E s' v10 a3) → (y_LE s' a1 a3) → (s' 309 43 = 0 ∨ s' 309 36 = 0 ∨ (r0 309 36 ≠ 0 ∧ r0 309 43 ≠ 0)) → (r0 309 36 = 0 ∨ s' 309 36 ≠ 0) → (y_KM s') → (2147483647 - v10 < M) → z_T (r s' v7 v9 v10) (P_X12_laysLine_309K r0 a1)) (hk : ∀ (s' : z_M), z_CI s' → z_Fr R_X12_laysLine_309 r0 s' → (y_BL s' (a1 + 1)) → (s' 309 43 = 0 ∨ s' 309 36 = 0 ∨ (r0 309 36 ≠ 0 ∧ r0 309 43 ≠ 0)) → (r0 309 36 = 0 ∨ s' 309 36 ≠ 0) → (y_KM s') → z_T (k s') (P_X12_laysLine_309K r0 a1)) : z_T (fX12_laysLine_J192 fu s 309 a1 a3 a5 a6 a7 a8 a9 a10 r k) (P_X12_laysLine_309K r0 a1) := by
  refine T_of (fX12_laysLine_J192.eq_1 ..) ?_
  have u1 := CI_b c (k := 309) (j := 20) bd_309_20
  have u2 := CI_b c (k := 309) (j := 36) bd_309_36
  have u3 := CI_b c (k := 309) (j := 43) bd_309_43
  have u4 := CI_b c (k := 309) (j := 44) bd_309_44
  have u5 := CI_b c (k := 309) (j := 58) bd_309_58
  have u6 := CI_b c (k := 316) (j := 0) bd_316_0
  have t7 : s 309 20 = r0 309 20 := f 309 20 (by decide)
  have t8 : s 309 44 = r0 309 44 := f 309 44 (by decide)
  have t9 : s 316 0 = r0 316 0 := f 316 0 (by decide)
  refine T_if1 (by decide +kernel) ?_
  refine T_let 3227 (by decide +kernel) ?_
  refine T_if1 (z_ixl (n := 200) (by decide +kernel) (by omega) (by omega)) ?_
  refine T_leq (fun x10 e11 => ?_)
  have u12 := CI_b c (k := 3227) (j := a10) (bdr_3227 a10)
  refine T_if1 (by decide +kernel) ?_
  refine T_let 3225 (by decide +kernel) ?_
  refine T_if1 (z_ixl (n := 200) (by decide +kernel) (by omega) (by omega)) ?_
  refine T_leq (fun x13 e14 => ?_)
  have u15 := CI_b c (k := 3225) (j := a10) (bdr_3225 a10)
  refine T_leq (fun x16 e17 => ?_)
  first | (have w18 := z_wx e17 (by omega)) | (have w18 := z_wr e17)
  refine T_leq (fun x19 e20 => ?_)
  first | (have w21 := z_wx e20 (by omega)) | (have w21 := z_wr e20)
  refine T_if1 (by decide +kernel) ?_
  refine T_let 3441 (by decide +kernel) ?_
  refine T_if1 (z_ixl (n := 200) (by decide +kernel) (by omega) (by omega)) ?_
  refine T_upg c (bdr_3441 a10) (by omega) (fun s22 c23 g25 g26 e27 => ?_)
  have f24 := z_Fr.up (R := R_X12_laysLine_309) f g25 (fun _ => (Or.inr (Or.inl (⟨by decide, by decide⟩))))
  have t28 : s22 309 20 = s 309 20 := g25 309 20 (by decide)
  have t29 : s22 309 36 = s 309 36 := g25 309 36 (by decide)
  have t30 : s22 309 43 = s 309 43 := g25 309 43 (by decide)
  have t31 : s22 309 44 = s 309 44 := g25 309 44 (by decide)
  have t32 : s22 309 58 = s 309 58 := g25 309 58 (by decide)
  have t33 : s22 316 0 = s 316 0 := g25 316 0 (by decide)
  have r34 := y_BX.fr p1 (by omega) (g25 309 58 (by decide)) (fun b => g25 3220 b (by decide)) (fun b => g25 3229 b (by decide)) (fun a b h => g25 a b (by omega))
  have r35 := y_B.fr p4 (g25 309 20 (by decide)) (g25 316 0 (by decide)) (fun b => g25 3220 b (by decide)) (fun b => g25 3221 b (by decide)) (fun b => g25 3222 b (by decide)) (fun b => g25 361 b (by decide))
  have r36 := y_L.fr p5 (g25 309 20 (by decide)) (fun b => g25 3438 b (by decide))
  have r37 := y_E.fr p6 (fun b => g25 3229 b (by decide)) (fun b => g25 3220 b (by decide))
  have r38 := y_LE.fr p7 (fun b => g25 3438 b (by decide))
  have r39 := y_KM.fr p10 (g25 309 20 (by decide)) (g25 309 36 (by decide)) (g25 309 38 (by decide)) (g25 309 39 (by decide)) (fun b => g25 312 b (by decide)) (fun b => g25 331 b (by decide)) (fun b => g25 346 b (by decide)) (fun b => g25 361 b (by decide)) (fun b => g25 391 b (by decide)) (fun a b h => g25 a b (by omega)) (fun a b h => g25 a b (by omega)) (fun a b h => g25 a b (by omega))
  refine T_if1 (by decide +kernel) ?_
  refine T_let 3442 (by decide +kernel) ?_
  refine T_if1 (z_ixl (n := 200) (by decide +kernel) (by omega) (by omega)) ?_
  refine T_upg c23 (bdr_3442 a10) (by omega) (fun s40 c41 g43 g44 e45 => ?_)
  have f42 := z_Fr.up (R := R_X12_laysLine_309) f24 g43 (fun _ => (Or.inr (Or.inl (⟨by decide, by decide⟩))))
  have t46 : s40 309 20 = s 309 20 := (g43 309 20 (by decide)).trans t28
  have t47 : s40 309 36 = s 309 36 := (g43 309 36 (by decide)).trans t29
  have t48 : s40 309 43 = s 309 43 := (g43 309 43 (by decide)).trans t30
  have t49 : s40 309 44 = s 309 44 := (g43 309 44 (by decide)).trans t31
  have t50 : s40 309 58 = s 309 58 := (g43 309 58 (by decide)).trans t32
  have t51 : s40 316 0 = s 316 0 := (g43 316 0 (by decide)).trans t33
  have r52 := y_BX.fr r34 (by omega) (g43 309 58 (by decide)) (fun b => g43 3220 b (by decide)) (fun b => g43 3229 b (by decide)) (fun a b h => g43 a b (by omega))
  have r53 := y_B.fr r35 (g43 309 20 (by decide)) (g43 316 0 (by decide)) (fun b => g43 3220 b (by decide)) (fun b => g43 3221 b (by decide)) (fun b => g43 3222 b (by decide)) (fun b => g43 361 b (by decide))
  have r54 := y_L.fr r36 (g43 309 20 (by decide)) (fun b => g43 3438 b (by decide))
  have r55 := y_E.fr r37 (fun b => g43 3229 b (by decide)) (fun b => g43 3220 b (by decide))
  have r56 := y_LE.fr r38 (fun b => g43 3438 b (by decide))
  have r57 := y_KM.fr r39 (g43 309 20 (by decide)) (g43 309 36 (by decide)) (g43 309 38 (by decide)) (g43 309 39 (by decide)) (fun b => g43 312 b (by decide)) (fun b => g43 331 b (by decide)) (fun b => g43 346 b (by decide)) (fun b => g43 361 b (by decide)) (fun b => g43 391 b (by decide)) (fun a b h => g43 a b (by omega)) (fun a b h => g43 a b (by omega)) (fun a b h => g43 a b (by omega))
  clear t28
  clear t29
  clear t30
  clear t31
  clear t32
  clear t33
  refine T_if1 (by decide +kernel) ?_
  refine T_let 3444 (by decide +kernel) ?_
  refine T_if1 (by decide +kernel) ?_
  refine T_let 3225 (by decide +kernel) ?_
  refine T_if1 (z_ixl (n := 200) (by decide +kernel) (by omega) (by omega)) ?_
  refine T_leq (fun x58 e59 => ?_)
  have u60 := CI_b c41 (k := 3225) (j := a10) (bdr_3225 a10)
  refine T_if1 (by decide +kernel) ?_
  refine T_let 3226 (by decide +kernel) ?_
  refine T_if1 (z_ixl (n := 200) (by decide +kernel) (by omega) (by omega)) ?_
  refine T_leq (fun x61 e62 => ?_)
  have u63 := CI_b c41 (k := 3226) (j := a10) (bdr_3226 a10)
  refine T_leq (fun x64 e65 => ?_)
  first | (have w66 := z_wx e65 (by omega)) | (have w66 := z_wr e65)
  refine T_if1 (z_ixl (n := 200) (by decide +kernel) (by omega) (by omega)) ?_
  refine T_upg c41 (bdr_3444 a10) (by omega) (fun s67 c68 g70 g71 e72 => ?_)
  have f69 := z_Fr.up (R := R_X12_laysLine_309) f42 g70 (fun _ => (Or.inr (Or.inl (⟨by decide, by decide⟩))))
  have t73 : s67 309 20 = s 309 20 := (g70 309 20 (by decide)).trans t46
  have t74 : s67 309 36 = s 309 36 := (g70 309 36 (by decide)).trans t47
  have t75 : s67 309 43 = s 309 43 := (g70 309 43 (by decide)).trans t48
  have t76 : s67 309 44 = s 309 44 := (g70 309 44 (by decide)).trans t49
  have t77 : s67 309 58 = s 309 58 := (g70 309 58 (by decide)).trans t50
  have t78 : s67 316 0 = s 316 0 := (g70 316 0 (by decide)).trans t51
  have r79 := y_BX.fr r52 (by omega) (g70 309 58 (by decide)) (fun b => g70 3220 b (by decide)) (fun b => g70 3229 b (by decide)) (fun a b h => g70 a b (by omega))
  have r80 := y_B.fr r53 (g70 309 20 (by decide)) (g70 316 0 (by decide)) (fun b => g70 3220 b (by decide)) (fun b => g70 3221 b (by decide)) (fun b => g70 3222 b (by decide)) (fun b => g70 361 b (by decide))
  have r81 := y_L.fr r54 (g70 309 20 (by decide)) (fun b => g70 3438 b (by decide))
  have r82 := y_E.fr r55 (fun b => g70 3229 b (by decide)) (fun b => g70 3220 b (by decide))
  have r83 := y_LE.fr r56 (fun b => g70 3438 b (by decide))
  have r84 := y_KM.fr r57 (g70 309 20 (by decide)) (g70 309 36 (by decide)) (g70 309 38 (by decide)) (g70 309 39 (by decide)) (fun b => g70 312 b (by decide)) (fun b => g70 331 b (by decide)) (fun b => g70 346 b (by decide)) (fun b => g70 361 b (by decide)) (fun b => g70 391 b (by decide)) (fun a b h => g70 a b (by omega)) (fun a b h => g70 a b (by omega)) (fun a b h => g70 a b (by omega))
  clear t46
  clear t47
  clear t48
  clear t49
  clear t50
  clear t51
  refine T_if1 (by decide +kernel) ?_
  refine T_let 3445 (by decide +kernel) ?_
  refine T_if1 (by decide +kernel) ?_
  refine T_let 3224 (by decide +kernel) ?_
  refine T_if1 (z_ixl (n := 200) (by decide +kernel) (by omega) (by omega)) ?_
  refine T_leq (fun x85 e86 => ?_)
  have u87 := CI_b c68 (k := 3224) (j := a10) (bdr_3224 a10)
  refine T_if1 (z_ixl (n := 200) (by decide +kernel) (by omega) (by omega)) ?_
  refine T_upg c68 (bdr_3445 a10) (by omega) (fun s88 c89 g91 g92 e93 => ?_)
  have f90 := z_Fr.up (R := R_X12_laysLine_309) f69 g91 (fun _ => (Or.inr (Or.inl (⟨by decide, by decide⟩))))
  have t94 : s88 309 20 = s 309 20 := (g91 309 20 (by decide)).trans t73
  have t95 : s88 309 36 = s 309 36 := (g91 309 36 (by decide)).trans t74
  have t96 : s88 309 43 = s 309 43 := (g91 309 43 (by decide)).trans t75
  have t97 : s88 309 44 = s 309 44 := (g91 309 44 (by decide)).trans t76
  have t98 : s88 309 58 = s 309 58 := (g91 309 58 (by decide)).trans t77
  have t99 : s88 316 0 = s 316 0 := (g91 316 0 (by decide)).trans t78
  have r100 := y_BX.fr r79 (by omega) (g91 309 58 (by decide)) (fun b => g91 3220 b (by decide)) (fun b => g91 3229 b (by decide)) (fun a b h => g91 a b (by omega))
  have r101 := y_B.fr r80 (g91 309 20 (by decide)) (g91 316 0 (by decide)) (fun b => g91 3220 b (by decide)) (fun b => g91 3221 b (by decide)) (fun b => g91 3222 b (by decide)) (fun b => g91 361 b (by decide))
  have r102 := y_L.fr r81 (g91 309 20 (by decide)) (fun b => g91 3438 b (by decide))
  have r103 := y_E.fr r82 (fun b => g91 3229 b (by decide)) (fun b => g91 3220 b (by decide))
  have r104 := y_LE.fr r83 (fun b => g91 3438 b (by decide))
  have r105 := y_KM.fr r84 (g91 309 20 (by decide)) (g91 309 36 (by decide)) (g91 309 38 (by decide)) (g91 309 39 (by decide)) (fun b => g91 312 b (by decide)) (fun b => g91 331 b (by decide)) (fun b => g91 346 b (by decide)) (fun b => g91 361 b (by decide)) (fun b => g91 391 b (by decide)) (fun a b h => g91 a b (by omega)) (fun a b h => g91 a b (by omega)) (fun a b h => g91 a b (by omega))
  clear t73
  clear t74
  clear t75
  clear t76
  clear t77
  clear t78
  refine T_if1 (by decide +kernel) ?_
  refine T_let 3221 (by decide +kernel) ?_
  refine T_if1 (z_ixl (n := 200) (by decide +kernel) (by omega) (by omega)) ?_
  refine T_leq (fun x106 e107 => ?_)
  have u108 := CI_b c89 (k := 3221) (j := a10) (bdr_3221 a10)
  refine sl_X12_laysLine_309K_L278 hfu r0 a1 a3 a5 a6 x19 a8 a9 a10 (by omega) (by omega) (by omega) (by omega) (by omega) (by omega) (by omega) (by omega) (fun s109 c110 f111 g112 g113 g114 g115 g116 g117 g118 g119 g120 => ?_) fu s88 x19 x106 c89 f90 (by omega) (by omega) (by omega) (by first | exact y_BX.cg r100 (by omega) (by omega)) (by omega) r101 (by first | exact y_L.cg r102 (by omega)) (by first | exact y_E.cg r103 (by omega) (by omega)) (by first | exact y_LE.cg r104 (by omega) (by omega)) (by omega) (by omega) (by first | exact r105 | exact y_KM.z (by omega)) (by omega)
  have u121 := CI_b c110 (k := 309) (j := 20) bd_309_20
  have u122 := CI_b c110 (k := 309) (j := 36) bd_309_36
  have u123 := CI_b c110 (k := 309) (j := 43) bd_309_43
  have u124 := CI_b c110 (k := 309) (j := 44) bd_309_44
  have u125 := CI_b c110 (k := 309) (j := 58) bd_309_58
  have u126 := CI_b c110 (k := 316) (j := 0) bd_316_0
  have t127 : s109 309 20 = r0 309 20 := f111 309 20 (by decide)
  have t128 : s109 309 44 = r0 309 44 := f111 309 44 (by decide)
  have t129 : s109 316 0 = r0 316 0 := f111 316 0 (by decide)
  refine T_if1 (by decide +kernel) ?_
  refine T_let 3449 (by decide +kernel) ?_
  refine T_if1 (z_ixl (n := 200) (by decide +kernel) (by omega) (by omega)) ?_
  refine T_leq (fun x130 e131 => ?_)
  have u132 := CI_b c110 (k := 3449) (j := a1) (bdr_3449 a1)
  refine T_if1 (by decide +kernel) ?_
  refine T_let 3227 (by decide +kernel) ?_
  refine T_if1 (z_ixl (n := 200) (by decide +kernel) (by omega) (by omega)) ?_
  refine T_leq (fun x133 e134 => ?_)
  have u135 := CI_b c110 (k := 3227) (j := a10) (bdr_3227 a10)
  refine T_if1 (by decide +kernel) ?_
  refine T_let 3228 (by decide +kernel) ?_
  refine T_if1 (z_ixl (n := 200) (by decide +kernel) (by omega) (by omega)) ?_
  refine T_leq (fun x136 e137 => ?_)
  have u138 := CI_b c110 (k := 3228) (j := a10) (bdr_3228 a10)
  refine T_leq (fun x139 e140 => ?_)
  first | (have w141 := z_wx e140 (by omega)) | (have w141 := z_wr e140)
  refine T_leq (fun x142 e143 => ?_)
  first | (have w144 := z_wx e143 (by omega)) | (have w144 := z_wr e143)
  refine T_if1 (z_ixl (n := 200) (by decide +kernel) (by omega) (by omega)) ?_
  refine T_upg c110 (bdr_3449 a1) (by omega) (fun s145 c146 g148 g149 e150 => ?_)
  have f147 := z_Fr.up (R := R_X12_laysLine_309) f111 g148 (fun _ => (Or.inr (Or.inl (⟨by decide, by decide⟩))))
  have t151 : s145 309 20 = s109 309 20 := g148 309 20 (by decide)
  have t152 : s145 309 36 = s109 309 36 := g148 309 36 (by decide)
  have t153 : s145 309 43 = s109 309 43 := g148 309 43 (by decide)
  have t154 : s145 309 44 = s109 309 44 := g148 309 44 (by decide)
  have t155 : s145 309 58 = s109 309 58 := g148 309 58 (by decide)
  have t156 : s145 316 0 = s109 316 0 := g148 316 0 (by decide)
  have r157 := y_BX.fr g112 (by omega) (g148 309 58 (by decide)) (fun b => g148 3220 b (by decide)) (fun b => g148 3229 b (by decide)) (fun a b h => g148 a b (by omega))
  have r158 := y_B.fr g114 (g148 309 20 (by decide)) (g148 316 0 (by decide)) (fun b => g148 3220 b (by decide)) (fun b => g148 3221 b (by decide)) (fun b => g148 3222 b (by decide)) (fun b => g148 361 b (by decide))
  have r159 := y_L.fr g115 (g148 309 20 (by decide)) (fun b => g148 3438 b (by decide))
  have r160 := y_E.fr g116 (fun b => g148 3229 b (by decide)) (fun b => g148 3220 b (by decide))
  have r161 := y_LE.fr g117 (fun b => g148 3438 b (by decide))
  have r162 := y_KM.fr g120 (g148 309 20 (by decide)) (g148 309 36 (by decide)) (g148 309 38 (by decide)) (g148 309 39 (by decide)) (fun b => g148 312 b (by decide)) (fun b => g148 331 b (by decide)) (fun b => g148 346 b (by decide)) (fun b => g148 361 b (by decide)) (fun b => g148 391 b (by decide)) (fun a b h => g148 a b (by omega)) (fun a b h => g148 a b (by omega)) (fun a b h => g148 a b (by omega))
  refine T_if1 (by decide +kernel) ?_
  refine T_let 3224 (by decide +kernel) ?_
  refine T_if1 (z_ixl (n := 200) (by decide +kernel) (by omega) (by omega)) ?_
  refine T_leq (fun x163 e164 => ?_)
  have u165 := CI_b c146 (k := 3224) (j := a10) (bdr_3224 a10)
  refine T_if1 (by decide +kernel) ?_
  refine T_let 3226 (by decide +kernel) ?_
  refine T_if1 (z_ixl (n := 200) (by decide +kernel) (by omega) (by omega)) ?_
  refine T_leq (fun x166 e167 => ?_)
  have u168 := CI_b c146 (k := 3226) (j := a10) (bdr_3226 a10)
  refine T_leq (fun x169 e170 => ?_)
  first | (have w171 := z_wx e170 (by omega)) | (have w171 := z_wr e170)
  refine T_if1 (by decide +kernel) ?_
  refine T_let 3228 (by decide +kernel) ?_
  refine T_if1 (z_ixl (n := 200) (by decide +kernel) (by omega) (by omega)) ?_
  refine T_leq (fun x172 e173 => ?_)
  have u174 := CI_b c146 (k := 3228) (j := a10) (bdr_3228 a10)
  refine T_leq (fun x175 e176 => ?_)
  first | (have w177 := z_wx e176 (by omega)) | (have w177 := z_wr e176)
  refine T_leq (fun x178 e179 => ?_)
  first | (have w180 := z_wx e179 (by omega)) | (have w180 := z_wr e179)
  refine T_ite (fun h181 => ?_) (fun h181 => ?_)
  · exact sj_X12_laysLine_309K_J436 hfu r0 s145 c146 f147 a1 a3 a5 a6 x178 a8 a9 a10 (by omega) (by omega) (by omega) (by omega) (by omega) (by omega) (by omega) (by omega) (by omega) (by first | exact y_BX.cg r157 (by omega) (by omega)) (by omega) (by omega) r158 (by first | exact y_L.cg r159 (by omega)) (by first | exact y_E.cg r160 (by omega) (by omega)) (by first | exact y_LE.cg r161 (by omega) (by omega)) (by omega) (by omega) (by first | exact r162 | exact y_KM.z (by omega)) M (by omega) (fun s' v7 v9 v10 c' f' w7 w9 w10 z0 z1 z2 z3 z4 z5 z6 z7 z8 z9 z10 pg => hr s' v7 v9 v10 c' f' w7 w9 w10 z0 z1 z2 z3 z4 z5 z6 z7 z8 z9 z10 (by omega)) hk
  · refine T_if1 (by decide +kernel) ?_
    refine T_useI (sf_X12_isGap_309K hfu s145 c146 a10 a3 (by omega) (by omega) r158 (by omega) (by omega) (by first | exact r162 | exact y_KM.z (by omega))) (fun v187 s182 hq => ?_)
    obtain ⟨c183, f184, o188, o189, o190, ⟨x186, rfl, b191, b192⟩⟩ := hq
    refine T_vI ?_
    have f185 := z_Fr.tr (R := R_X12_laysLine_309) f147 f184 rs_X12_isGap_309__X12_laysLine_309
    have t193 : s182 309 20 = s109 309 20 := (f184 309 20 (by decide)).trans t151
    have t194 : s182 309 44 = s109 309 44 := (f184 309 44 (by decide)).trans t154
    have t195 : s182 309 58 = s109 309 58 := (f184 309 58 (by decide)).trans t155
    have t196 : s182 316 0 = s109 316 0 := (f184 316 0 (by decide)).trans t156
    have u197 := CI_b c183 (k := 309) (j := 36) bd_309_36
    have u198 := CI_b c183 (k := 309) (j := 43) bd_309_43
    have r199 := y_BX.fr r157 (by omega) (f184 309 58 (by decide)) (fun b => f184 3220 b (nr_X12_isGap_309__3220 b)) (fun b => f184 3229 b (nr_X12_isGap_309__3229 b)) (fun a b h => f184 a b (nz_X12_isGap_309__3452_3651 a b h))
    have r200 := y_B.fr r158 (f184 309 20 (by decide)) (f184 316 0 (by decide)) (fun b => f184 3220 b (nr_X12_isGap_309__3220 b)) (fun b => f184 3221 b (nr_X12_isGap_309__3221 b)) (fun b => f184 3222 b (nr_X12_isGap_309__3222 b)) (fun b => f184 361 b (nr_X12_isGap_309__361 b))
    have r201 := y_L.fr r159 (f184 309 20 (by decide)) (fun b => f184 3438 b (nr_X12_isGap_309__3438 b))
    have r202 := y_E.fr r160 (fun b => f184 3229 b (nr_X12_isGap_309__3229 b)) (fun b => f184 3220 b (nr_X12_isGap_309__3220 b))
    have r203 := y_LE.fr r161 (fun b => f184 3438 b (nr_X12_isGap_309__3438 b))
    clear t151
    clear t154
    clear t155
    clear t156
    refine T_ite (fun h204 => ?_) (fun h204 => ?_)
    · refine T_if1 (by omega) ?_
      refine T_leq (fun x205 e206 => ?_)
      have w207 := z_wr e206
      refine T_if1 (by omega) ?_
      refine T_leq (fun x208 e209 => ?_)
      have w210 := z_tmb e209 (by omega)
      refine T_ite (fun h211 => ?_) (fun h211 => ?_)
      · exact sj_X12_laysLine_309K_J429 hfu r0 s182 c183 f185 a1 a3 a5 a6 a8 a9 a10 x178 x205 0 (by omega) (by omega) (by omega) (by omega) (by omega) (by omega) (by omega) (by omega) (by omega) (by omega) (by omega) (by first | exact y_BX.cg r199 (by omega) (by omega)) (by omega) (by omega) r200 (by first | exact y_L.cg r201 (by omega)) (by first | exact y_E.cg r202 (by omega) (by omega)) (by first | exact y_LE.cg r203 (by omega) (by omega)) (by omega) (by omega) (by first | exact o190 | exact y_KM.z (by omega)) M (by omega) (fun s' v7 v9 v10 c' f' w7 w9 w10 z0 z1 z2 z3 z4 z5 z6 z7 z8 z9 z10 pg => hr s' v7 v9 v10 c' f' w7 w9 w10 z0 z1 z2 z3 z4 z5 z6 z7 z8 z9 z10 (by omega)) hk
      · exact sj_X12_laysLine_309K_J429 hfu r0 s182 c183 f185 a1 a3 a5 a6 a8 a9 a10 x178 x205 1 (by omega) (by omega) (by omega) (by omega) (by omega) (by omega) (by omega) (by omega) (by omega) (by omega) (by omega) (by first | exact y_BX.cg r199 (by omega) (by omega)) (by omega) (by omega) r200 (by first | exact y_L.cg r201 (by omega)) (by first | exact y_E.cg r202 (by omega) (by omega)) (by first | exact y_LE.cg r203 (by omega) (by omega)) (by omega) (by omega) (by first | exact o190 | exact y_KM.z (by omega)) M (by omega) (fun s' v7 v9 v10 c' f' w7 w9 w10 z0 z1 z2 z3 z4 z5 z6 z7 z8 z9 z10 pg => hr s' v7 v9 v10 c' f' w7 w9 w10 z0 z1 z2 z3 z4 z5 z6 z7 z8 z9 z10 (by omega)) hk
    · exact sj_X12_laysLine_309K_J436 hfu r0 s182 c183 f185 a1 a3 a5 a6 x178 a8 a9 a10 (by omega) (by omega) (by omega) (by omega) (by omega) (by omega) (by omega) (by omega) (by omega) (by first | exact y_BX.cg r199 (by omega) (by omega)) (by omega) (by omega) r200 (by first | exact y_L.cg r201 (by omega)) (by first | exact y_E.cg r202 (by omega) (by omega)) (by first | exact y_LE.cg r203 (by omega) (by omega)) (by omega) (by omega) (by first | exact o190 | exact y_KM.z (by omega)) M (by omega) (fun s' v7 v9 v10 c' f' w7 w9 w10 z0 z1 z2 z3 z4 z5 z6 z7 z8 z9 z10 pg => hr s' v7 v9 v10 c' f' w7 w9 w10 z0 z1 z2 z3 z4 z5 z6 z7 z8 z9 z10 (by omega)) hk
theorem nr_X12_addsBlock_309__312 (b : Int) : ¬ R_X12_addsBlock_309 312 b := by
  unfold R_X12_addsBlock_309; omega
theorem nr_X12_addsBlock_309__331 (b : Int) : ¬ R_X12_addsBlock_309 331 b := by
  unfold R_X12_addsBlock_309; omega
theorem nr_X12_addsBlock_309__346 (b : Int) : ¬ R_X12_addsBlock_309 346 b := by
  unfold R_X12_addsBlock_309; omega
theorem nr_X12_addsBlock_309__391 (b : Int) : ¬ R_X12_addsBlock_309 391 b := by
  unfold R_X12_addsBlock_309; omega
theorem nz_X12_addsBlock_309__407_606 (a b : Int) (h : 407 ≤ a ∧ a ≤ 606) : ¬ R_X12_addsBlock_309 a b := by
  unfold R_X12_addsBlock_309; omega
theorem nz_X12_addsBlock_309__3220_3223 (a b : Int) (h : 3220 ≤ a ∧ a ≤ 3223) : ¬ R_X12_addsBlock_309 a b := by
  unfold R_X12_addsBlock_309; omega
theorem nz_X12_addsBlock_309__3235_3437 (a b : Int) (h : 3235 ≤ a ∧ a ≤ 3437) : ¬ R_X12_addsBlock_309 a b := by
  unfold R_X12_addsBlock_309; omega
theorem sl_X12_laysLine_309K_L169 {fu : Nat} (hfu : 8589934592 ≤ fu) (r0 : z_M) (a1 : Int) (a3 : Int) (a5 : Int) (a6 : Int) (a8 : Int) (b1 : 0 ≤ a1 ∧ a1 ≤ 199) (b3 : 0 ≤ a3 ∧ a3 ≤ 199) (b5 : -2147483648 ≤ a5 ∧ a5 ≤ 2147483647) (b6 : -2147483648 ≤ a6 ∧ a6 ≤ 2147483647) (b8 : 0 ≤ a8 ∧ a8 ≤ 1) {k : z_M → z_O} (hk : ∀ (s' : z_M), z_CI s' → z_Fr R_X12_laysLine_309 r0 s' → (y_BL s' (a1 + 1)) → (s' 309 43 = 0 ∨ s' 309 36 = 0 ∨ (r0 309 36 ≠ 0 ∧ r0 309 43 ≠ 0)) → (r0 309 36 = 0 ∨ s' 309 36 ≠ 0) → (y_KM s') → z_T (k s') (P_X12_laysLine_309K r0 a1)) : ∀ (F : Nat) (s : z_M) (a7 : Int) (a9 : Int) (a10 : Int), z_CI s → z_Fr R_X12_laysLine_309 r0 s → (-2147483648 ≤ a7 ∧ a7 ≤ 2147483647) → (-2147483648 ≤ a9 ∧ a9 ≤ 2147483647) → (0 ≤ a10 ∧ a10 ≤ 200) → (a10 ≤ a3 + 1) → (y_BX s a10 a3) → (a8 = 0 ∨ 1 ≤ a5) → (a3 < s 309 20) → (y_B s) → (y_L s (s 309 44)) → (y_E s a10 a3) → (y_LE s a1 a3) → (s 309 43 = 0 ∨ s 309 36 = 0 ∨ (r0 309 36 ≠ 0 ∧ r0 309 43 ≠ 0)) → (r0 309 36 = 0 ∨ s 309 36 ≠ 0) → (y_KM s) → (2147483647 - a10 < (F : Int)) → z_T (fX12_laysLine_L169 fu 309 a1 a3 a5 a6 a8 F s a7 a9 a10 k) (P_X12_laysLine_309K r0 a1) := by
  intro F
  induction F with
  | zero =>
    intro s a7 a9 a10 c f b7 b9 b10 i0 i1 i2 i3 i4 i5 i6 i7 i8 i9 i10 hm
    have u38 := CI_b c (k := 309) (j := 20) bd_309_20
    have u39 := CI_b c (k := 309) (j := 36) bd_309_36
    have u40 := CI_b c (k := 309) (j := 43) bd_309_43
    have u41 := CI_b c (k := 309) (j := 44) bd_309_44
    have u42 := CI_b c (k := 309) (j := 58) bd_309_58
    have u43 := CI_b c (k := 316) (j := 0) bd_316_0
    exfalso; omega
  | succ F ih =>
    intro s a7 a9 a10 c f b7 b9 b10 i0 i1 i2 i3 i4 i5 i6 i7 i8 i9 i10 hm
    refine T_of (fX12_laysLine_L169.eq_2 ..) ?_
    have u1 := CI_b c (k := 309) (j := 20) bd_309_20
    have u2 := CI_b c (k := 309) (j := 36) bd_309_36
    have u3 := CI_b c (k := 309) (j := 43) bd_309_43
    have u4 := CI_b c (k := 309) (j := 44) bd_309_44
    have u5 := CI_b c (k := 309) (j := 58) bd_309_58
    have u6 := CI_b c (k := 316) (j := 0) bd_316_0
    have t7 : s 309 20 = r0 309 20 := f 309 20 (by decide)
    have t8 : s 309 44 = r0 309 44 := f 309 44 (by decide)
    have t9 : s 316 0 = r0 316 0 := f 316 0 (by decide)
    refine T_ite (fun h10 => ?_) (fun h10 => ?_)
    · exact hk s c f (by first | exact y_BL.x i1 i7 (by omega) (by omega) | exact y_BL.z (by omega) (by omega)) (by omega) (by omega) (by first | exact i10 | exact y_KM.z (by omega))
    · refine T_if1 (by decide +kernel) ?_
      refine T_let 3229 (by decide +kernel) ?_
      refine T_if1 (z_ixl (n := 200) (by decide +kernel) (by omega) (by omega)) ?_
      refine T_leq (fun x11 e12 => ?_)
      have u13 := CI_b c (k := 3229) (j := a10) (bdr_3229 a10)
      refine T_ite (fun h14 => ?_) (fun h14 => ?_)
      · exact sj_X12_laysLine_309K_J192 hfu r0 s c f a1 a3 a5 a6 a7 a8 a9 a10 (by omega) (by omega) (by omega) (by omega) (by omega) (by omega) (by omega) (by omega) (by omega) (by first | exact y_BX.cg i1 (by omega) (by omega)) (by omega) (by omega) i4 (by first | exact y_L.cg i5 (by omega)) (by first | exact y_E.cg i6 (by omega) (by omega)) (by first | exact y_LE.cg i7 (by omega) (by omega)) (by omega) (by omega) (by first | exact i10 | exact y_KM.z (by omega)) (2147483647 - a10) (by omega) (fun s' v7 v9 v10 c' f' w7 w9 w10 z0 z1 z2 z3 z4 z5 z6 z7 z8 z9 z10 pg => ih s' v7 v9 v10 c' f' w7 w9 w10 z0 z1 z2 z3 z4 z5 z6 z7 z8 z9 z10 (by omega)) hk
      · have n15 := y_E.at i6 (u := a10) (by assumption) (by omega) (by omega)
        have n16 := (i1).1
        refine T_if1 (by decide +kernel) ?_
        refine T_useN (sf_X12_addsBlock_309 hfu s c a10 a1 (by omega) (by omega) (by omega) (by omega) (by omega)) (fun v22 s17 hq => ?_)
        obtain ⟨c18, f19, o23, rfl⟩ := hq
        refine T_vN ?_
        have f20 := z_Fr.tr (R := R_X12_laysLine_309) f f19 rs_X12_addsBlock_309__X12_laysLine_309
        have t26 : s17 309 20 = s 309 20 := f19 309 20 (by decide)
        have t27 : s17 309 36 = s 309 36 := f19 309 36 (by decide)
        have t28 : s17 309 43 = s 309 43 := f19 309 43 (by decide)
        have t29 : s17 309 44 = s 309 44 := f19 309 44 (by decide)
        have t30 : s17 316 0 = s 316 0 := f19 316 0 (by decide)
        have u31 := CI_b c18 (k := 309) (j := 58) bd_309_58
        have r32 := y_B.fr i4 (f19 309 20 (by decide)) (f19 316 0 (by decide)) (fun b => f19 3220 b (nr_X12_addsBlock_309__3220 b)) (fun b => f19 3221 b (nr_X12_addsBlock_309__3221 b)) (fun b => f19 3222 b (nr_X12_addsBlock_309__3222 b)) (fun b => f19 361 b (nr_X12_addsBlock_309__361 b))
        have r33 := y_L.fr i5 (f19 309 20 (by decide)) (fun b => f19 3438 b (nr_X12_addsBlock_309__3438 b))
        have r34 := y_E.fr i6 (fun b => f19 3229 b (nr_X12_addsBlock_309__3229 b)) (fun b => f19 3220 b (nr_X12_addsBlock_309__3220 b))
        have r35 := y_LE.fr i7 (fun b => f19 3438 b (nr_X12_addsBlock_309__3438 b))
        have r36 := y_KM.fr i10 (f19 309 20 (by decide)) (f19 309 36 (by decide)) (f19 309 38 (by decide)) (f19 309 39 (by decide)) (fun b => f19 312 b (nr_X12_addsBlock_309__312 b)) (fun b => f19 331 b (nr_X12_addsBlock_309__331 b)) (fun b => f19 346 b (nr_X12_addsBlock_309__346 b)) (fun b => f19 361 b (nr_X12_addsBlock_309__361 b)) (fun b => f19 391 b (nr_X12_addsBlock_309__391 b)) (fun a b h => f19 a b (nz_X12_addsBlock_309__407_606 a b h)) (fun a b h => f19 a b (nz_X12_addsBlock_309__3220_3223 a b h)) (fun a b h => f19 a b (nz_X12_addsBlock_309__3235_3437 a b h))
        have r37 := o23 a3 (by omega) (y_E.cg i6 (by omega) (by omega)) (y_BX.cg i1 (by omega) (by omega))
        exact sj_X12_laysLine_309K_J192 hfu r0 s17 c18 f20 a1 a3 a5 a6 a7 a8 a9 a10 (by omega) (by omega) (by omega) (by omega) (by omega) (by omega) (by omega) (by omega) (by omega) (by first | exact y_BX.cg r37 (by omega) (by omega)) (by omega) (by omega) r32 (by first | exact y_L.cg r33 (by omega)) (by first | exact y_E.cg r34 (by omega) (by omega)) (by first | exact y_LE.cg r35 (by omega) (by omega)) (by omega) (by omega) (by first | exact r36 | exact y_KM.z (by omega)) (2147483647 - a10) (by omega) (fun s' v7 v9 v10 c' f' w7 w9 w10 z0 z1 z2 z3 z4 z5 z6 z7 z8 z9 z10 pg => ih s' v7 v9 v10 c' f' w7 w9 w10 z0 z1 z2 z3 z4 z5 z6 z7 z8 z9 z10 (by omega)) hk
theorem sj_X12_laysLine_309K_J161 {fu : Nat} (hfu : 8589934592 ≤ fu) (r0 s : z_M) (c : z_CI s) (f : z_Fr R_X12_laysLine_309 r0 s) (a1 : Int) (a2 : Int) (a3 : Int) (a5 : Int) (a6 : Int) (a7 : Int) (t0 : Int) (b1 : 0 ≤ a1 ∧ a1 ≤ 199) (b2 : 0 ≤ a2 ∧ a2 ≤ 199) (b3 : 0 ≤ a3 ∧ a3 ≤ 199) (b5 : -2147483648 ≤ a5 ∧ a5 ≤ 2147483647) (b6 : -2147483648 ≤ a6 ∧ a6 ≤ 2147483647) (b7 : -2147483648 ≤ a7 ∧ a7 ≤ 2147483647) (d0 : 0 ≤ t0 ∧ t0 ≤ 1) (p0 : a3 < s 309 20) (p1 : a2 ≤ a3) (p2 : y_B s) (p3 : y_L s (s 309 44)) (p4 : y_E s a2 a3) (p5 : y_BP s a2) (p6 : y_LE s a1 a3) (p7 : t0 = 0 ∨ 1 ≤ a5) (p8 : s 309 43 = 0 ∨ s 309 36 = 0 ∨ (r0 309 36 ≠ 0 ∧ r0 309 43 ≠ 0)) (p9 : r0 309 36 = 0 ∨ s 309 36 ≠ 0) (p10 : y_KM s) : z_T (fX12_laysLine_J161 fu s 309 a1 a2 a3 a5 a6 a7 t0) (P_X12_laysLine_309K r0 a1) := by
  refine T_of (fX12_laysLine_J161.eq_1 ..) ?_
  have u1 := CI_b c (k := 309) (j := 20) bd_309_20
  have u2 := CI_b c (k := 309) (j := 36) bd_309_36
  have u3 := CI_b c (k := 309) (j := 43) bd_309_43
  have u4 := CI_b c (k := 309) (j := 44) bd_309_44
  have u5 := CI_b c (k := 309) (j := 58) bd_309_58
  have u6 := CI_b c (k := 316) (j := 0) bd_316_0
  have t7 : s 309 20 = r0 309 20 := f 309 20 (by decide)
  have t8 : s 309 44 = r0 309 44 := f 309 44 (by decide)
  have t9 : s 316 0 = r0 316 0 := f 316 0 (by decide)
  refine sl_X12_laysLine_309K_L169 hfu r0 a1 a3 a5 a6 t0 (by omega) (by omega) (by omega) (by omega) (by omega) (fun s10 c11 f12 g13 g14 g15 g16 => ?_) fu s a7 0 a2 c f (by omega) (by omega) (by omega) (by omega) (by first | exact y_BX.of p5 (by omega) (by omega)) (by omega) (by omega) p2 (by first | exact y_L.cg p3 (by omega)) (by first | exact y_E.cg p4 (by omega) (by omega)) (by first | exact y_LE.cg p6 (by omega) (by omega)) (by omega) (by omega) (by first | exact p10 | exact y_KM.z (by omega)) (by omega)
  have u17 := CI_b c11 (k := 309) (j := 20) bd_309_20
  have u18 := CI_b c11 (k := 309) (j := 36) bd_309_36
  have u19 := CI_b c11 (k := 309) (j := 43) bd_309_43
  have u20 := CI_b c11 (k := 309) (j := 44) bd_309_44
  have u21 := CI_b c11 (k := 309) (j := 58) bd_309_58
  have u22 := CI_b c11 (k := 316) (j := 0) bd_316_0
  have t23 : s10 309 20 = r0 309 20 := f12 309 20 (by decide)
  have t24 : s10 309 44 = r0 309 44 := f12 309 44 (by decide)
  have t25 : s10 316 0 = r0 316 0 := f12 316 0 (by decide)
  exact T_ret ⟨c11, f12, (by first | exact y_BL.cg g13 (by omega) | exact y_BL.z (by omega) (by omega)), (by omega), (by omega), (by first | exact g16 | exact y_KM.z (by omega)), rfl⟩
theorem sj_X12_laysLine_309K_J160 {fu : Nat} (hfu : 8589934592 ≤ fu) (r0 s : z_M) (c : z_CI s) (f : z_Fr R_X12_laysLine_309 r0 s) (a1 : Int) (a2 : Int) (a3 : Int) (a5 : Int) (a6 : Int) (a7 : Int) (b1 : 0 ≤ a1 ∧ a1 ≤ 199) (b2 : 0 ≤ a2 ∧ a2 ≤ 199) (b3 : 0 ≤ a3 ∧ a3 ≤ 199) (b5 : -2147483648 ≤ a5 ∧ a5 ≤ 2147483647) (b6 : -2147483648 ≤ a6 ∧ a6 ≤ 2147483647) (b7 : -2147483648 ≤ a7 ∧ a7 ≤ 2147483647) (p0 : a3 < s 309 20) (p1 : a2 ≤ a3) (p2 : y_B s) (p3 : y_L s (s 309 44)) (p4 : y_E s a2 a3) (p5 : y_BP s a2) (p6 : y_LE s a1 a3) (p7 : s 309 43 = 0 ∨ s 309 36 = 0 ∨ (r0 309 36 ≠ 0 ∧ r0 309 43 ≠ 0)) (p8 : r0 309 36 = 0 ∨ s 309 36 ≠ 0) (p9 : y_KM s) : z_T (fX12_laysLine_J160 fu s 309 a1 a2 a3 a5 a6 a7) (P_X12_laysLine_309K r0 a1) := by
  refine T_of (fX12_laysLine_J160.eq_1 ..) ?_
  have u1 := CI_b c (k := 309) (j := 20) bd_309_20
  have u2 := CI_b c (k := 309) (j := 36) bd_309_36
  have u3 := CI_b c (k := 309) (j := 43) bd_309_43
  have u4 := CI_b c (k := 309) (j := 44) bd_309_44
  have u5 := CI_b c (k := 309) (j := 58) bd_309_58
  have u6 := CI_b c (k := 316) (j := 0) bd_316_0
  have t7 : s 309 20 = r0 309 20 := f 309 20 (by decide)
  have t8 : s 309 44 = r0 309 44 := f 309 44 (by decide)
  have t9 : s 316 0 = r0 316 0 := f 316 0 (by decide)
  exact sj_X12_laysLine_309K_J161 hfu r0 s c f a1 a2 a3 a5 a6 a7 0 (by omega) (by omega) (by omega) (by omega) (by omega) (by omega) (by omega) (by omega) (by omega) p2 (by first | exact y_L.cg p3 (by omega)) (by first | exact y_E.cg p4 (by omega) (by omega)) (by first | exact y_BP.cg p5 (by omega)) (by first | exact y_LE.cg p6 (by omega) (by omega)) (by omega) (by omega) (by omega) (by first | exact p9 | exact y_KM.z (by omega))
theorem sj_X12_laysLine_309K_J125 {fu : Nat} (hfu : 8589934592 ≤ fu) (r0 s : z_M) (c : z_CI s) (f : z_Fr R_X12_laysLine_309 r0 s) (a1 : Int) (a2 : Int) (a3 : Int) (a5 : Int) (a6 : Int) (a7 : Int) (t1 : Int) (t2 : Int) (b1 : 0 ≤ a1 ∧ a1 ≤ 199) (b2 : 0 ≤ a2 ∧ a2 ≤ 199) (b3 : 0 ≤ a3 ∧ a3 ≤ 199) (b5 : -2147483648 ≤ a5 ∧ a5 ≤ 2147483647) (b6 : -2147483648 ≤ a6 ∧ a6 ≤ 2147483647) (b7 : -2147483648 ≤ a7 ∧ a7 ≤ 2147483647) (d1 : 0 ≤ t1 ∧ t1 ≤ 199) (d2 : 0 ≤ t2 ∧ t2 ≤ 1) (p0 : a3 < s 309 20) (p1 : a2 ≤ a3) (p2 : y_B s) (p3 : y_L s (s 309 44)) (p4 : y_E s a2 a3) (p5 : y_BP s a2) (p6 : y_LE s a1 a3) (p7 : s 309 43 = 0 ∨ s 309 36 = 0 ∨ (r0 309 36 ≠ 0 ∧ r0 309 43 ≠ 0)) (p8 : r0 309 36 = 0 ∨ s 309 36 ≠ 0) (p9 : y_KM s) : z_T (fX12_laysLine_J125 fu s 309 a1 a2 a3 a5 a6 a7 3450 t1 t2) (P_X12_laysLine_309K r0 a1) := by
  refine T_of (fX12_laysLine_J125.eq_1 ..) ?_
  have u1 := CI_b c (k := 309) (j := 20) bd_309_20
  have u2 := CI_b c (k := 309) (j := 36) bd_309_36
  have u3 := CI_b c (k := 309) (j := 43) bd_309_43
  have u4 := CI_b c (k := 309) (j := 44) bd_309_44
  have u5 := CI_b c (k := 309) (j := 58) bd_309_58
  have u6 := CI_b c (k := 316) (j := 0) bd_316_0
  have t7 : s 309 20 = r0 309 20 := f 309 20 (by decide)
  have t8 : s 309 44 = r0 309 44 := f 309 44 (by decide)
  have t9 : s 316 0 = r0 316 0 := f 316 0 (by decide)
  refine T_if1 (z_ixl (n := 200) (by decide +kernel) (by omega) (by omega)) ?_
  refine T_upg c (bdr_3450 t1) (by omega) (fun s10 c11 g13 g14 e15 => ?_)
  have f12 := z_Fr.up (R := R_X12_laysLine_309) f g13 (fun _ => (Or.inr (Or.inl (⟨by decide, by decide⟩))))
  have t16 : s10 309 20 = s 309 20 := g13 309 20 (by decide)
  have t17 : s10 309 36 = s 309 36 := g13 309 36 (by decide)
  have t18 : s10 309 43 = s 309 43 := g13 309 43 (by decide)
  have t19 : s10 309 44 = s 309 44 := g13 309 44 (by decide)
  have t20 : s10 309 58 = s 309 58 := g13 309 58 (by decide)
  have t21 : s10 316 0 = s 316 0 := g13 316 0 (by decide)
  have r22 := y_B.fr p2 (g13 309 20 (by decide)) (g13 316 0 (by decide)) (fun b => g13 3220 b (by decide)) (fun b => g13 3221 b (by decide)) (fun b => g13 3222 b (by decide)) (fun b => g13 361 b (by decide))
  have r23 := y_L.fr p3 (g13 309 20 (by decide)) (fun b => g13 3438 b (by decide))
  have r24 := y_E.fr p4 (fun b => g13 3229 b (by decide)) (fun b => g13 3220 b (by decide))
  have r25 := y_BP.fr p5 (by omega) (g13 309 58 (by decide)) (fun b => g13 3220 b (by decide)) (fun a b h => g13 a b (by omega))
  have r26 := y_LE.fr p6 (fun b => g13 3438 b (by decide))
  have r27 := y_KM.fr p9 (g13 309 20 (by decide)) (g13 309 36 (by decide)) (g13 309 38 (by decide)) (g13 309 39 (by decide)) (fun b => g13 312 b (by decide)) (fun b => g13 331 b (by decide)) (fun b => g13 346 b (by decide)) (fun b => g13 361 b (by decide)) (fun b => g13 391 b (by decide)) (fun a b h => g13 a b (by omega)) (fun a b h => g13 a b (by omega)) (fun a b h => g13 a b (by omega))
  refine T_if1 (by decide +kernel) ?_
  refine T_let 312 (by decide +kernel) ?_
  refine T_if1 (z_ixl (n := 9) (by decide +kernel) (by omega) (by omega)) ?_
  refine T_leq (fun x28 e29 => ?_)
  have u30 := CI_b c11 (k := 312) (j := 4) (bdr_312 4)
  refine T_ite (fun h31 => ?_) (fun h31 => ?_)
  · exact sj_X12_laysLine_309K_J160 hfu r0 s10 c11 f12 a1 a2 a3 a5 a6 a7 (by omega) (by omega) (by omega) (by omega) (by omega) (by omega) (by omega) (by omega) r22 (by first | exact y_L.cg r23 (by omega)) (by first | exact y_E.cg r24 (by omega) (by omega)) (by first | exact y_BP.cg r25 (by omega)) (by first | exact y_LE.cg r26 (by omega) (by omega)) (by omega) (by omega) (by first | exact r27 | exact y_KM.z (by omega))
  · refine T_ite (fun h32 => ?_) (fun h32 => ?_)
    · exact sj_X12_laysLine_309K_J160 hfu r0 s10 c11 f12 a1 a2 a3 a5 a6 a7 (by omega) (by omega) (by omega) (by omega) (by omega) (by omega) (by omega) (by omega) r22 (by first | exact y_L.cg r23 (by omega)) (by first | exact y_E.cg r24 (by omega) (by omega)) (by first | exact y_BP.cg r25 (by omega)) (by first | exact y_LE.cg r26 (by omega) (by omega)) (by omega) (by omega) (by first | exact r27 | exact y_KM.z (by omega))
    · refine T_if1 (by decide +kernel) ?_
      refine T_leq (fun x33 e34 => ?_)
      have u35 := CI_b c11 (k := 309) (j := 20) bd_309_20
      refine T_leq (fun x36 e37 => ?_)
      first | (have w38 := z_wx e37 (by omega)) | (have w38 := z_wr e37)
      refine T_ite (fun h39 => ?_) (fun h39 => ?_)
      · exact sj_X12_laysLine_309K_J160 hfu r0 s10 c11 f12 a1 a2 a3 a5 a6 a7 (by omega) (by omega) (by omega) (by omega) (by omega) (by omega) (by omega) (by omega) r22 (by first | exact y_L.cg r23 (by omega)) (by first | exact y_E.cg r24 (by omega) (by omega)) (by first | exact y_BP.cg r25 (by omega)) (by first | exact y_LE.cg r26 (by omega) (by omega)) (by omega) (by omega) (by first | exact r27 | exact y_KM.z (by omega))
      · refine T_ite (fun h40 => ?_) (fun h40 => ?_)
        · exact sj_X12_laysLine_309K_J160 hfu r0 s10 c11 f12 a1 a2 a3 a5 a6 a7 (by omega) (by omega) (by omega) (by omega) (by omega) (by omega) (by omega) (by omega) r22 (by first | exact y_L.cg r23 (by omega)) (by first | exact y_E.cg r24 (by omega) (by omega)) (by first | exact y_BP.cg r25 (by omega)) (by first | exact y_LE.cg r26 (by omega) (by omega)) (by omega) (by omega) (by first | exact r27 | exact y_KM.z (by omega))
        · exact sj_X12_laysLine_309K_J161 hfu r0 s10 c11 f12 a1 a2 a3 a5 a6 a7 1 (by omega) (by omega) (by omega) (by omega) (by omega) (by omega) (by omega) (by omega) (by omega) r22 (by first | exact y_L.cg r23 (by omega)) (by first | exact y_E.cg r24 (by omega) (by omega)) (by first | exact y_BP.cg r25 (by omega)) (by first | exact y_LE.cg r26 (by omega) (by omega)) (by omega) (by omega) (by omega) (by first | exact r27 | exact y_KM.z (by omega))
set_option maxHeartbeats 4000000 in
theorem sf_X12_laysLine_309K {fu : Nat} (hfu : 8589934592 ≤ fu) (r0 : z_M) (c0 : z_CI r0) (a1 : Int) (b1 : 0 ≤ a1 ∧ a1 ≤ 199) (p0 : y_B r0) (p1 : y_L r0 (r0 309 44)) (p2 : a1 < r0 309 44) (p3 : y_BL r0 a1) (p4 : y_KM r0) : z_T (fX12_laysLine fu r0 309 a1) (P_X12_laysLine_309K r0 a1) := by
  refine T_of (fX12_laysLine.eq_1 ..) ?_
  have u1 := CI_b c0 (k := 309) (j := 20) bd_309_20
  have u2 := CI_b c0 (k := 309) (j := 36) bd_309_36
  have u3 := CI_b c0 (k := 309) (j := 43) bd_309_43
  have u4 := CI_b c0 (k := 309) (j := 44) bd_309_44
  have u5 := CI_b c0 (k := 309) (j := 58) bd_309_58
  have u6 := CI_b c0 (k := 316) (j := 0) bd_316_0
  refine T_if1 (by decide +kernel) ?_
  refine T_let 3438 (by decide +kernel) ?_
  refine T_if1 (z_ixl (n := 201) (by decide +kernel) (by omega) (by omega)) ?_
  refine T_leq (fun x7 e8 => ?_)
  have u9 := CI_b c0 (k := 3438) (j := a1) (bdr_3438 a1)
  refine T_if1 (by decide +kernel) ?_
  refine T_let 3438 (by decide +kernel) ?_
  refine T_leq (fun x10 e11 => ?_)
  first | (have w12 := z_wx e11 (by omega)) | (have w12 := z_wr e11)
  have n13 := y_L.at p1 (i := a1) (j := x10) (by omega) (by omega) (by omega)
  refine T_if1 (z_ixl (n := 201) (by decide +kernel) (by omega) (by omega)) ?_
  refine T_leq (fun x14 e15 => ?_)
  have u16 := CI_b c0 (k := 3438) (j := x10) (bdr_3438 x10)
  refine T_leq (fun x17 e18 => ?_)
  first | (have w19 := z_wx e18 (by omega)) | (have w19 := z_wr e18)
  have r20 : y_LE r0 a1 x17 := y_LE.mk (j := x10) (by assumption) (by omega) (by omega)
  have r21 : y_BP r0 x7 := y_BL.to p3 (by assumption) (Int.le_refl _)
  refine T_if1 (by decide +kernel) ?_
  refine T_useI (sf_X12_lays_309 hfu r0 c0 x7 x17 (by omega) (by omega) p0 (by omega) (by omega)) (fun v27 s22 hq => ?_)
  obtain ⟨c23, f24, o28, ⟨x26, rfl, b29, b30⟩⟩ := hq
  refine T_vI ?_
  have f25 := z_Fr.tr (R := R_X12_laysLine_309) z_Fr.rf f24 rs_X12_lays_309__X12_laysLine_309
  have t31 : s22 309 20 = r0 309 20 := f24 309 20 (by decide)
  have t32 : s22 309 36 = r0 309 36 := f24 309 36 (by decide)
  have t33 : s22 309 43 = r0 309 43 := f24 309 43 (by decide)
  have t34 : s22 309 44 = r0 309 44 := f24 309 44 (by decide)
  have t35 : s22 309 58 = r0 309 58 := f24 309 58 (by decide)
  have t36 : s22 316 0 = r0 316 0 := f24 316 0 (by decide)
  have r37 := y_B.fr p0 (f24 309 20 (by decide)) (f24 316 0 (by decide)) (fun b => f24 3220 b (nr_X12_lays_309__3220 b)) (fun b => f24 3221 b (nr_X12_lays_309__3221 b)) (fun b => f24 3222 b (nr_X12_lays_309__3222 b)) (fun b => f24 361 b (nr_X12_lays_309__361 b))
  have r38 := y_L.fr p1 (f24 309 20 (by decide)) (fun b => f24 3438 b (nr_X12_lays_309__3438 b))
  have r39 := y_BL.fr p3 (by omega) (f24 309 58 (by decide)) (fun b => f24 3220 b (nr_X12_lays_309__3220 b)) (fun b => f24 3438 b (nr_X12_lays_309__3438 b)) (fun a b h => f24 a b (nz_X12_lays_309__3452_3651 a b h))
  have r40 := y_KM.fr p4 (f24 309 20 (by decide)) (f24 309 36 (by decide)) (f24 309 38 (by decide)) (f24 309 39 (by decide)) (fun b => f24 312 b (nr_X12_lays_309__312 b)) (fun b => f24 331 b (nr_X12_lays_309__331 b)) (fun b => f24 346 b (nr_X12_lays_309__346 b)) (fun b => f24 361 b (nr_X12_lays_309__361 b)) (fun b => f24 391 b (nr_X12_lays_309__391 b)) (fun a b h => f24 a b (nz_X12_lays_309__407_606 a b h)) (fun a b h => f24 a b (nz_X12_lays_309__3220_3223 a b h)) (fun a b h => f24 a b (nz_X12_lays_309__3235_3437 a b h))
  have r41 := y_LE.fr r20 (fun b => f24 3438 b (nr_X12_lays_309__3438 b))
  have r42 := y_BP.fr r21 (by omega) (f24 309 58 (by decide)) (fun b => f24 3220 b (nr_X12_lays_309__3220 b)) (fun a b h => f24 a b (nz_X12_lays_309__3452_3651 a b h))
  refine T_if1 (by decide +kernel) ?_
  refine T_let 312 (by decide +kernel) ?_
  refine T_if1 (z_ixl (n := 9) (by decide +kernel) (by omega) (by omega)) ?_
  refine T_leq (fun x43 e44 => ?_)
  have u45 := CI_b c23 (k := 312) (j := 0) (bdr_312 0)
  refine T_leq (fun x46 e47 => ?_)
  first | (have w48 := z_wx e47 (by omega)) | (have w48 := z_wr e47)
  refine sl_X12_laysLine_309K_L46 hfu r0 a1 x7 x17 x26 x46 0 (by omega) (by omega) (by omega) (by omega) (by omega) (by omega) (fun s49 y52 c50 f51 b53 g54 g55 g56 g57 g58 g59 g60 g61 g62 g63 => ?_) fu s22 0 x7 c23 f25 (by omega) (by omega) (by omega) (by omega) (by omega) r37 (by first | exact y_L.cg r38 (by omega)) (by first | exact y_E.cg o28 (by omega) (by omega)) (by first | exact y_BP.cg r42 (by omega)) (by first | exact y_LE.cg r41 (by omega) (by omega)) (by omega) (by omega) (by first | exact r40 | exact y_KM.z (by omega)) (by omega)
  have u64 := CI_b c50 (k := 309) (j := 20) bd_309_20
  have u65 := CI_b c50 (k := 309) (j := 36) bd_309_36
  have u66 := CI_b c50 (k := 309) (j := 43) bd_309_43
  have u67 := CI_b c50 (k := 309) (j := 44) bd_309_44
  have u68 := CI_b c50 (k := 309) (j := 58) bd_309_58
  have u69 := CI_b c50 (k := 316) (j := 0) bd_316_0
  have t70 : s49 309 20 = r0 309 20 := f51 309 20 (by decide)
  have t71 : s49 309 44 = r0 309 44 := f51 309 44 (by decide)
  have t72 : s49 316 0 = r0 316 0 := f51 316 0 (by decide)
  refine T_if1 (by decide +kernel) ?_
  refine T_let 3446 (by decide +kernel) ?_
  refine T_if1 (z_ixl (n := 200) (by decide +kernel) (by omega) (by omega)) ?_
  refine T_upg c50 (bdr_3446 a1) (by omega) (fun s73 c74 g76 g77 e78 => ?_)
  have f75 := z_Fr.up (R := R_X12_laysLine_309) f51 g76 (fun _ => (Or.inr (Or.inl (⟨by decide, by decide⟩))))
  have t79 : s73 309 20 = s49 309 20 := g76 309 20 (by decide)
  have t80 : s73 309 36 = s49 309 36 := g76 309 36 (by decide)
  have t81 : s73 309 43 = s49 309 43 := g76 309 43 (by decide)
  have t82 : s73 309 44 = s49 309 44 := g76 309 44 (by decide)
  have t83 : s73 309 58 = s49 309 58 := g76 309 58 (by decide)
  have t84 : s73 316 0 = s49 316 0 := g76 316 0 (by decide)
  have r85 := y_B.fr g56 (g76 309 20 (by decide)) (g76 316 0 (by decide)) (fun b => g76 3220 b (by decide)) (fun b => g76 3221 b (by decide)) (fun b => g76 3222 b (by decide)) (fun b => g76 361 b (by decide))
  have r86 := y_L.fr g57 (g76 309 20 (by decide)) (fun b => g76 3438 b (by decide))
  have r87 := y_E.fr g58 (fun b => g76 3229 b (by decide)) (fun b => g76 3220 b (by decide))
  have r88 := y_BP.fr g59 (by omega) (g76 309 58 (by decide)) (fun b => g76 3220 b (by decide)) (fun a b h => g76 a b (by omega))
  have r89 := y_LE.fr g60 (fun b => g76 3438 b (by decide))
  have r90 := y_KM.fr g63 (g76 309 20 (by decide)) (g76 309 36 (by decide)) (g76 309 38 (by decide)) (g76 309 39 (by decide)) (fun b => g76 312 b (by decide)) (fun b => g76 331 b (by decide)) (fun b => g76 346 b (by decide)) (fun b => g76 361 b (by decide)) (fun b => g76 391 b (by decide)) (fun a b h => g76 a b (by omega)) (fun a b h => g76 a b (by omega)) (fun a b h => g76 a b (by omega))
  refine T_if1 (by decide +kernel) ?_
  refine T_let 3447 (by decide +kernel) ?_
  refine T_if1 (z_ixl (n := 200) (by decide +kernel) (by omega) (by omega)) ?_
  refine T_upg c74 (bdr_3447 a1) (by omega) (fun s91 c92 g94 g95 e96 => ?_)
  have f93 := z_Fr.up (R := R_X12_laysLine_309) f75 g94 (fun _ => (Or.inr (Or.inl (⟨by decide, by decide⟩))))
  have t97 : s91 309 20 = s49 309 20 := (g94 309 20 (by decide)).trans t79
  have t98 : s91 309 36 = s49 309 36 := (g94 309 36 (by decide)).trans t80
  have t99 : s91 309 43 = s49 309 43 := (g94 309 43 (by decide)).trans t81
  have t100 : s91 309 44 = s49 309 44 := (g94 309 44 (by decide)).trans t82
  have t101 : s91 309 58 = s49 309 58 := (g94 309 58 (by decide)).trans t83
  have t102 : s91 316 0 = s49 316 0 := (g94 316 0 (by decide)).trans t84
  have r103 := y_B.fr r85 (g94 309 20 (by decide)) (g94 316 0 (by decide)) (fun b => g94 3220 b (by decide)) (fun b => g94 3221 b (by decide)) (fun b => g94 3222 b (by decide)) (fun b => g94 361 b (by decide))
  have r104 := y_L.fr r86 (g94 309 20 (by decide)) (fun b => g94 3438 b (by decide))
  have r105 := y_E.fr r87 (fun b => g94 3229 b (by decide)) (fun b => g94 3220 b (by decide))
  have r106 := y_BP.fr r88 (by omega) (g94 309 58 (by decide)) (fun b => g94 3220 b (by decide)) (fun a b h => g94 a b (by omega))
  have r107 := y_LE.fr r89 (fun b => g94 3438 b (by decide))
  have r108 := y_KM.fr r90 (g94 309 20 (by decide)) (g94 309 36 (by decide)) (g94 309 38 (by decide)) (g94 309 39 (by decide)) (fun b => g94 312 b (by decide)) (fun b => g94 331 b (by decide)) (fun b => g94 346 b (by decide)) (fun b => g94 361 b (by decide)) (fun b => g94 391 b (by decide)) (fun a b h => g94 a b (by omega)) (fun a b h => g94 a b (by omega)) (fun a b h => g94 a b (by omega))
  clear t79
  clear t80
  clear t81
  clear t82
  clear t83
  clear t84
  refine T_if1 (by decide +kernel) ?_
  refine T_let 3448 (by decide +kernel) ?_
  refine T_if1 (z_ixl (n := 200) (by decide +kernel) (by omega) (by omega)) ?_
  refine T_upg c92 (bdr_3448 a1) (by omega) (fun s109 c110 g112 g113 e114 => ?_)
  have f111 := z_Fr.up (R := R_X12_laysLine_309) f93 g112 (fun _ => (Or.inr (Or.inl (⟨by decide, by decide⟩))))
  have t115 : s109 309 20 = s49 309 20 := (g112 309 20 (by decide)).trans t97
  have t116 : s109 309 36 = s49 309 36 := (g112 309 36 (by decide)).trans t98
  have t117 : s109 309 43 = s49 309 43 := (g112 309 43 (by decide)).trans t99
  have t118 : s109 309 44 = s49 309 44 := (g112 309 44 (by decide)).trans t100
  have t119 : s109 309 58 = s49 309 58 := (g112 309 58 (by decide)).trans t101
  have t120 : s109 316 0 = s49 316 0 := (g112 316 0 (by decide)).trans t102
  have r121 := y_B.fr r103 (g112 309 20 (by decide)) (g112 316 0 (by decide)) (fun b => g112 3220 b (by decide)) (fun b => g112 3221 b (by decide)) (fun b => g112 3222 b (by decide)) (fun b => g112 361 b (by decide))
  have r122 := y_L.fr r104 (g112 309 20 (by decide)) (fun b => g112 3438 b (by decide))
  have r123 := y_E.fr r105 (fun b => g112 3229 b (by decide)) (fun b => g112 3220 b (by decide))
  have r124 := y_BP.fr r106 (by omega) (g112 309 58 (by decide)) (fun b => g112 3220 b (by decide)) (fun a b h => g112 a b (by omega))
  have r125 := y_LE.fr r107 (fun b => g112 3438 b (by decide))
  have r126 := y_KM.fr r108 (g112 309 20 (by decide)) (g112 309 36 (by decide)) (g112 309 38 (by decide)) (g112 309 39 (by decide)) (fun b => g112 312 b (by decide)) (fun b => g112 331 b (by decide)) (fun b => g112 346 b (by decide)) (fun b => g112 361 b (by decide)) (fun b => g112 391 b (by decide)) (fun a b h => g112 a b (by omega)) (fun a b h => g112 a b (by omega)) (fun a b h => g112 a b (by omega))
  clear t97
  clear t98
  clear t99
  clear t100
  clear t101
  clear t102
  refine T_if1 (by decide +kernel) ?_
  refine T_let 3449 (by decide +kernel) ?_
  refine T_if1 (z_ixl (n := 200) (by decide +kernel) (by omega) (by omega)) ?_
  refine T_upg c110 (bdr_3449 a1) (by omega) (fun s127 c128 g130 g131 e132 => ?_)
  have f129 := z_Fr.up (R := R_X12_laysLine_309) f111 g130 (fun _ => (Or.inr (Or.inl (⟨by decide, by decide⟩))))
  have t133 : s127 309 20 = s49 309 20 := (g130 309 20 (by decide)).trans t115
  have t134 : s127 309 36 = s49 309 36 := (g130 309 36 (by decide)).trans t116
  have t135 : s127 309 43 = s49 309 43 := (g130 309 43 (by decide)).trans t117
  have t136 : s127 309 44 = s49 309 44 := (g130 309 44 (by decide)).trans t118
  have t137 : s127 309 58 = s49 309 58 := (g130 309 58 (by decide)).trans t119
  have t138 : s127 316 0 = s49 316 0 := (g130 316 0 (by decide)).trans t120
  have r139 := y_B.fr r121 (g130 309 20 (by decide)) (g130 316 0 (by decide)) (fun b => g130 3220 b (by decide)) (fun b => g130 3221 b (by decide)) (fun b => g130 3222 b (by decide)) (fun b => g130 361 b (by decide))
  have r140 := y_L.fr r122 (g130 309 20 (by decide)) (fun b => g130 3438 b (by decide))
  have r141 := y_E.fr r123 (fun b => g130 3229 b (by decide)) (fun b => g130 3220 b (by decide))
  have r142 := y_BP.fr r124 (by omega) (g130 309 58 (by decide)) (fun b => g130 3220 b (by decide)) (fun a b h => g130 a b (by omega))
  have r143 := y_LE.fr r125 (fun b => g130 3438 b (by decide))
  have r144 := y_KM.fr r126 (g130 309 20 (by decide)) (g130 309 36 (by decide)) (g130 309 38 (by decide)) (g130 309 39 (by decide)) (fun b => g130 312 b (by decide)) (fun b => g130 331 b (by decide)) (fun b => g130 346 b (by decide)) (fun b => g130 361 b (by decide)) (fun b => g130 391 b (by decide)) (fun a b h => g130 a b (by omega)) (fun a b h => g130 a b (by omega)) (fun a b h => g130 a b (by omega))
  clear t115
  clear t116
  clear t117
  clear t118
  clear t119
  clear t120
  refine T_if1 (by decide +kernel) ?_
  refine T_let 3450 (by decide +kernel) ?_
  refine T_if1 (by decide +kernel) ?_
  refine T_leq (fun x145 e146 => ?_)
  have u147 := CI_b c128 (k := 309) (j := 35) bd_309_35
  refine T_ite (fun h148 => ?_) (fun h148 => ?_)
  · exact sj_X12_laysLine_309K_J125 hfu r0 s127 c128 f129 a1 x7 x17 y52 x46 0 a1 0 (by omega) (by omega) (by omega) (by omega) (by omega) (by omega) (by omega) (by omega) (by omega) (by omega) r139 (by first | exact y_L.cg r140 (by omega)) (by first | exact y_E.cg r141 (by omega) (by omega)) (by first | exact y_BP.cg r142 (by omega)) (by first | exact y_LE.cg r143 (by omega) (by omega)) (by omega) (by omega) (by first | exact r144 | exact y_KM.z (by omega))
  · exact sj_X12_laysLine_309K_J125 hfu r0 s127 c128 f129 a1 x7 x17 y52 x46 0 a1 1 (by omega) (by omega) (by omega) (by omega) (by omega) (by omega) (by omega) (by omega) (by omega) (by omega) r139 (by first | exact y_L.cg r140 (by omega)) (by first | exact y_E.cg r141 (by omega) (by omega)) (by first | exact y_BP.cg r142 (by omega)) (by first | exact y_LE.cg r143 (by omega) (by omega)) (by omega) (by omega) (by first | exact r144 | exact y_KM.z (by omega))
abbrev P_X12_laysAll_309K (r0 : z_M) : z_V → z_M → Prop := fun v s' => z_CI s' ∧ z_Fr R_X12_laysAll_309 r0 s' ∧ (y_K s') ∧ (y_L s' (s' 309 44)) ∧ (y_BK s') ∧ (s' 309 36 ≠ 0) ∧ (s' 309 43 ≠ 0) ∧ (r0 309 36 = 0 ∨ r0 309 43 = 0 ∨ s' 309 44 = r0 309 44) ∧ (y_KM s') ∧ (v = vN)
theorem nz_X12_freshens_309__3452_3651 (a b : Int) (h : 3452 ≤ a ∧ a ≤ 3651) : ¬ R_X12_freshens_309 a b := by
  unfold R_X12_freshens_309; omega
theorem nz_X12_breaks_309__3452_3651 (a b : Int) (h : 3452 ≤ a ∧ a ≤ 3651) : ¬ R_X12_breaks_309 a b := by
  unfold R_X12_breaks_309; omega
theorem nr_X12_breaks_309__312 (b : Int) : ¬ R_X12_breaks_309 312 b := by
  unfold R_X12_breaks_309; omega
theorem nr_X12_breaks_309__331 (b : Int) : ¬ R_X12_breaks_309 331 b := by
  unfold R_X12_breaks_309; omega
theorem nr_X12_breaks_309__346 (b : Int) : ¬ R_X12_breaks_309 346 b := by
  unfold R_X12_breaks_309; omega
theorem nr_X12_breaks_309__391 (b : Int) : ¬ R_X12_breaks_309 391 b := by
  unfold R_X12_breaks_309; omega
theorem nz_X12_breaks_309__407_606 (a b : Int) (h : 407 ≤ a ∧ a ≤ 606) : ¬ R_X12_breaks_309 a b := by
  unfold R_X12_breaks_309; omega
theorem nz_X12_breaks_309__3220_3223 (a b : Int) (h : 3220 ≤ a ∧ a ≤ 3223) : ¬ R_X12_breaks_309 a b := by
  unfold R_X12_breaks_309; omega
theorem nr_X12_laysLine_309__312 (b : Int) : ¬ R_X12_laysLine_309 312 b := by
  unfold R_X12_laysLine_309; omega
theorem nr_X12_laysLine_309__331 (b : Int) : ¬ R_X12_laysLine_309 331 b := by
  unfold R_X12_laysLine_309; omega
theorem nr_X12_laysLine_309__346 (b : Int) : ¬ R_X12_laysLine_309 346 b := by
  unfold R_X12_laysLine_309; omega
theorem nr_X12_laysLine_309__391 (b : Int) : ¬ R_X12_laysLine_309 391 b := by
  unfold R_X12_laysLine_309; omega
theorem nz_X12_laysLine_309__407_606 (a b : Int) (h : 407 ≤ a ∧ a ≤ 606) : ¬ R_X12_laysLine_309 a b := by
  unfold R_X12_laysLine_309; omega
theorem nz_X12_laysLine_309__3220_3223 (a b : Int) (h : 3220 ≤ a ∧ a ≤ 3223) : ¬ R_X12_laysLine_309 a b := by
  unfold R_X12_laysLine_309; omega
theorem sl_X12_laysAll_309K_L39 {fu : Nat} (hfu : 8589934592 ≤ fu) (r0 : z_M) {k : z_M → z_O} (hk : ∀ (s' : z_M), z_CI s' → z_Fr R_X12_laysAll_309 r0 s' → (y_L s' (s' 309 44)) → (y_BK s') → (s' 309 36 ≠ 0) → (r0 309 36 = 0 ∨ r0 309 43 = 0) → (y_KM s') → z_T (k s') (P_X12_laysAll_309K r0)) : ∀ (F : Nat) (s : z_M) (a1 : Int), z_CI s → z_Fr R_X12_laysAll_309 r0 s → (0 ≤ a1 ∧ a1 ≤ 200) → (y_B s) → (y_L s (s 309 44)) → (y_BL s a1) → (a1 ≤ s 309 44) → (s 309 36 ≠ 0) → (r0 309 36 = 0 ∨ r0 309 43 = 0) → (y_KM s) → (2147483647 - a1 < (F : Int)) → z_T (fX12_laysAll_L39 fu 309 F s a1 k) (P_X12_laysAll_309K r0) := by
  intro F
  induction F with
  | zero =>
    intro s a1 c f b1 i0 i1 i2 i3 i4 i5 i6 hm
    have u36 := CI_b c (k := 309) (j := 20) bd_309_20
    have u37 := CI_b c (k := 309) (j := 36) bd_309_36
    have u38 := CI_b c (k := 309) (j := 43) bd_309_43
    have u39 := CI_b c (k := 309) (j := 44) bd_309_44
    have u40 := CI_b c (k := 309) (j := 58) bd_309_58
    have u41 := CI_b c (k := 316) (j := 0) bd_316_0
    exfalso; omega
  | succ F ih =>
    intro s a1 c f b1 i0 i1 i2 i3 i4 i5 i6 hm
    refine T_of (fX12_laysAll_L39.eq_2 ..) ?_
    have u1 := CI_b c (k := 309) (j := 20) bd_309_20
    have u2 := CI_b c (k := 309) (j := 36) bd_309_36
    have u3 := CI_b c (k := 309) (j := 43) bd_309_43
    have u4 := CI_b c (k := 309) (j := 44) bd_309_44
    have u5 := CI_b c (k := 309) (j := 58) bd_309_58
    have u6 := CI_b c (k := 316) (j := 0) bd_316_0
    have t7 : s 309 20 = r0 309 20 := f 309 20 (by decide)
    have t8 : s 316 0 = r0 316 0 := f 316 0 (by decide)
    refine T_if1 (by decide +kernel) ?_
    refine T_leq (fun x9 e10 => ?_)
    have u11 := CI_b c (k := 309) (j := 44) bd_309_44
    refine T_ite (fun h12 => ?_) (fun h12 => ?_)
    · exact hk s c f (by first | exact y_L.cg i1 (by omega)) (by first | exact y_BK.bl i2 i1 (by omega)) (by omega) (by omega) (by first | exact i6 | exact y_KM.z (by omega))
    · refine T_if1 (by decide +kernel) ?_
      refine T_useN (sf_X12_laysLine_309K hfu s c a1 (by omega) i0 (by first | exact y_L.cg i1 (by omega)) (by omega) (by first | exact y_BL.cg i2 (by omega) | exact y_BL.z (by omega) (by omega)) (by first | exact i6 | exact y_KM.z (by omega))) (fun v18 s13 hq => ?_)
      obtain ⟨c14, f15, o19, o20, o21, o22, rfl⟩ := hq
      refine T_vN ?_
      have f16 := z_Fr.tr (R := R_X12_laysAll_309) f f15 rs_X12_laysLine_309__X12_laysAll_309
      have t25 : s13 309 20 = s 309 20 := f15 309 20 (by decide)
      have t26 : s13 309 44 = x9 := (f15 309 44 (by decide)).trans e10
      have t27 : s13 316 0 = s 316 0 := f15 316 0 (by decide)
      have u28 := CI_b c14 (k := 309) (j := 36) bd_309_36
      have u29 := CI_b c14 (k := 309) (j := 43) bd_309_43
      have u30 := CI_b c14 (k := 309) (j := 58) bd_309_58
      have r31 := y_B.fr i0 (f15 309 20 (by decide)) (f15 316 0 (by decide)) (fun b => f15 3220 b (nr_X12_laysLine_309__3220 b)) (fun b => f15 3221 b (nr_X12_laysLine_309__3221 b)) (fun b => f15 3222 b (nr_X12_laysLine_309__3222 b)) (fun b => f15 361 b (nr_X12_laysLine_309__361 b))
      have r32 := y_L.fr i1 (f15 309 20 (by decide)) (fun b => f15 3438 b (nr_X12_laysLine_309__3438 b))
      refine T_leq (fun x33 e34 => ?_)
      first | (have w35 := z_wx e34 (by omega)) | (have w35 := z_wr e34)
      exact ih s13 x33 c14 f16 (by omega) r31 (by first | exact y_L.cg r32 (by omega)) (by first | exact y_BL.cg o19 (by omega) | exact y_BL.z (by omega) (by omega)) (by omega) (by omega) (by omega) (by first | exact o22 | exact y_KM.z (by omega)) (by omega)
set_option maxHeartbeats 4000000 in
theorem sf_X12_laysAll_309K {fu : Nat} (hfu : 8589934592 ≤ fu) (r0 : z_M) (c0 : z_CI r0) (p0 : y_B r0) (p1 : y_K r0) (p2 : y_KM r0) : z_T (fX12_laysAll fu r0 309) (P_X12_laysAll_309K r0) := by
  refine T_of (fX12_laysAll.eq_1 ..) ?_
  have u1 := CI_b c0 (k := 309) (j := 20) bd_309_20
  have u2 := CI_b c0 (k := 309) (j := 36) bd_309_36
  have u3 := CI_b c0 (k := 309) (j := 43) bd_309_43
  have u4 := CI_b c0 (k := 309) (j := 44) bd_309_44
  have u5 := CI_b c0 (k := 309) (j := 58) bd_309_58
  have u6 := CI_b c0 (k := 316) (j := 0) bd_316_0
  refine T_if1 (by decide +kernel) ?_
  refine T_useN (sf_X12_freshens_309K hfu r0 c0 p0 (by first | exact p2 | exact y_KM.z (by omega))) (fun v12 s7 hq => ?_)
  obtain ⟨c8, f9, o13, o14, o15, o16, o17, rfl⟩ := hq
  refine T_vN ?_
  have f10 := z_Fr.tr (R := R_X12_laysAll_309) z_Fr.rf f9 rs_X12_freshens_309__X12_laysAll_309
  have t20 : s7 309 20 = r0 309 20 := f9 309 20 (by decide)
  have t21 : s7 309 44 = r0 309 44 := f9 309 44 (by decide)
  have t22 : s7 309 58 = r0 309 58 := f9 309 58 (by decide)
  have t23 : s7 316 0 = r0 316 0 := f9 316 0 (by decide)
  have u24 := CI_b c8 (k := 309) (j := 36) bd_309_36
  have u25 := CI_b c8 (k := 309) (j := 43) bd_309_43
  have r26 := y_B.fr p0 (f9 309 20 (by decide)) (f9 316 0 (by decide)) (fun b => f9 3220 b (nr_X12_freshens_309__3220 b)) (fun b => f9 3221 b (nr_X12_freshens_309__3221 b)) (fun b => f9 3222 b (nr_X12_freshens_309__3222 b)) (fun b => f9 361 b (nr_X12_freshens_309__361 b))
  have r27 := y_K.fr p1 (by omega) (by omega) (f9 309 44 (by decide)) (f9 309 20 (by decide)) (f9 309 58 (by decide)) (fun b => f9 3438 b (nr_X12_freshens_309__3438 b)) (fun b => f9 3220 b (nr_X12_freshens_309__3220 b)) (fun a b h => f9 a b (nz_X12_freshens_309__3452_3651 a b h))
  refine T_if1 (by decide +kernel) ?_
  refine T_leq (fun x28 e29 => ?_)
  have u30 := CI_b c8 (k := 309) (j := 43) bd_309_43
  refine T_ite (fun h31 => ?_) (fun h31 => ?_)
  · refine T_if1 (by decide +kernel) ?_
    refine T_let 312 (by decide +kernel) ?_
    refine T_if1 (z_ixl (n := 9) (by decide +kernel) (by omega) (by omega)) ?_
    refine T_leq (fun x32 e33 => ?_)
    have u34 := CI_b c8 (k := 312) (j := 0) (bdr_312 0)
    refine T_if1 (by decide +kernel) ?_
    refine T_let 312 (by decide +kernel) ?_
    refine T_if1 (z_ixl (n := 9) (by decide +kernel) (by omega) (by omega)) ?_
    refine T_leq (fun x35 e36 => ?_)
    have u37 := CI_b c8 (k := 312) (j := 3) (bdr_312 3)
    refine T_if1 (by decide +kernel) ?_
    refine T_useI (sf_X12_breaks_309K hfu s7 c8 x32 x35 (by omega) (by omega) r26 (by first | exact o17 | exact y_KM.z (by omega))) (fun v43 s38 hq => ?_)
    obtain ⟨c39, f40, o44, o45, o46, ⟨x42, rfl, b47, b48, o49⟩⟩ := hq
    refine T_vI ?_
    have f41 := z_Fr.tr (R := R_X12_laysAll_309) f10 f40 rs_X12_breaks_309__X12_laysAll_309
    have t50 : s38 309 20 = r0 309 20 := (f40 309 20 (by decide)).trans t20
    have t51 : s38 309 44 = r0 309 44 := (f40 309 44 (by decide)).trans t21
    have t52 : s38 309 58 = r0 309 58 := (f40 309 58 (by decide)).trans t22
    have t53 : s38 316 0 = r0 316 0 := (f40 316 0 (by decide)).trans t23
    have u54 := CI_b c39 (k := 309) (j := 36) bd_309_36
    have u55 := CI_b c39 (k := 309) (j := 43) bd_309_43
    have r56 := y_B.fr r26 (f40 309 20 (by decide)) (f40 316 0 (by decide)) (fun b => f40 3220 b (nr_X12_breaks_309__3220 b)) (fun b => f40 3221 b (nr_X12_breaks_309__3221 b)) (fun b => f40 3222 b (nr_X12_breaks_309__3222 b)) (fun b => f40 361 b (nr_X12_breaks_309__361 b))
    clear t20
    clear t21
    clear t22
    clear t23
    refine T_if1 (by decide +kernel) ?_
    refine T_upg c39 bd_309_44 (by omega) (fun s57 c58 g60 g61 e62 => ?_)
    have f59 := z_Fr.upf (R := R_X12_laysAll_309) f41 g60 g61 (Or.inr (⟨rfl, by decide⟩))
    have t63 : s57 309 20 = r0 309 20 := (g61 20 (by decide)).trans t50
    have t64 : s57 309 36 = s38 309 36 := g61 36 (by decide)
    have t65 : s57 309 43 = s38 309 43 := g61 43 (by decide)
    have t66 : s57 309 58 = r0 309 58 := (g61 58 (by decide)).trans t52
    have t67 : s57 316 0 = r0 316 0 := (g60 316 0 (by decide)).trans t53
    have u68 := CI_b c58 (k := 309) (j := 44) bd_309_44
    have r69 := y_B.fr r56 (g61 20 (by decide)) (g60 316 0 (by decide)) (fun b => g60 3220 b (by decide)) (fun b => g60 3221 b (by decide)) (fun b => g60 3222 b (by decide)) (fun b => g60 361 b (by decide))
    have r70 := y_KM.fr o46 (g61 20 (by decide)) (g61 36 (by decide)) (g61 38 (by decide)) (g61 39 (by decide)) (fun b => g60 312 b (by decide)) (fun b => g60 331 b (by decide)) (fun b => g60 346 b (by decide)) (fun b => g60 361 b (by decide)) (fun b => g60 391 b (by decide)) (fun a b h => g60 a b (by omega)) (fun a b h => g60 a b (by omega)) (fun a b h => g60 a b (by omega))
    have r71 := y_L.fr o49 (g61 20 (by decide)) (fun b => g60 3438 b (by decide))
    clear t50
    clear t52
    clear t53
    refine T_if1 (by decide +kernel) ?_
    refine T_upg c58 bd_309_58 (by omega) (fun s72 c73 g75 g76 e77 => ?_)
    have f74 := z_Fr.upf (R := R_X12_laysAll_309) f59 g75 g76 (Or.inr (⟨rfl, by decide⟩))
    have t78 : s72 309 20 = r0 309 20 := (g76 20 (by decide)).trans t63
    have t79 : s72 309 36 = s38 309 36 := (g76 36 (by decide)).trans t64
    have t80 : s72 309 43 = s38 309 43 := (g76 43 (by decide)).trans t65
    have t81 : s72 309 44 = s57 309 44 := g76 44 (by decide)
    have t82 : s72 316 0 = r0 316 0 := (g75 316 0 (by decide)).trans t67
    have u83 := CI_b c73 (k := 309) (j := 58) bd_309_58
    have r84 := y_B.fr r69 (g76 20 (by decide)) (g75 316 0 (by decide)) (fun b => g75 3220 b (by decide)) (fun b => g75 3221 b (by decide)) (fun b => g75 3222 b (by decide)) (fun b => g75 361 b (by decide))
    have r85 := y_KM.fr r70 (g76 20 (by decide)) (g76 36 (by decide)) (g76 38 (by decide)) (g76 39 (by decide)) (fun b => g75 312 b (by decide)) (fun b => g75 331 b (by decide)) (fun b => g75 346 b (by decide)) (fun b => g75 361 b (by decide)) (fun b => g75 391 b (by decide)) (fun a b h => g75 a b (by omega)) (fun a b h => g75 a b (by omega)) (fun a b h => g75 a b (by omega))
    have r86 := y_L.fr r71 (g76 20 (by decide)) (fun b => g75 3438 b (by decide))
    clear t63
    clear t64
    clear t65
    clear t67
    have n87 := CI_b c73 (k := 3438) (j := 0) (bdr_3438 0)
    refine sl_X12_laysAll_309K_L39 hfu r0 (fun s88 c89 f90 g91 g92 g93 g94 g95 => ?_) fu s72 0 c73 f74 (by omega) r84 (by first | exact y_L.cg r86 (by omega)) (by first | exact y_BL.z (by omega) (by omega)) (by omega) (by omega) (by omega) (by first | exact r85 | exact y_KM.z (by omega)) (by omega)
    have u96 := CI_b c89 (k := 309) (j := 20) bd_309_20
    have u97 := CI_b c89 (k := 309) (j := 36) bd_309_36
    have u98 := CI_b c89 (k := 309) (j := 43) bd_309_43
    have u99 := CI_b c89 (k := 309) (j := 44) bd_309_44
    have u100 := CI_b c89 (k := 309) (j := 58) bd_309_58
    have u101 := CI_b c89 (k := 316) (j := 0) bd_316_0
    have t102 : s88 309 20 = r0 309 20 := f90 309 20 (by decide)
    have t103 : s88 316 0 = r0 316 0 := f90 316 0 (by decide)
    refine T_if1 ⟨(by decide +kernel), by unfold z_bl; omega⟩ ?_
    refine T_upg c89 bd_309_43 (by omega) (fun s104 c105 g107 g108 e109 => ?_)
    have f106 := z_Fr.upf (R := R_X12_laysAll_309) f90 g107 g108 (Or.inr (⟨rfl, by decide⟩))
    have t110 : s104 309 20 = s88 309 20 := g108 20 (by decide)
    have t111 : s104 309 36 = s88 309 36 := g108 36 (by decide)
    have t112 : s104 309 44 = s88 309 44 := g108 44 (by decide)
    have t113 : s104 309 58 = s88 309 58 := g108 58 (by decide)
    have t114 : s104 316 0 = s88 316 0 := g107 316 0 (by decide)
    have u115 := CI_b c105 (k := 309) (j := 43) bd_309_43
    have r116 := y_L.fr g91 (g108 20 (by decide)) (fun b => g107 3438 b (by decide))
    have r117 := y_BK.fr g92 (by omega) (g108 20 (by decide)) (g108 58 (by decide)) (fun b => g107 3220 b (by decide)) (fun a b h => g107 a b (by omega))
    have r118 := y_KM.fr g95 (g108 20 (by decide)) (g108 36 (by decide)) (g108 38 (by decide)) (g108 39 (by decide)) (fun b => g107 312 b (by decide)) (fun b => g107 331 b (by decide)) (fun b => g107 346 b (by decide)) (fun b => g107 361 b (by decide)) (fun b => g107 391 b (by decide)) (fun a b h => g107 a b (by omega)) (fun a b h => g107 a b (by omega)) (fun a b h => g107 a b (by omega))
    exact T_ret ⟨c105, f106, (by first | exact y_K.b0 (by omega) | exact y_K.k0 (by omega) | exact y_K.bk (by omega) | exact y_K.mk r116 (by omega) r117), (by first | exact y_L.cg r116 (by omega)), r117, (by omega), (by omega), (by omega), (by first | exact r118 | exact y_KM.z (by omega)), rfl⟩
  · exact T_ret ⟨c8, f10, (by first | exact r27 | exact y_K.b0 (by omega) | exact y_K.k0 (by omega) | exact y_K.bk (by omega)), (by first | exact y_K.L r27 (by omega) (by omega)), (by first | exact y_K.B r27 (by omega) (by omega)), (by omega), (by omega), (by omega), (by first | exact o17 | exact y_KM.z (by omega)), rfl⟩
abbrev P_X12_costs_309K (r0 : z_M) : z_V → z_M → Prop := fun v s' => z_CI s' ∧ z_Fr R_X12_costs_309 r0 s' ∧ (s' 309 43 = 0 ∨ s' 309 36 = 0 ∨ (r0 309 36 ≠ 0 ∧ r0 309 43 ≠ 0)) ∧ (r0 309 36 = 0 ∨ s' 309 36 ≠ 0) ∧ (y_KM s') ∧ (∃ x, v = vL x ∧ -9223372036854775808 ≤ x ∧ x ≤ 9223372036854775807)
theorem sl_X12_costs_309K_L4 {fu : Nat} (hfu : 8589934592 ≤ fu) (r0 : z_M) {k : z_M → Int → z_O} (hk : ∀ (s' : z_M) (v1 : Int), z_CI s' → z_Fr R_X12_costs_309 r0 s' → (-9223372036854775808 ≤ v1 ∧ v1 ≤ 9223372036854775807) → (s' 309 43 = 0 ∨ s' 309 36 = 0 ∨ (r0 309 36 ≠ 0 ∧ r0 309 43 ≠ 0)) → (r0 309 36 = 0 ∨ s' 309 36 ≠ 0) → (y_KM s') → z_T (k s' v1) (P_X12_costs_309K r0)) : ∀ (F : Nat) (s : z_M) (a1 : Int) (a3 : Int), z_CI s → z_Fr R_X12_costs_309 r0 s → (-9223372036854775808 ≤ a1 ∧ a1 ≤ 9223372036854775807) → (0 ≤ a3 ∧ a3 ≤ 200) → (y_B s) → (y_L s (s 309 44)) → (s 309 43 = 0 ∨ s 309 36 = 0 ∨ (r0 309 36 ≠ 0 ∧ r0 309 43 ≠ 0)) → (r0 309 36 = 0 ∨ s 309 36 ≠ 0) → (y_KM s) → (2147483647 - a3 < (F : Int)) → z_T (fX12_costs_L4 fu 309 F s a1 a3 k) (P_X12_costs_309K r0) := by
  intro F
  induction F with
  | zero =>
    intro s a1 a3 c f b1 b3 i0 i1 i2 i3 i4 hm
    have u53 := CI_b c (k := 309) (j := 20) bd_309_20
    have u54 := CI_b c (k := 309) (j := 36) bd_309_36
    have u55 := CI_b c (k := 309) (j := 43) bd_309_43
    have u56 := CI_b c (k := 309) (j := 44) bd_309_44
    have u57 := CI_b c (k := 316) (j := 0) bd_316_0
    exfalso; omega
  | succ F ih =>
    intro s a1 a3 c f b1 b3 i0 i1 i2 i3 i4 hm
    refine T_of (fX12_costs_L4.eq_2 ..) ?_
    have u1 := CI_b c (k := 309) (j := 20) bd_309_20
    have u2 := CI_b c (k := 309) (j := 36) bd_309_36
    have u3 := CI_b c (k := 309) (j := 43) bd_309_43
    have u4 := CI_b c (k := 309) (j := 44) bd_309_44
    have u5 := CI_b c (k := 316) (j := 0) bd_316_0
    have t6 : s 309 20 = r0 309 20 := f 309 20 (by decide)
    have t7 : s 309 44 = r0 309 44 := f 309 44 (by decide)
    have t8 : s 316 0 = r0 316 0 := f 316 0 (by decide)
    refine T_if1 (by decide +kernel) ?_
    refine T_leq (fun x9 e10 => ?_)
    have u11 := CI_b c (k := 309) (j := 44) bd_309_44
    refine T_ite (fun h12 => ?_) (fun h12 => ?_)
    · exact hk s a1 c f (by omega) (by omega) (by omega) (by first | exact i4 | exact y_KM.z (by omega))
    · refine T_if1 (by decide +kernel) ?_
      refine T_let 3438 (by decide +kernel) ?_
      refine T_if1 (z_ixl (n := 201) (by decide +kernel) (by omega) (by omega)) ?_
      refine T_leq (fun x13 e14 => ?_)
      have u15 := CI_b c (k := 3438) (j := a3) (bdr_3438 a3)
      refine T_if1 (by decide +kernel) ?_
      refine T_let 3438 (by decide +kernel) ?_
      refine T_leq (fun x16 e17 => ?_)
      first | (have w18 := z_wx e17 (by omega)) | (have w18 := z_wr e17)
      have n19 := y_L.at i1 (i := a3) (j := x16) (by omega) (by omega) (by omega)
      refine T_if1 (z_ixl (n := 201) (by decide +kernel) (by omega) (by omega)) ?_
      refine T_leq (fun x20 e21 => ?_)
      have u22 := CI_b c (k := 3438) (j := x16) (bdr_3438 x16)
      refine T_leq (fun x23 e24 => ?_)
      first | (have w25 := z_wx e24 (by omega)) | (have w25 := z_wr e24)
      refine T_if1 (by decide +kernel) ?_
      refine T_let 312 (by decide +kernel) ?_
      refine T_if1 (z_ixl (n := 9) (by decide +kernel) (by omega) (by omega)) ?_
      refine T_leq (fun x26 e27 => ?_)
      have u28 := CI_b c (k := 312) (j := 0) (bdr_312 0)
      refine T_if1 (by decide +kernel) ?_
      refine T_useL (sf_X12_cost_309K hfu s c x13 x23 x26 (by omega) (by omega) (by omega) i0 (by omega) (by omega) (by first | exact i4 | exact y_KM.z (by omega))) (fun v34 s29 hq => ?_)
      obtain ⟨c30, f31, o35, o36, o37, ⟨x33, rfl, b38, b39⟩⟩ := hq
      refine T_vL ?_
      have f32 := z_Fr.tr (R := R_X12_costs_309) f f31 rs_X12_cost_309__X12_costs_309
      have t40 : s29 309 20 = s 309 20 := f31 309 20 (by decide)
      have t41 : s29 309 44 = x9 := (f31 309 44 (by decide)).trans e10
      have t42 : s29 316 0 = s 316 0 := f31 316 0 (by decide)
      have u43 := CI_b c30 (k := 309) (j := 36) bd_309_36
      have u44 := CI_b c30 (k := 309) (j := 43) bd_309_43
      have r45 := y_B.fr i0 (f31 309 20 (by decide)) (f31 316 0 (by decide)) (fun b => f31 3220 b (nr_X12_cost_309__3220 b)) (fun b => f31 3221 b (nr_X12_cost_309__3221 b)) (fun b => f31 3222 b (nr_X12_cost_309__3222 b)) (fun b => f31 361 b (nr_X12_cost_309__361 b))
      have r46 := y_L.fr i1 (f31 309 20 (by decide)) (fun b => f31 3438 b (nr_X12_cost_309__3438 b))
      refine T_leq (fun x47 e48 => ?_)
      have w49 := z_wlr e48
      refine T_leq (fun x50 e51 => ?_)
      have q52 : x16 = x50 := e17.symm.trans e51
      subst q52
      exact ih s29 x47 x16 c30 f32 (by omega) (by omega) r45 (by first | exact y_L.cg r46 (by omega)) (by omega) (by omega) (by first | exact o37 | exact y_KM.z (by omega)) (by omega)
theorem sf_X12_costs_309K {fu : Nat} (hfu : 8589934592 ≤ fu) (r0 : z_M) (c0 : z_CI r0) (p0 : y_B r0) (p1 : y_L r0 (r0 309 44)) (p2 : y_KM r0) : z_T (fX12_costs fu r0 309) (P_X12_costs_309K r0) := by
  refine T_of (fX12_costs.eq_1 ..) ?_
  have u1 := CI_b c0 (k := 309) (j := 20) bd_309_20
  have u2 := CI_b c0 (k := 309) (j := 36) bd_309_36
  have u3 := CI_b c0 (k := 309) (j := 43) bd_309_43
  have u4 := CI_b c0 (k := 309) (j := 44) bd_309_44
  have u5 := CI_b c0 (k := 316) (j := 0) bd_316_0
  refine sl_X12_costs_309K_L4 hfu r0 (fun s6 y9 c7 f8 b10 g11 g12 g13 => ?_) fu r0 0 0 c0 z_Fr.rf (by omega) (by omega) p0 (by first | exact y_L.cg p1 (by omega)) (by omega) (by omega) (by first | exact p2 | exact y_KM.z (by omega)) (by omega)
  have u14 := CI_b c7 (k := 309) (j := 20) bd_309_20
  have u15 := CI_b c7 (k := 309) (j := 36) bd_309_36
  have u16 := CI_b c7 (k := 309) (j := 43) bd_309_43
  have u17 := CI_b c7 (k := 309) (j := 44) bd_309_44
  have u18 := CI_b c7 (k := 316) (j := 0) bd_316_0
  have t19 : s6 309 20 = r0 309 20 := f8 309 20 (by decide)
  have t20 : s6 309 44 = r0 309 44 := f8 309 44 (by decide)
  have t21 : s6 316 0 = r0 316 0 := f8 316 0 (by decide)
  exact T_ret ⟨c7, f8, (by omega), (by omega), (by first | exact g13 | exact y_KM.z (by omega)), ⟨y9, rfl, by omega, by omega⟩⟩
abbrev P_X12_told_309K (r0 : z_M) : z_V → z_M → Prop := fun v s' => z_CI s' ∧ z_Fr R_X12_told_309 r0 s' ∧ (y_TA s') ∧ (y_DD s') ∧ (y_B s') ∧ (y_K s') ∧ (y_KM s') ∧ (∃ x, v = vL x ∧ -9223372036854775808 ≤ x ∧ x ≤ 9223372036854775807)
theorem nz_X12_laysAll_309__316_328 (a b : Int) (h : 316 ≤ a ∧ a ≤ 328) : ¬ R_X12_laysAll_309 a b := by
  unfold R_X12_laysAll_309; omega
theorem nz_X12_laysAll_309__346_358 (a b : Int) (h : 346 ≤ a ∧ a ≤ 358) : ¬ R_X12_laysAll_309 a b := by
  unfold R_X12_laysAll_309; omega
theorem nz_X12_laysAll_309__361_373 (a b : Int) (h : 361 ≤ a ∧ a ≤ 373) : ¬ R_X12_laysAll_309 a b := by
  unfold R_X12_laysAll_309; omega
theorem nr_X12_laysAll_309__331 (b : Int) : ¬ R_X12_laysAll_309 331 b := by
  unfold R_X12_laysAll_309; omega
theorem nr_X12_laysAll_309__346 (b : Int) : ¬ R_X12_laysAll_309 346 b := by
  unfold R_X12_laysAll_309; omega
theorem nr_X12_laysAll_309__391 (b : Int) : ¬ R_X12_laysAll_309 391 b := by
  unfold R_X12_laysAll_309; omega
theorem nz_X12_laysAll_309__407_606 (a b : Int) (h : 407 ≤ a ∧ a ≤ 606) : ¬ R_X12_laysAll_309 a b := by
  unfold R_X12_laysAll_309; omega
theorem nz_X12_laysAll_309__3220_3223 (a b : Int) (h : 3220 ≤ a ∧ a ≤ 3223) : ¬ R_X12_laysAll_309 a b := by
  unfold R_X12_laysAll_309; omega
theorem nz_X12_costs_309__316_328 (a b : Int) (h : 316 ≤ a ∧ a ≤ 328) : ¬ R_X12_costs_309 a b := by
  unfold R_X12_costs_309; omega
theorem nz_X12_costs_309__346_358 (a b : Int) (h : 346 ≤ a ∧ a ≤ 358) : ¬ R_X12_costs_309 a b := by
  unfold R_X12_costs_309; omega
theorem nz_X12_costs_309__361_373 (a b : Int) (h : 361 ≤ a ∧ a ≤ 373) : ¬ R_X12_costs_309 a b := by
  unfold R_X12_costs_309; omega
theorem nz_X12_costs_309__3452_3651 (a b : Int) (h : 3452 ≤ a ∧ a ≤ 3651) : ¬ R_X12_costs_309 a b := by
  unfold R_X12_costs_309; omega
theorem nr_X12_costs_309__312 (b : Int) : ¬ R_X12_costs_309 312 b := by
  unfold R_X12_costs_309; omega
theorem nr_X12_costs_309__331 (b : Int) : ¬ R_X12_costs_309 331 b := by
  unfold R_X12_costs_309; omega
theorem nr_X12_costs_309__346 (b : Int) : ¬ R_X12_costs_309 346 b := by
  unfold R_X12_costs_309; omega
theorem nr_X12_costs_309__391 (b : Int) : ¬ R_X12_costs_309 391 b := by
  unfold R_X12_costs_309; omega
theorem nz_X12_costs_309__407_606 (a b : Int) (h : 407 ≤ a ∧ a ≤ 606) : ¬ R_X12_costs_309 a b := by
  unfold R_X12_costs_309; omega
theorem nz_X12_costs_309__3220_3223 (a b : Int) (h : 3220 ≤ a ∧ a ≤ 3223) : ¬ R_X12_costs_309 a b := by
  unfold R_X12_costs_309; omega
set_option maxHeartbeats 4000000 in
theorem sj_X12_told_309K_J21 {fu : Nat} (hfu : 8589934592 ≤ fu) (r0 s : z_M) (c : z_CI s) (f : z_Fr R_X12_told_309 r0 s) (a1 : Int) (t1 : Int) (b1 : -2147483648 ≤ a1 ∧ a1 ≤ 2147483647) (d1 : 0 ≤ t1 ∧ t1 ≤ 1) (p0 : t1 = 1 ∨ (0 ≤ a1 ∧ a1 ≤ 19)) (p1 : y_TA s) (p2 : y_DD s) (p3 : y_B s) (p4 : y_K s) (p5 : y_KM s) : z_T (fX12_told_J21 fu s 309 a1 309 t1) (P_X12_told_309K r0) := by
  refine T_of (fX12_told_J21.eq_1 ..) ?_
  have u1 := CI_b c (k := 309) (j := 20) bd_309_20
  have u2 := CI_b c (k := 309) (j := 36) bd_309_36
  have u3 := CI_b c (k := 309) (j := 43) bd_309_43
  have u4 := CI_b c (k := 309) (j := 44) bd_309_44
  have u5 := CI_b c (k := 309) (j := 58) bd_309_58
  have u6 := CI_b c (k := 316) (j := 0) bd_316_0
  have u7 := CI_b c (k := 329) (j := 0) bd_329_0
  have u8 := CI_b c (k := 329) (j := 1) bd_329_1
  have t9 : s 309 20 = r0 309 20 := f 309 20 (by decide)
  have t10 : s 316 0 = r0 316 0 := f 316 0 (by decide)
  have t11 : s 329 0 = r0 329 0 := f 329 0 (by decide)
  have t12 : s 329 1 = r0 329 1 := f 329 1 (by decide)
  refine T_if1 (by decide +kernel) ?_
  refine T_useI (sf_X12_bad_309 hfu s c t1 1 1 (by omega) (by omega) (by omega) (by omega)) (fun v18 s13 hq => ?_)
  obtain ⟨c14, f15, o19, ⟨x17, rfl, b20, b21, o22, o23⟩⟩ := hq
  refine T_vI ?_
  have f16 := z_Fr.tr (R := R_X12_told_309) f f15 rs_X12_bad_309__X12_told_309
  have t24 : s13 309 20 = s 309 20 := f15 309 20 (by decide)
  have t25 : s13 309 36 = s 309 36 := f15 309 36 (by decide)
  have t26 : s13 309 43 = s 309 43 := f15 309 43 (by decide)
  have t27 : s13 309 44 = s 309 44 := f15 309 44 (by decide)
  have t28 : s13 309 58 = s 309 58 := f15 309 58 (by decide)
  have t29 : s13 316 0 = s 316 0 := f15 316 0 (by decide)
  have t30 : s13 329 0 = s 329 0 := f15 329 0 (by decide)
  have t31 : s13 329 1 = s 329 1 := f15 329 1 (by decide)
  have r32 := y_TA.fr p1 (fun a b h => f15 a b (nz_X12_bad_309__316_328 a b h)) (fun a b h => f15 a b (nz_X12_bad_309__346_358 a b h)) (fun a b h => f15 a b (nz_X12_bad_309__361_373 a b h))
  have r33 := y_DD.fr p2 (f15 329 0 (by decide)) (f15 329 1 (by decide)) (fun b => f15 359 b (nr_X12_bad_309__359 b)) (fun b => f15 374 b (nr_X12_bad_309__374 b))
  have r34 := y_B.fr p3 (f15 309 20 (by decide)) (f15 316 0 (by decide)) (fun b => f15 3220 b (nr_X12_bad_309__3220 b)) (fun b => f15 3221 b (nr_X12_bad_309__3221 b)) (fun b => f15 3222 b (nr_X12_bad_309__3222 b)) (fun b => f15 361 b (nr_X12_bad_309__361 b))
  have r35 := y_K.fr p4 (by omega) (by omega) (f15 309 44 (by decide)) (f15 309 20 (by decide)) (f15 309 58 (by decide)) (fun b => f15 3438 b (nr_X12_bad_309__3438 b)) (fun b => f15 3220 b (nr_X12_bad_309__3220 b)) (fun a b h => f15 a b (nz_X12_bad_309__3452_3651 a b h))
  have r36 := y_KM.fr p5 (f15 309 20 (by decide)) (f15 309 36 (by decide)) (f15 309 38 (by decide)) (f15 309 39 (by decide)) (fun b => f15 312 b (nr_X12_bad_309__312 b)) (fun b => f15 331 b (nr_X12_bad_309__331 b)) (fun b => f15 346 b (nr_X12_bad_309__346 b)) (fun b => f15 361 b (nr_X12_bad_309__361 b)) (fun b => f15 391 b (nr_X12_bad_309__391 b)) (fun a b h => f15 a b (nz_X12_bad_309__407_606 a b h)) (fun a b h => f15 a b (nz_X12_bad_309__3220_3223 a b h)) (fun a b h => f15 a b (nz_X12_bad_309__3235_3437 a b h))
  refine T_ite (fun h37 => ?_) (fun h37 => ?_)
  · refine T_if1 (by decide +kernel) ?_
    refine T_useN (sf_X12_laysAll_309K hfu s13 c14 r34 (by first | exact r35 | exact y_K.b0 (by omega) | exact y_K.k0 (by omega) | exact y_K.bk (by omega)) (by first | exact r36 | exact y_KM.z (by omega))) (fun v43 s38 hq => ?_)
    obtain ⟨c39, f40, o44, o45, o46, o47, o48, o49, o50, rfl⟩ := hq
    refine T_vN ?_
    have f41 := z_Fr.tr (R := R_X12_told_309) f16 f40 rs_X12_laysAll_309__X12_told_309
    have t53 : s38 309 20 = s 309 20 := (f40 309 20 (by decide)).trans t24
    have t54 : s38 316 0 = s 316 0 := (f40 316 0 (by decide)).trans t29
    have t55 : s38 329 0 = s 329 0 := (f40 329 0 (by decide)).trans t30
    have t56 : s38 329 1 = s 329 1 := (f40 329 1 (by decide)).trans t31
    have u57 := CI_b c39 (k := 309) (j := 36) bd_309_36
    have u58 := CI_b c39 (k := 309) (j := 43) bd_309_43
    have u59 := CI_b c39 (k := 309) (j := 44) bd_309_44
    have u60 := CI_b c39 (k := 309) (j := 58) bd_309_58
    have r61 := y_TA.fr r32 (fun a b h => f40 a b (nz_X12_laysAll_309__316_328 a b h)) (fun a b h => f40 a b (nz_X12_laysAll_309__346_358 a b h)) (fun a b h => f40 a b (nz_X12_laysAll_309__361_373 a b h))
    have r62 := y_DD.fr r33 (f40 329 0 (by decide)) (f40 329 1 (by decide)) (fun b => f40 359 b (nr_X12_laysAll_309__359 b)) (fun b => f40 374 b (nr_X12_laysAll_309__374 b))
    have r63 := y_B.fr r34 (f40 309 20 (by decide)) (f40 316 0 (by decide)) (fun b => f40 3220 b (nr_X12_laysAll_309__3220 b)) (fun b => f40 3221 b (nr_X12_laysAll_309__3221 b)) (fun b => f40 3222 b (nr_X12_laysAll_309__3222 b)) (fun b => f40 361 b (nr_X12_laysAll_309__361 b))
    clear t24
    clear t29
    clear t30
    clear t31
    refine T_ite (fun h64 => ?_) (fun h64 => ?_)
    · refine T_if1 (by decide +kernel) ?_
      refine T_leq (fun x65 e66 => ?_)
      have u67 := CI_b c39 (k := 309) (j := 20) bd_309_20
      exact T_ret ⟨c39, f41, r61, (by first | exact r62 | exact y_DD.z (by omega) (by omega)), r63, (by first | exact o44 | exact y_K.b0 (by omega) | exact y_K.k0 (by omega) | exact y_K.bk (by omega) | exact y_K.mk o45 (by omega) o46), (by first | exact o50 | exact y_KM.z (by omega)), ⟨x65, rfl, by omega, by omega⟩⟩
    · refine T_ite (fun h68 => ?_) (fun h68 => ?_)
      · refine T_if1 (by decide +kernel) ?_
        refine T_let 315 (by decide +kernel) ?_
        refine T_if1 (z_ixl (n := 14) (by decide +kernel) (by omega) (by omega)) ?_
        refine T_let 316 (by decide +kernel) ?_
        refine T_if1 (z_ixl (n := 3) (by decide +kernel) (by omega) (by omega)) ?_
        refine T_leq (fun x69 e70 => ?_)
        have u71 := CI_b c39 (k := 316) (j := 0) bd_316_0
        exact T_ret ⟨c39, f41, r61, (by first | exact r62 | exact y_DD.z (by omega) (by omega)), r63, (by first | exact o44 | exact y_K.b0 (by omega) | exact y_K.k0 (by omega) | exact y_K.bk (by omega) | exact y_K.mk o45 (by omega) o46), (by first | exact o50 | exact y_KM.z (by omega)), ⟨x69, rfl, by omega, by omega⟩⟩
      · refine T_ite (fun h72 => ?_) (fun h72 => ?_)
        · refine T_if1 (by decide +kernel) ?_
          refine T_bI ?_
          refine T_of (fX12_groupsOf.eq_1 ..) ?_
          refine T_if1 (by decide +kernel) ?_
          refine T_let 315 (by decide +kernel) ?_
          refine T_if1 (z_ixl (n := 14) (by decide +kernel) (by omega) (by omega)) ?_
          refine T_let 316 (by decide +kernel) ?_
          refine T_if1 (z_ixl (n := 3) (by decide +kernel) (by omega) (by omega)) ?_
          refine T_leq (fun x73 e74 => ?_)
          have u75 := CI_b c39 (k := 316) (j := 1) bd_316_1
          refine T_ite (fun h76 => ?_) (fun h76 => ?_)
          · refine T_if1 (by decide +kernel) ?_
            refine T_let 390 (by decide +kernel) ?_
            refine T_if1 (z_ixl (n := 14) (by decide +kernel) (by omega) (by omega)) ?_
            refine T_let 391 (by decide +kernel) ?_
            refine T_if1 (by decide +kernel) ?_
            refine T_let 315 (by decide +kernel) ?_
            refine T_if1 (z_ixl (n := 14) (by decide +kernel) (by omega) (by omega)) ?_
            refine T_let 316 (by decide +kernel) ?_
            refine T_if1 (z_ixl (n := 3) (by decide +kernel) (by omega) (by omega)) ?_
            refine T_leq (fun x77 e78 => ?_)
            have q79 : x73 = x77 := e74.symm.trans e78
            subst q79
            refine T_leq (fun x80 e81 => ?_)
            first | (have w82 := z_wx e81 (by omega)) | (have w82 := z_wr e81)
            refine T_if1 (z_ixl (n := 200) (by decide +kernel) (by omega) (by omega)) ?_
            refine T_leq (fun x83 e84 => ?_)
            have u85 := CI_b c39 (k := 391) (j := x80) (bdg (c := 391) (by omega) (by omega))
            refine T_leq (fun x86 e87 => ?_)
            first | (have w88 := z_wx e87 (by omega)) | (have w88 := z_wr e87)
            refine T_of (fX12_groupsOf_J34.eq_1 ..) ?_
            refine T_rI ?_
            exact T_ret ⟨c39, f41, r61, (by first | exact r62 | exact y_DD.z (by omega) (by omega)), r63, (by first | exact o44 | exact y_K.b0 (by omega) | exact y_K.k0 (by omega) | exact y_K.bk (by omega) | exact y_K.mk o45 (by omega) o46), (by first | exact o50 | exact y_KM.z (by omega)), ⟨x86, rfl, by omega, by omega⟩⟩
          · refine T_of (fX12_groupsOf_J34.eq_1 ..) ?_
            refine T_rI ?_
            exact T_ret ⟨c39, f41, r61, (by first | exact r62 | exact y_DD.z (by omega) (by omega)), r63, (by first | exact o44 | exact y_K.b0 (by omega) | exact y_K.k0 (by omega) | exact y_K.bk (by omega) | exact y_K.mk o45 (by omega) o46), (by first | exact o50 | exact y_KM.z (by omega)), ⟨0, rfl, by omega, by omega⟩⟩
        · refine T_ite (fun h89 => ?_) (fun h89 => ?_)
          · refine T_if1 (by decide +kernel) ?_
            refine T_leq (fun x90 e91 => ?_)
            have u92 := CI_b c39 (k := 309) (j := 44) bd_309_44
            exact T_ret ⟨c39, f41, r61, (by first | exact r62 | exact y_DD.z (by omega) (by omega)), r63, (by first | exact o44 | exact y_K.b0 (by omega) | exact y_K.k0 (by omega) | exact y_K.bk (by omega) | exact y_K.mk o45 (by omega) o46), (by first | exact o50 | exact y_KM.z (by omega)), ⟨x90, rfl, by omega, by omega⟩⟩
          · refine T_ite (fun h93 => ?_) (fun h93 => ?_)
            · refine T_if1 (by decide +kernel) ?_
              refine T_useI (sf_X12_longest_309 hfu s38 c39) (fun v99 s94 hq => ?_)
              obtain ⟨c95, f96, ⟨x98, rfl, b100, b101⟩⟩ := hq
              refine T_vI ?_
              have q102 := z_Fr.eq (fun a b h => h) f96
              subst q102
              exact T_ret ⟨c39, f41, r61, (by first | exact r62 | exact y_DD.z (by omega) (by omega)), r63, (by first | exact o44 | exact y_K.b0 (by omega) | exact y_K.k0 (by omega) | exact y_K.bk (by omega) | exact y_K.mk o45 (by omega) o46), (by first | exact o50 | exact y_KM.z (by omega)), ⟨x98, rfl, by omega, by omega⟩⟩
            · refine T_ite (fun h103 => ?_) (fun h103 => ?_)
              · refine T_if1 (by decide +kernel) ?_
                refine T_useL (sf_X12_costs_309K hfu s38 c39 r63 (by first | exact y_L.cg o45 (by omega) | exact y_K.L o44 (by omega) (by omega)) (by first | exact o50 | exact y_KM.z (by omega))) (fun v109 s104 hq => ?_)
                obtain ⟨c105, f106, o110, o111, o112, ⟨x108, rfl, b113, b114⟩⟩ := hq
                refine T_vL ?_
                have f107 := z_Fr.tr (R := R_X12_told_309) f41 f106 rs_X12_costs_309__X12_told_309
                have t115 : s104 309 20 = s 309 20 := (f106 309 20 (by decide)).trans t53
                have t116 : s104 309 44 = s38 309 44 := f106 309 44 (by decide)
                have t117 : s104 309 58 = s38 309 58 := f106 309 58 (by decide)
                have t118 : s104 316 0 = s 316 0 := (f106 316 0 (by decide)).trans t54
                have t119 : s104 329 0 = s 329 0 := (f106 329 0 (by decide)).trans t55
                have t120 : s104 329 1 = s 329 1 := (f106 329 1 (by decide)).trans t56
                have u121 := CI_b c105 (k := 309) (j := 36) bd_309_36
                have u122 := CI_b c105 (k := 309) (j := 43) bd_309_43
                have r123 := y_TA.fr r61 (fun a b h => f106 a b (nz_X12_costs_309__316_328 a b h)) (fun a b h => f106 a b (nz_X12_costs_309__346_358 a b h)) (fun a b h => f106 a b (nz_X12_costs_309__361_373 a b h))
                have r124 := y_DD.fr r62 (f106 329 0 (by decide)) (f106 329 1 (by decide)) (fun b => f106 359 b (nr_X12_costs_309__359 b)) (fun b => f106 374 b (nr_X12_costs_309__374 b))
                have r125 := y_B.fr r63 (f106 309 20 (by decide)) (f106 316 0 (by decide)) (fun b => f106 3220 b (nr_X12_costs_309__3220 b)) (fun b => f106 3221 b (nr_X12_costs_309__3221 b)) (fun b => f106 3222 b (nr_X12_costs_309__3222 b)) (fun b => f106 361 b (nr_X12_costs_309__361 b))
                have r126 := y_K.fr o44 (by omega) (by omega) (f106 309 44 (by decide)) (f106 309 20 (by decide)) (f106 309 58 (by decide)) (fun b => f106 3438 b (nr_X12_costs_309__3438 b)) (fun b => f106 3220 b (nr_X12_costs_309__3220 b)) (fun a b h => f106 a b (nz_X12_costs_309__3452_3651 a b h))
                have r127 := y_L.fr o45 (f106 309 20 (by decide)) (fun b => f106 3438 b (nr_X12_costs_309__3438 b))
                have r128 := y_BK.fr o46 (by omega) (f106 309 20 (by decide)) (f106 309 58 (by decide)) (fun b => f106 3220 b (nr_X12_costs_309__3220 b)) (fun a b h => f106 a b (nz_X12_costs_309__3452_3651 a b h))
                clear t53
                clear t54
                clear t55
                clear t56
                exact T_ret ⟨c105, f107, r123, (by first | exact r124 | exact y_DD.z (by omega) (by omega)), r125, (by first | exact r126 | exact y_K.b0 (by omega) | exact y_K.k0 (by omega) | exact y_K.bk (by omega) | exact y_K.mk r127 (by omega) r128), (by first | exact o112 | exact y_KM.z (by omega)), ⟨x108, rfl, by omega, by omega⟩⟩
              · refine T_ite (fun h129 => ?_) (fun h129 => ?_)
                · refine T_if1 (by decide +kernel) ?_
                  refine T_let 312 (by decide +kernel) ?_
                  refine T_leq (fun x130 e131 => ?_)
                  first | (have w132 := z_wx e131 (by omega)) | (have w132 := z_wr e131)
                  refine T_if1 (z_ixl (n := 9) (by decide +kernel) (by omega) (by omega)) ?_
                  refine T_leq (fun x133 e134 => ?_)
                  have u135 := CI_b c39 (k := 312) (j := x130) (bdr_312 x130)
                  exact T_ret ⟨c39, f41, r61, (by first | exact r62 | exact y_DD.z (by omega) (by omega)), r63, (by first | exact o44 | exact y_K.b0 (by omega) | exact y_K.k0 (by omega) | exact y_K.bk (by omega) | exact y_K.mk o45 (by omega) o46), (by first | exact o50 | exact y_KM.z (by omega)), ⟨x133, rfl, by omega, by omega⟩⟩
                · refine T_ite (fun h136 => ?_) (fun h136 => ?_)
                  · refine T_if1 (by decide +kernel) ?_
                    refine T_let 312 (by decide +kernel) ?_
                    refine T_leq (fun x137 e138 => ?_)
                    first | (have w139 := z_wx e138 (by omega)) | (have w139 := z_wr e138)
                    refine T_if1 (z_ixl (n := 9) (by decide +kernel) (by omega) (by omega)) ?_
                    refine T_leq (fun x140 e141 => ?_)
                    have u142 := CI_b c39 (k := 312) (j := x137) (bdr_312 x137)
                    exact T_ret ⟨c39, f41, r61, (by first | exact r62 | exact y_DD.z (by omega) (by omega)), r63, (by first | exact o44 | exact y_K.b0 (by omega) | exact y_K.k0 (by omega) | exact y_K.bk (by omega) | exact y_K.mk o45 (by omega) o46), (by first | exact o50 | exact y_KM.z (by omega)), ⟨x140, rfl, by omega, by omega⟩⟩
                  · refine T_ite (fun h143 => ?_) (fun h143 => ?_)
                    · refine T_if1 (by decide +kernel) ?_
                      refine T_let 312 (by decide +kernel) ?_
                      refine T_leq (fun x144 e145 => ?_)
                      first | (have w146 := z_wx e145 (by omega)) | (have w146 := z_wr e145)
                      refine T_if1 (z_ixl (n := 9) (by decide +kernel) (by omega) (by omega)) ?_
                      refine T_leq (fun x147 e148 => ?_)
                      have u149 := CI_b c39 (k := 312) (j := x144) (bdr_312 x144)
                      exact T_ret ⟨c39, f41, r61, (by first | exact r62 | exact y_DD.z (by omega) (by omega)), r63, (by first | exact o44 | exact y_K.b0 (by omega) | exact y_K.k0 (by omega) | exact y_K.bk (by omega) | exact y_K.mk o45 (by omega) o46), (by first | exact o50 | exact y_KM.z (by omega)), ⟨x147, rfl, by omega, by omega⟩⟩
                    · refine T_ite (fun h150 => ?_) (fun h150 => ?_)
                      · refine T_if1 (by decide +kernel) ?_
                        refine T_let 312 (by decide +kernel) ?_
                        refine T_leq (fun x151 e152 => ?_)
                        first | (have w153 := z_wx e152 (by omega)) | (have w153 := z_wr e152)
                        refine T_if1 (z_ixl (n := 9) (by decide +kernel) (by omega) (by omega)) ?_
                        refine T_leq (fun x154 e155 => ?_)
                        have u156 := CI_b c39 (k := 312) (j := x151) (bdr_312 x151)
                        exact T_ret ⟨c39, f41, r61, (by first | exact r62 | exact y_DD.z (by omega) (by omega)), r63, (by first | exact o44 | exact y_K.b0 (by omega) | exact y_K.k0 (by omega) | exact y_K.bk (by omega) | exact y_K.mk o45 (by omega) o46), (by first | exact o50 | exact y_KM.z (by omega)), ⟨x154, rfl, by omega, by omega⟩⟩
                      · refine T_ite (fun h157 => ?_) (fun h157 => ?_)
                        · refine T_if1 (by decide +kernel) ?_
                          refine T_let 312 (by decide +kernel) ?_
                          refine T_leq (fun x158 e159 => ?_)
                          first | (have w160 := z_wx e159 (by omega)) | (have w160 := z_wr e159)
                          refine T_if1 (z_ixl (n := 9) (by decide +kernel) (by omega) (by omega)) ?_
                          refine T_leq (fun x161 e162 => ?_)
                          have u163 := CI_b c39 (k := 312) (j := x158) (bdr_312 x158)
                          exact T_ret ⟨c39, f41, r61, (by first | exact r62 | exact y_DD.z (by omega) (by omega)), r63, (by first | exact o44 | exact y_K.b0 (by omega) | exact y_K.k0 (by omega) | exact y_K.bk (by omega) | exact y_K.mk o45 (by omega) o46), (by first | exact o50 | exact y_KM.z (by omega)), ⟨x161, rfl, by omega, by omega⟩⟩
                        · refine T_ite (fun h164 => ?_) (fun h164 => ?_)
                          · refine T_if1 (by decide +kernel) ?_
                            refine T_let 312 (by decide +kernel) ?_
                            refine T_leq (fun x165 e166 => ?_)
                            first | (have w167 := z_wx e166 (by omega)) | (have w167 := z_wr e166)
                            refine T_if1 (z_ixl (n := 9) (by decide +kernel) (by omega) (by omega)) ?_
                            refine T_leq (fun x168 e169 => ?_)
                            have u170 := CI_b c39 (k := 312) (j := x165) (bdr_312 x165)
                            exact T_ret ⟨c39, f41, r61, (by first | exact r62 | exact y_DD.z (by omega) (by omega)), r63, (by first | exact o44 | exact y_K.b0 (by omega) | exact y_K.k0 (by omega) | exact y_K.bk (by omega) | exact y_K.mk o45 (by omega) o46), (by first | exact o50 | exact y_KM.z (by omega)), ⟨x168, rfl, by omega, by omega⟩⟩
                          · refine T_ite (fun h171 => ?_) (fun h171 => ?_)
                            · refine T_if1 (by decide +kernel) ?_
                              refine T_let 312 (by decide +kernel) ?_
                              refine T_leq (fun x172 e173 => ?_)
                              first | (have w174 := z_wx e173 (by omega)) | (have w174 := z_wr e173)
                              refine T_if1 (z_ixl (n := 9) (by decide +kernel) (by omega) (by omega)) ?_
                              refine T_leq (fun x175 e176 => ?_)
                              have u177 := CI_b c39 (k := 312) (j := x172) (bdr_312 x172)
                              exact T_ret ⟨c39, f41, r61, (by first | exact r62 | exact y_DD.z (by omega) (by omega)), r63, (by first | exact o44 | exact y_K.b0 (by omega) | exact y_K.k0 (by omega) | exact y_K.bk (by omega) | exact y_K.mk o45 (by omega) o46), (by first | exact o50 | exact y_KM.z (by omega)), ⟨x175, rfl, by omega, by omega⟩⟩
                            · refine T_ite (fun h178 => ?_) (fun h178 => ?_)
                              · refine T_if1 (by decide +kernel) ?_
                                refine T_leq (fun x179 e180 => ?_)
                                have u181 := CI_b c39 (k := 309) (j := 19) bd_309_19
                                exact T_ret ⟨c39, f41, r61, (by first | exact r62 | exact y_DD.z (by omega) (by omega)), r63, (by first | exact o44 | exact y_K.b0 (by omega) | exact y_K.k0 (by omega) | exact y_K.bk (by omega) | exact y_K.mk o45 (by omega) o46), (by first | exact o50 | exact y_KM.z (by omega)), ⟨x179, rfl, by omega, by omega⟩⟩
                              · refine T_ite (fun h182 => ?_) (fun h182 => ?_)
                                · refine T_if1 (by decide +kernel) ?_
                                  refine T_leq (fun x183 e184 => ?_)
                                  have u185 := CI_b c39 (k := 309) (j := 2) bd_309_2
                                  exact T_ret ⟨c39, f41, r61, (by first | exact r62 | exact y_DD.z (by omega) (by omega)), r63, (by first | exact o44 | exact y_K.b0 (by omega) | exact y_K.k0 (by omega) | exact y_K.bk (by omega) | exact y_K.mk o45 (by omega) o46), (by first | exact o50 | exact y_KM.z (by omega)), ⟨x183, rfl, by omega, by omega⟩⟩
                                · refine T_ite (fun h186 => ?_) (fun h186 => ?_)
                                  · refine T_if1 (by decide +kernel) ?_
                                    refine T_useI (sf_X12_unfit_309 hfu s38 c39) (fun v192 s187 hq => ?_)
                                    obtain ⟨c188, f189, ⟨x191, rfl, b193, b194⟩⟩ := hq
                                    refine T_vI ?_
                                    have q195 := z_Fr.eq (fun a b h => h) f189
                                    subst q195
                                    exact T_ret ⟨c39, f41, r61, (by first | exact r62 | exact y_DD.z (by omega) (by omega)), r63, (by first | exact o44 | exact y_K.b0 (by omega) | exact y_K.k0 (by omega) | exact y_K.bk (by omega) | exact y_K.mk o45 (by omega) o46), (by first | exact o50 | exact y_KM.z (by omega)), ⟨x191, rfl, by omega, by omega⟩⟩
                                  · refine T_ite (fun h196 => ?_) (fun h196 => ?_)
                                    · refine T_if1 (by decide +kernel) ?_
                                      refine T_let 312 (by decide +kernel) ?_
                                      refine T_leq (fun x197 e198 => ?_)
                                      first | (have w199 := z_wx e198 (by omega)) | (have w199 := z_wr e198)
                                      refine T_if1 (z_ixl (n := 9) (by decide +kernel) (by omega) (by omega)) ?_
                                      refine T_leq (fun x200 e201 => ?_)
                                      have u202 := CI_b c39 (k := 312) (j := x197) (bdr_312 x197)
                                      exact T_ret ⟨c39, f41, r61, (by first | exact r62 | exact y_DD.z (by omega) (by omega)), r63, (by first | exact o44 | exact y_K.b0 (by omega) | exact y_K.k0 (by omega) | exact y_K.bk (by omega) | exact y_K.mk o45 (by omega) o46), (by first | exact o50 | exact y_KM.z (by omega)), ⟨x200, rfl, by omega, by omega⟩⟩
                                    · refine T_ite (fun h203 => ?_) (fun h203 => ?_)
                                      · refine T_if1 (by decide +kernel) ?_
                                        refine T_let 312 (by decide +kernel) ?_
                                        refine T_leq (fun x204 e205 => ?_)
                                        first | (have w206 := z_wx e205 (by omega)) | (have w206 := z_wr e205)
                                        refine T_if1 (z_ixl (n := 9) (by decide +kernel) (by omega) (by omega)) ?_
                                        refine T_leq (fun x207 e208 => ?_)
                                        have u209 := CI_b c39 (k := 312) (j := x204) (bdr_312 x204)
                                        exact T_ret ⟨c39, f41, r61, (by first | exact r62 | exact y_DD.z (by omega) (by omega)), r63, (by first | exact o44 | exact y_K.b0 (by omega) | exact y_K.k0 (by omega) | exact y_K.bk (by omega) | exact y_K.mk o45 (by omega) o46), (by first | exact o50 | exact y_KM.z (by omega)), ⟨x207, rfl, by omega, by omega⟩⟩
                                      · refine T_ite (fun h210 => ?_) (fun h210 => ?_)
                                        · refine T_if1 (by decide +kernel) ?_
                                          refine T_leq (fun x211 e212 => ?_)
                                          have u213 := CI_b c39 (k := 309) (j := 38) bd_309_38
                                          exact T_ret ⟨c39, f41, r61, (by first | exact r62 | exact y_DD.z (by omega) (by omega)), r63, (by first | exact o44 | exact y_K.b0 (by omega) | exact y_K.k0 (by omega) | exact y_K.bk (by omega) | exact y_K.mk o45 (by omega) o46), (by first | exact o50 | exact y_KM.z (by omega)), ⟨x211, rfl, by omega, by omega⟩⟩
                                        · refine T_ite (fun h214 => ?_) (fun h214 => ?_)
                                          · refine T_if1 (by decide +kernel) ?_
                                            refine T_leq (fun x215 e216 => ?_)
                                            have u217 := CI_b c39 (k := 309) (j := 39) bd_309_39
                                            exact T_ret ⟨c39, f41, r61, (by first | exact r62 | exact y_DD.z (by omega) (by omega)), r63, (by first | exact o44 | exact y_K.b0 (by omega) | exact y_K.k0 (by omega) | exact y_K.bk (by omega) | exact y_K.mk o45 (by omega) o46), (by first | exact o50 | exact y_KM.z (by omega)), ⟨x215, rfl, by omega, by omega⟩⟩
                                          · refine T_if1 (by decide +kernel) ?_
                                            refine T_let 312 (by decide +kernel) ?_
                                            refine T_leq (fun x218 e219 => ?_)
                                            first | (have w220 := z_wx e219 (by omega)) | (have w220 := z_wr e219)
                                            refine T_if1 (z_ixl (n := 9) (by decide +kernel) (by omega) (by omega)) ?_
                                            refine T_leq (fun x221 e222 => ?_)
                                            have u223 := CI_b c39 (k := 312) (j := x218) (bdr_312 x218)
                                            exact T_ret ⟨c39, f41, r61, (by first | exact r62 | exact y_DD.z (by omega) (by omega)), r63, (by first | exact o44 | exact y_K.b0 (by omega) | exact y_K.k0 (by omega) | exact y_K.bk (by omega) | exact y_K.mk o45 (by omega) o46), (by first | exact o50 | exact y_KM.z (by omega)), ⟨x221, rfl, by omega, by omega⟩⟩
  · exact T_ret ⟨c14, f16, r32, (by first | exact r33 | exact y_DD.z (by omega) (by omega)), r34, (by first | exact r35 | exact y_K.b0 (by omega) | exact y_K.k0 (by omega) | exact y_K.bk (by omega)), (by first | exact r36 | exact y_KM.z (by omega)), ⟨0, rfl, by omega, by omega⟩⟩
theorem sf_X12_told_309K {fu : Nat} (hfu : 8589934592 ≤ fu) (r0 : z_M) (c0 : z_CI r0) (a1 : Int) (b1 : -2147483648 ≤ a1 ∧ a1 ≤ 2147483647) (p0 : y_TA r0) (p1 : y_DD r0) (p2 : y_B r0) (p3 : y_K r0) (p4 : y_KM r0) : z_T (fX12_told fu r0 309 a1) (P_X12_told_309K r0) := by
  refine T_of (fX12_told.eq_1 ..) ?_
  have u1 := CI_b c0 (k := 309) (j := 20) bd_309_20
  have u2 := CI_b c0 (k := 309) (j := 36) bd_309_36
  have u3 := CI_b c0 (k := 309) (j := 43) bd_309_43
  have u4 := CI_b c0 (k := 309) (j := 44) bd_309_44
  have u5 := CI_b c0 (k := 309) (j := 58) bd_309_58
  have u6 := CI_b c0 (k := 316) (j := 0) bd_316_0
  have u7 := CI_b c0 (k := 329) (j := 0) bd_329_0
  have u8 := CI_b c0 (k := 329) (j := 1) bd_329_1
  refine T_if1 (by decide +kernel) ?_
  refine T_upg c0 bd_309_0 (by omega) (fun s9 c10 g12 g13 e14 => ?_)
  have f11 := z_Fr.upf (R := R_X12_told_309) z_Fr.rf g12 g13 (Or.inr (Or.inr (⟨rfl, by decide⟩)))
  have t15 : s9 309 20 = r0 309 20 := g13 20 (by decide)
  have t16 : s9 309 36 = r0 309 36 := g13 36 (by decide)
  have t17 : s9 309 43 = r0 309 43 := g13 43 (by decide)
  have t18 : s9 309 44 = r0 309 44 := g13 44 (by decide)
  have t19 : s9 309 58 = r0 309 58 := g13 58 (by decide)
  have t20 : s9 316 0 = r0 316 0 := g12 316 0 (by decide)
  have t21 : s9 329 0 = r0 329 0 := g12 329 0 (by decide)
  have t22 : s9 329 1 = r0 329 1 := g12 329 1 (by decide)
  have r23 := y_TA.fr p0 (fun a b h => g12 a b (by omega)) (fun a b h => g12 a b (by omega)) (fun a b h => g12 a b (by omega))
  have r24 := y_DD.fr p1 (g12 329 0 (by decide)) (g12 329 1 (by decide)) (fun b => g12 359 b (by decide)) (fun b => g12 374 b (by decide))
  have r25 := y_B.fr p2 (g13 20 (by decide)) (g12 316 0 (by decide)) (fun b => g12 3220 b (by decide)) (fun b => g12 3221 b (by decide)) (fun b => g12 3222 b (by decide)) (fun b => g12 361 b (by decide))
  have r26 := y_K.fr p3 (by omega) (by omega) (g13 44 (by decide)) (g13 20 (by decide)) (g13 58 (by decide)) (fun b => g12 3438 b (by decide)) (fun b => g12 3220 b (by decide)) (fun a b h => g12 a b (by omega))
  have r27 := y_KM.fr p4 (g13 20 (by decide)) (g13 36 (by decide)) (g13 38 (by decide)) (g13 39 (by decide)) (fun b => g12 312 b (by decide)) (fun b => g12 331 b (by decide)) (fun b => g12 346 b (by decide)) (fun b => g12 361 b (by decide)) (fun b => g12 391 b (by decide)) (fun a b h => g12 a b (by omega)) (fun a b h => g12 a b (by omega)) (fun a b h => g12 a b (by omega))
  refine T_useI (sf_X12_in hfu s9 c10 a1 0 19 (by omega) (by omega) (by omega)) (fun v33 s28 hq => ?_)
  obtain ⟨c29, f30, ⟨x32, rfl, b34, b35, o36⟩⟩ := hq
  refine T_vI ?_
  have q37 := z_Fr.eq (fun a b h => h) f30
  subst q37
  refine T_ite (fun h38 => ?_) (fun h38 => ?_)
  · exact sj_X12_told_309K_J21 hfu r0 s9 c10 f11 a1 0 (by omega) (by omega) (by omega) r23 (by first | exact r24 | exact y_DD.z (by omega) (by omega)) r25 (by first | exact r26 | exact y_K.b0 (by omega) | exact y_K.k0 (by omega) | exact y_K.bk (by omega)) (by first | exact r27 | exact y_KM.z (by omega))
  · exact sj_X12_told_309K_J21 hfu r0 s9 c10 f11 a1 1 (by omega) (by omega) (by omega) r23 (by first | exact r24 | exact y_DD.z (by omega) (by omega)) r25 (by first | exact r26 | exact y_K.b0 (by omega) | exact y_K.k0 (by omega) | exact y_K.bk (by omega)) (by first | exact r27 | exact y_KM.z (by omega))
abbrev P_X12_unit_309K (r0 : z_M) : z_V → z_M → Prop := fun v s' => z_CI s' ∧ z_Fr R_X12_unit_309 r0 s' ∧ (y_TA s') ∧ (y_DD s') ∧ (y_B s') ∧ (y_K s') ∧ (y_KM s') ∧ (∃ x, v = vI x ∧ -2147483648 ≤ x ∧ x ≤ 2147483647)
theorem sj_X12_unit_309K_J51 {fu : Nat} (hfu : 8589934592 ≤ fu) (r0 s : z_M) (c : z_CI s) (f : z_Fr R_X12_unit_309 r0 s) (p0 : y_TA s) (p1 : y_DD s) (p2 : y_B s) (p3 : y_K s) (p4 : y_KM s) : z_T (fX12_unit_J51 fu s) (P_X12_unit_309K r0) := by
  refine T_of (fX12_unit_J51.eq_1 ..) ?_
  have u1 := CI_b c (k := 309) (j := 20) bd_309_20
  have u2 := CI_b c (k := 309) (j := 36) bd_309_36
  have u3 := CI_b c (k := 309) (j := 43) bd_309_43
  have u4 := CI_b c (k := 309) (j := 44) bd_309_44
  have u5 := CI_b c (k := 309) (j := 58) bd_309_58
  have u6 := CI_b c (k := 316) (j := 0) bd_316_0
  have u7 := CI_b c (k := 329) (j := 0) bd_329_0
  have u8 := CI_b c (k := 329) (j := 1) bd_329_1
  have t9 : s 309 20 = r0 309 20 := f 309 20 (by decide)
  have t10 : s 316 0 = r0 316 0 := f 316 0 (by decide)
  have t11 : s 329 0 = r0 329 0 := f 329 0 (by decide)
  have t12 : s 329 1 = r0 329 1 := f 329 1 (by decide)
  exact T_ret ⟨c, f, p0, (by first | exact p1 | exact y_DD.z (by omega) (by omega)), p2, (by first | exact p3 | exact y_K.b0 (by omega) | exact y_K.k0 (by omega) | exact y_K.bk (by omega)), (by first | exact p4 | exact y_KM.z (by omega)), ⟨0, rfl, by omega, by omega⟩⟩
set_option maxHeartbeats 4000000 in
theorem sj_X12_unit_309K_J43 {fu : Nat} (hfu : 8589934592 ≤ fu) (r0 s : z_M) (c : z_CI s) (f : z_Fr R_X12_unit_309 r0 s) (a1 : Int) (a2 : Int) (t1 : Int) (b1 : -2147483648 ≤ a1 ∧ a1 ≤ 2147483647) (b2 : -2147483648 ≤ a2 ∧ a2 ≤ 2147483647) (d1 : 0 ≤ t1 ∧ t1 ≤ 1) (p0 : 0 ≤ a1 ∧ a1 < s 309 20) (p1 : t1 = 1 ∨ (0 ≤ a2 ∧ a2 ≤ 7)) (p2 : y_TA s) (p3 : y_DD s) (p4 : y_B s) (p5 : y_K s) (p6 : y_KM s) : z_T (fX12_unit_J43 fu s 309 a1 a2 309 t1) (P_X12_unit_309K r0) := by
  refine T_of (fX12_unit_J43.eq_1 ..) ?_
  have u1 := CI_b c (k := 309) (j := 20) bd_309_20
  have u2 := CI_b c (k := 309) (j := 36) bd_309_36
  have u3 := CI_b c (k := 309) (j := 43) bd_309_43
  have u4 := CI_b c (k := 309) (j := 44) bd_309_44
  have u5 := CI_b c (k := 309) (j := 58) bd_309_58
  have u6 := CI_b c (k := 316) (j := 0) bd_316_0
  have u7 := CI_b c (k := 329) (j := 0) bd_329_0
  have u8 := CI_b c (k := 329) (j := 1) bd_329_1
  have t9 : s 309 20 = r0 309 20 := f 309 20 (by decide)
  have t10 : s 316 0 = r0 316 0 := f 316 0 (by decide)
  have t11 : s 329 0 = r0 329 0 := f 329 0 (by decide)
  have t12 : s 329 1 = r0 329 1 := f 329 1 (by decide)
  refine T_if1 (by decide +kernel) ?_
  refine T_useI (sf_X12_bad_309 hfu s c t1 2 1 (by omega) (by omega) (by omega) (by omega)) (fun v18 s13 hq => ?_)
  obtain ⟨c14, f15, o19, ⟨x17, rfl, b20, b21, o22, o23⟩⟩ := hq
  refine T_vI ?_
  have f16 := z_Fr.tr (R := R_X12_unit_309) f f15 rs_X12_bad_309__X12_unit_309
  have t24 : s13 309 20 = s 309 20 := f15 309 20 (by decide)
  have t25 : s13 309 36 = s 309 36 := f15 309 36 (by decide)
  have t26 : s13 309 43 = s 309 43 := f15 309 43 (by decide)
  have t27 : s13 309 44 = s 309 44 := f15 309 44 (by decide)
  have t28 : s13 309 58 = s 309 58 := f15 309 58 (by decide)
  have t29 : s13 316 0 = s 316 0 := f15 316 0 (by decide)
  have t30 : s13 329 0 = s 329 0 := f15 329 0 (by decide)
  have t31 : s13 329 1 = s 329 1 := f15 329 1 (by decide)
  have r32 := y_TA.fr p2 (fun a b h => f15 a b (nz_X12_bad_309__316_328 a b h)) (fun a b h => f15 a b (nz_X12_bad_309__346_358 a b h)) (fun a b h => f15 a b (nz_X12_bad_309__361_373 a b h))
  have r33 := y_DD.fr p3 (f15 329 0 (by decide)) (f15 329 1 (by decide)) (fun b => f15 359 b (nr_X12_bad_309__359 b)) (fun b => f15 374 b (nr_X12_bad_309__374 b))
  have r34 := y_B.fr p4 (f15 309 20 (by decide)) (f15 316 0 (by decide)) (fun b => f15 3220 b (nr_X12_bad_309__3220 b)) (fun b => f15 3221 b (nr_X12_bad_309__3221 b)) (fun b => f15 3222 b (nr_X12_bad_309__3222 b)) (fun b => f15 361 b (nr_X12_bad_309__361 b))
  have r35 := y_K.fr p5 (by omega) (by omega) (f15 309 44 (by decide)) (f15 309 20 (by decide)) (f15 309 58 (by decide)) (fun b => f15 3438 b (nr_X12_bad_309__3438 b)) (fun b => f15 3220 b (nr_X12_bad_309__3220 b)) (fun a b h => f15 a b (nz_X12_bad_309__3452_3651 a b h))
  have r36 := y_KM.fr p6 (f15 309 20 (by decide)) (f15 309 36 (by decide)) (f15 309 38 (by decide)) (f15 309 39 (by decide)) (fun b => f15 312 b (nr_X12_bad_309__312 b)) (fun b => f15 331 b (nr_X12_bad_309__331 b)) (fun b => f15 346 b (nr_X12_bad_309__346 b)) (fun b => f15 361 b (nr_X12_bad_309__361 b)) (fun b => f15 391 b (nr_X12_bad_309__391 b)) (fun a b h => f15 a b (nz_X12_bad_309__407_606 a b h)) (fun a b h => f15 a b (nz_X12_bad_309__3220_3223 a b h)) (fun a b h => f15 a b (nz_X12_bad_309__3235_3437 a b h))
  refine T_ite (fun h37 => ?_) (fun h37 => ?_)
  · refine T_if1 (by decide +kernel) ?_
    refine T_useN (sf_X12_laysAll_309K hfu s13 c14 r34 (by first | exact r35 | exact y_K.b0 (by omega) | exact y_K.k0 (by omega) | exact y_K.bk (by omega)) (by first | exact r36 | exact y_KM.z (by omega))) (fun v43 s38 hq => ?_)
    obtain ⟨c39, f40, o44, o45, o46, o47, o48, o49, o50, rfl⟩ := hq
    refine T_vN ?_
    have f41 := z_Fr.tr (R := R_X12_unit_309) f16 f40 rs_X12_laysAll_309__X12_unit_309
    have t53 : s38 309 20 = s 309 20 := (f40 309 20 (by decide)).trans t24
    have t54 : s38 316 0 = s 316 0 := (f40 316 0 (by decide)).trans t29
    have t55 : s38 329 0 = s 329 0 := (f40 329 0 (by decide)).trans t30
    have t56 : s38 329 1 = s 329 1 := (f40 329 1 (by decide)).trans t31
    have u57 := CI_b c39 (k := 309) (j := 36) bd_309_36
    have u58 := CI_b c39 (k := 309) (j := 43) bd_309_43
    have u59 := CI_b c39 (k := 309) (j := 44) bd_309_44
    have u60 := CI_b c39 (k := 309) (j := 58) bd_309_58
    have r61 := y_TA.fr r32 (fun a b h => f40 a b (nz_X12_laysAll_309__316_328 a b h)) (fun a b h => f40 a b (nz_X12_laysAll_309__346_358 a b h)) (fun a b h => f40 a b (nz_X12_laysAll_309__361_373 a b h))
    have r62 := y_DD.fr r33 (f40 329 0 (by decide)) (f40 329 1 (by decide)) (fun b => f40 359 b (nr_X12_laysAll_309__359 b)) (fun b => f40 374 b (nr_X12_laysAll_309__374 b))
    have r63 := y_B.fr r34 (f40 309 20 (by decide)) (f40 316 0 (by decide)) (fun b => f40 3220 b (nr_X12_laysAll_309__3220 b)) (fun b => f40 3221 b (nr_X12_laysAll_309__3221 b)) (fun b => f40 3222 b (nr_X12_laysAll_309__3222 b)) (fun b => f40 361 b (nr_X12_laysAll_309__361 b))
    clear t24
    clear t29
    clear t30
    clear t31
    refine T_ite (fun h64 => ?_) (fun h64 => ?_)
    · refine T_if1 (by decide +kernel) ?_
      refine T_let 3220 (by decide +kernel) ?_
      refine T_if1 (z_ixl (n := 200) (by decide +kernel) (by omega) (by omega)) ?_
      refine T_leq (fun x65 e66 => ?_)
      have u67 := CI_b c39 (k := 3220) (j := a1) (bdr_3220 a1)
      exact T_ret ⟨c39, f41, r61, (by first | exact r62 | exact y_DD.z (by omega) (by omega)), r63, (by first | exact o44 | exact y_K.b0 (by omega) | exact y_K.k0 (by omega) | exact y_K.bk (by omega) | exact y_K.mk o45 (by omega) o46), (by first | exact o50 | exact y_KM.z (by omega)), ⟨x65, rfl, by omega, by omega⟩⟩
    · refine T_ite (fun h68 => ?_) (fun h68 => ?_)
      · refine T_if1 (by decide +kernel) ?_
        refine T_let 3221 (by decide +kernel) ?_
        refine T_if1 (z_ixl (n := 200) (by decide +kernel) (by omega) (by omega)) ?_
        refine T_leq (fun x69 e70 => ?_)
        have u71 := CI_b c39 (k := 3221) (j := a1) (bdr_3221 a1)
        exact T_ret ⟨c39, f41, r61, (by first | exact r62 | exact y_DD.z (by omega) (by omega)), r63, (by first | exact o44 | exact y_K.b0 (by omega) | exact y_K.k0 (by omega) | exact y_K.bk (by omega) | exact y_K.mk o45 (by omega) o46), (by first | exact o50 | exact y_KM.z (by omega)), ⟨x69, rfl, by omega, by omega⟩⟩
      · refine T_ite (fun h72 => ?_) (fun h72 => ?_)
        · refine T_if1 (by decide +kernel) ?_
          refine T_let 3222 (by decide +kernel) ?_
          refine T_if1 (z_ixl (n := 200) (by decide +kernel) (by omega) (by omega)) ?_
          refine T_leq (fun x73 e74 => ?_)
          have u75 := CI_b c39 (k := 3222) (j := a1) (bdr_3222 a1)
          exact T_ret ⟨c39, f41, r61, (by first | exact r62 | exact y_DD.z (by omega) (by omega)), r63, (by first | exact o44 | exact y_K.b0 (by omega) | exact y_K.k0 (by omega) | exact y_K.bk (by omega) | exact y_K.mk o45 (by omega) o46), (by first | exact o50 | exact y_KM.z (by omega)), ⟨x73, rfl, by omega, by omega⟩⟩
        · refine T_ite (fun h76 => ?_) (fun h76 => ?_)
          · refine T_if1 (by decide +kernel) ?_
            refine T_let 3445 (by decide +kernel) ?_
            refine T_if1 (z_ixl (n := 200) (by decide +kernel) (by omega) (by omega)) ?_
            refine T_leq (fun x77 e78 => ?_)
            have u79 := CI_b c39 (k := 3445) (j := a1) (bdr_3445 a1)
            exact T_ret ⟨c39, f41, r61, (by first | exact r62 | exact y_DD.z (by omega) (by omega)), r63, (by first | exact o44 | exact y_K.b0 (by omega) | exact y_K.k0 (by omega) | exact y_K.bk (by omega) | exact y_K.mk o45 (by omega) o46), (by first | exact o50 | exact y_KM.z (by omega)), ⟨x77, rfl, by omega, by omega⟩⟩
          · refine T_ite (fun h80 => ?_) (fun h80 => ?_)
            · refine T_if1 (by decide +kernel) ?_
              refine T_let 3441 (by decide +kernel) ?_
              refine T_if1 (z_ixl (n := 200) (by decide +kernel) (by omega) (by omega)) ?_
              refine T_leq (fun x81 e82 => ?_)
              have u83 := CI_b c39 (k := 3441) (j := a1) (bdr_3441 a1)
              exact T_ret ⟨c39, f41, r61, (by first | exact r62 | exact y_DD.z (by omega) (by omega)), r63, (by first | exact o44 | exact y_K.b0 (by omega) | exact y_K.k0 (by omega) | exact y_K.bk (by omega) | exact y_K.mk o45 (by omega) o46), (by first | exact o50 | exact y_KM.z (by omega)), ⟨x81, rfl, by omega, by omega⟩⟩
            · refine T_ite (fun h84 => ?_) (fun h84 => ?_)
              · refine T_if1 (by decide +kernel) ?_
                refine T_let 3442 (by decide +kernel) ?_
                refine T_if1 (z_ixl (n := 200) (by decide +kernel) (by omega) (by omega)) ?_
                refine T_leq (fun x85 e86 => ?_)
                have u87 := CI_b c39 (k := 3442) (j := a1) (bdr_3442 a1)
                exact T_ret ⟨c39, f41, r61, (by first | exact r62 | exact y_DD.z (by omega) (by omega)), r63, (by first | exact o44 | exact y_K.b0 (by omega) | exact y_K.k0 (by omega) | exact y_K.bk (by omega) | exact y_K.mk o45 (by omega) o46), (by first | exact o50 | exact y_KM.z (by omega)), ⟨x85, rfl, by omega, by omega⟩⟩
              · refine T_ite (fun h88 => ?_) (fun h88 => ?_)
                · refine T_if1 (by decide +kernel) ?_
                  refine T_useI (sf_X12_group_309 hfu s38 c39 a1 (by omega) r63 (by omega)) (fun v94 s89 hq => ?_)
                  obtain ⟨c90, f91, ⟨x93, rfl, b95, b96, o97, o98, o99⟩⟩ := hq
                  refine T_vI ?_
                  have q100 := z_Fr.eq (fun a b h => h) f91
                  subst q100
                  exact T_ret ⟨c39, f41, r61, (by first | exact r62 | exact y_DD.z (by omega) (by omega)), r63, (by first | exact o44 | exact y_K.b0 (by omega) | exact y_K.k0 (by omega) | exact y_K.bk (by omega) | exact y_K.mk o45 (by omega) o46), (by first | exact o50 | exact y_KM.z (by omega)), ⟨x93, rfl, by omega, by omega⟩⟩
                · refine T_if1 (by decide +kernel) ?_
                  refine T_let 3444 (by decide +kernel) ?_
                  refine T_if1 (z_ixl (n := 200) (by decide +kernel) (by omega) (by omega)) ?_
                  refine T_leq (fun x101 e102 => ?_)
                  have u103 := CI_b c39 (k := 3444) (j := a1) (bdr_3444 a1)
                  exact T_ret ⟨c39, f41, r61, (by first | exact r62 | exact y_DD.z (by omega) (by omega)), r63, (by first | exact o44 | exact y_K.b0 (by omega) | exact y_K.k0 (by omega) | exact y_K.bk (by omega) | exact y_K.mk o45 (by omega) o46), (by first | exact o50 | exact y_KM.z (by omega)), ⟨x101, rfl, by omega, by omega⟩⟩
  · exact sj_X12_unit_309K_J51 hfu r0 s13 c14 f16 r32 (by first | exact r33 | exact y_DD.z (by omega) (by omega)) r34 (by first | exact r35 | exact y_K.b0 (by omega) | exact y_K.k0 (by omega) | exact y_K.bk (by omega)) (by first | exact r36 | exact y_KM.z (by omega))
theorem sj_X12_unit_309K_J19 {fu : Nat} (hfu : 8589934592 ≤ fu) (r0 s : z_M) (c : z_CI s) (f : z_Fr R_X12_unit_309 r0 s) (a1 : Int) (a2 : Int) (t1 : Int) (b1 : -2147483648 ≤ a1 ∧ a1 ≤ 2147483647) (b2 : -2147483648 ≤ a2 ∧ a2 ≤ 2147483647) (d1 : 0 ≤ t1 ∧ t1 ≤ 1) (p0 : t1 = 1 ∨ (0 ≤ a1 ∧ a1 < s 309 20)) (p1 : y_TA s) (p2 : y_DD s) (p3 : y_B s) (p4 : y_K s) (p5 : y_KM s) : z_T (fX12_unit_J19 fu s 309 a1 a2 309 t1) (P_X12_unit_309K r0) := by
  refine T_of (fX12_unit_J19.eq_1 ..) ?_
  have u1 := CI_b c (k := 309) (j := 20) bd_309_20
  have u2 := CI_b c (k := 309) (j := 36) bd_309_36
  have u3 := CI_b c (k := 309) (j := 43) bd_309_43
  have u4 := CI_b c (k := 309) (j := 44) bd_309_44
  have u5 := CI_b c (k := 309) (j := 58) bd_309_58
  have u6 := CI_b c (k := 316) (j := 0) bd_316_0
  have u7 := CI_b c (k := 329) (j := 0) bd_329_0
  have u8 := CI_b c (k := 329) (j := 1) bd_329_1
  have t9 : s 309 20 = r0 309 20 := f 309 20 (by decide)
  have t10 : s 316 0 = r0 316 0 := f 316 0 (by decide)
  have t11 : s 329 0 = r0 329 0 := f 329 0 (by decide)
  have t12 : s 329 1 = r0 329 1 := f 329 1 (by decide)
  refine T_if1 (by decide +kernel) ?_
  refine T_useI (sf_X12_bad_309 hfu s c t1 1 0 (by omega) (by omega) (by omega) (by omega)) (fun v18 s13 hq => ?_)
  obtain ⟨c14, f15, o19, ⟨x17, rfl, b20, b21, o22, o23⟩⟩ := hq
  refine T_vI ?_
  have f16 := z_Fr.tr (R := R_X12_unit_309) f f15 rs_X12_bad_309__X12_unit_309
  have t24 : s13 309 20 = s 309 20 := f15 309 20 (by decide)
  have t25 : s13 309 36 = s 309 36 := f15 309 36 (by decide)
  have t26 : s13 309 43 = s 309 43 := f15 309 43 (by decide)
  have t27 : s13 309 44 = s 309 44 := f15 309 44 (by decide)
  have t28 : s13 309 58 = s 309 58 := f15 309 58 (by decide)
  have t29 : s13 316 0 = s 316 0 := f15 316 0 (by decide)
  have t30 : s13 329 0 = s 329 0 := f15 329 0 (by decide)
  have t31 : s13 329 1 = s 329 1 := f15 329 1 (by decide)
  have r32 := y_TA.fr p1 (fun a b h => f15 a b (nz_X12_bad_309__316_328 a b h)) (fun a b h => f15 a b (nz_X12_bad_309__346_358 a b h)) (fun a b h => f15 a b (nz_X12_bad_309__361_373 a b h))
  have r33 := y_DD.fr p2 (f15 329 0 (by decide)) (f15 329 1 (by decide)) (fun b => f15 359 b (nr_X12_bad_309__359 b)) (fun b => f15 374 b (nr_X12_bad_309__374 b))
  have r34 := y_B.fr p3 (f15 309 20 (by decide)) (f15 316 0 (by decide)) (fun b => f15 3220 b (nr_X12_bad_309__3220 b)) (fun b => f15 3221 b (nr_X12_bad_309__3221 b)) (fun b => f15 3222 b (nr_X12_bad_309__3222 b)) (fun b => f15 361 b (nr_X12_bad_309__361 b))
  have r35 := y_K.fr p4 (by omega) (by omega) (f15 309 44 (by decide)) (f15 309 20 (by decide)) (f15 309 58 (by decide)) (fun b => f15 3438 b (nr_X12_bad_309__3438 b)) (fun b => f15 3220 b (nr_X12_bad_309__3220 b)) (fun a b h => f15 a b (nz_X12_bad_309__3452_3651 a b h))
  have r36 := y_KM.fr p5 (f15 309 20 (by decide)) (f15 309 36 (by decide)) (f15 309 38 (by decide)) (f15 309 39 (by decide)) (fun b => f15 312 b (nr_X12_bad_309__312 b)) (fun b => f15 331 b (nr_X12_bad_309__331 b)) (fun b => f15 346 b (nr_X12_bad_309__346 b)) (fun b => f15 361 b (nr_X12_bad_309__361 b)) (fun b => f15 391 b (nr_X12_bad_309__391 b)) (fun a b h => f15 a b (nz_X12_bad_309__407_606 a b h)) (fun a b h => f15 a b (nz_X12_bad_309__3220_3223 a b h)) (fun a b h => f15 a b (nz_X12_bad_309__3235_3437 a b h))
  refine T_ite (fun h37 => ?_) (fun h37 => ?_)
  · exact sj_X12_unit_309K_J51 hfu r0 s13 c14 f16 r32 (by first | exact r33 | exact y_DD.z (by omega) (by omega)) r34 (by first | exact r35 | exact y_K.b0 (by omega) | exact y_K.k0 (by omega) | exact y_K.bk (by omega)) (by first | exact r36 | exact y_KM.z (by omega))
  · refine T_useI (sf_X12_in hfu s13 c14 a2 0 7 (by omega) (by omega) (by omega)) (fun v43 s38 hq => ?_)
    obtain ⟨c39, f40, ⟨x42, rfl, b44, b45, o46⟩⟩ := hq
    refine T_vI ?_
    have q47 := z_Fr.eq (fun a b h => h) f40
    subst q47
    refine T_ite (fun h48 => ?_) (fun h48 => ?_)
    · exact sj_X12_unit_309K_J43 hfu r0 s13 c14 f16 a1 a2 0 (by omega) (by omega) (by omega) (by omega) (by omega) r32 (by first | exact r33 | exact y_DD.z (by omega) (by omega)) r34 (by first | exact r35 | exact y_K.b0 (by omega) | exact y_K.k0 (by omega) | exact y_K.bk (by omega)) (by first | exact r36 | exact y_KM.z (by omega))
    · exact sj_X12_unit_309K_J43 hfu r0 s13 c14 f16 a1 a2 1 (by omega) (by omega) (by omega) (by omega) (by omega) r32 (by first | exact r33 | exact y_DD.z (by omega) (by omega)) r34 (by first | exact r35 | exact y_K.b0 (by omega) | exact y_K.k0 (by omega) | exact y_K.bk (by omega)) (by first | exact r36 | exact y_KM.z (by omega))
theorem sf_X12_unit_309K {fu : Nat} (hfu : 8589934592 ≤ fu) (r0 : z_M) (c0 : z_CI r0) (a1 : Int) (a2 : Int) (b1 : -2147483648 ≤ a1 ∧ a1 ≤ 2147483647) (b2 : -2147483648 ≤ a2 ∧ a2 ≤ 2147483647) (p0 : y_TA r0) (p1 : y_DD r0) (p2 : y_B r0) (p3 : y_K r0) (p4 : y_KM r0) : z_T (fX12_unit fu r0 309 a1 a2) (P_X12_unit_309K r0) := by
  refine T_of (fX12_unit.eq_1 ..) ?_
  have u1 := CI_b c0 (k := 309) (j := 20) bd_309_20
  have u2 := CI_b c0 (k := 309) (j := 36) bd_309_36
  have u3 := CI_b c0 (k := 309) (j := 43) bd_309_43
  have u4 := CI_b c0 (k := 309) (j := 44) bd_309_44
  have u5 := CI_b c0 (k := 309) (j := 58) bd_309_58
  have u6 := CI_b c0 (k := 316) (j := 0) bd_316_0
  have u7 := CI_b c0 (k := 329) (j := 0) bd_329_0
  have u8 := CI_b c0 (k := 329) (j := 1) bd_329_1
  refine T_if1 (by decide +kernel) ?_
  refine T_upg c0 bd_309_0 (by omega) (fun s9 c10 g12 g13 e14 => ?_)
  have f11 := z_Fr.upf (R := R_X12_unit_309) z_Fr.rf g12 g13 (Or.inr (Or.inr (⟨rfl, by decide⟩)))
  have t15 : s9 309 20 = r0 309 20 := g13 20 (by decide)
  have t16 : s9 309 36 = r0 309 36 := g13 36 (by decide)
  have t17 : s9 309 43 = r0 309 43 := g13 43 (by decide)
  have t18 : s9 309 44 = r0 309 44 := g13 44 (by decide)
  have t19 : s9 309 58 = r0 309 58 := g13 58 (by decide)
  have t20 : s9 316 0 = r0 316 0 := g12 316 0 (by decide)
  have t21 : s9 329 0 = r0 329 0 := g12 329 0 (by decide)
  have t22 : s9 329 1 = r0 329 1 := g12 329 1 (by decide)
  have r23 := y_TA.fr p0 (fun a b h => g12 a b (by omega)) (fun a b h => g12 a b (by omega)) (fun a b h => g12 a b (by omega))
  have r24 := y_DD.fr p1 (g12 329 0 (by decide)) (g12 329 1 (by decide)) (fun b => g12 359 b (by decide)) (fun b => g12 374 b (by decide))
  have r25 := y_B.fr p2 (g13 20 (by decide)) (g12 316 0 (by decide)) (fun b => g12 3220 b (by decide)) (fun b => g12 3221 b (by decide)) (fun b => g12 3222 b (by decide)) (fun b => g12 361 b (by decide))
  have r26 := y_K.fr p3 (by omega) (by omega) (g13 44 (by decide)) (g13 20 (by decide)) (g13 58 (by decide)) (fun b => g12 3438 b (by decide)) (fun b => g12 3220 b (by decide)) (fun a b h => g12 a b (by omega))
  have r27 := y_KM.fr p4 (g13 20 (by decide)) (g13 36 (by decide)) (g13 38 (by decide)) (g13 39 (by decide)) (fun b => g12 312 b (by decide)) (fun b => g12 331 b (by decide)) (fun b => g12 346 b (by decide)) (fun b => g12 361 b (by decide)) (fun b => g12 391 b (by decide)) (fun a b h => g12 a b (by omega)) (fun a b h => g12 a b (by omega)) (fun a b h => g12 a b (by omega))
  refine T_if1 (by decide +kernel) ?_
  refine T_useI (sf_X12_isUnit_309 hfu s9 c10 a1 (by omega)) (fun v33 s28 hq => ?_)
  obtain ⟨c29, f30, ⟨x32, rfl, b34, b35, o36⟩⟩ := hq
  refine T_vI ?_
  have q37 := z_Fr.eq (fun a b h => h) f30
  subst q37
  refine T_ite (fun h38 => ?_) (fun h38 => ?_)
  · exact sj_X12_unit_309K_J19 hfu r0 s9 c10 f11 a1 a2 0 (by omega) (by omega) (by omega) (by omega) r23 (by first | exact r24 | exact y_DD.z (by omega) (by omega)) r25 (by first | exact r26 | exact y_K.b0 (by omega) | exact y_K.k0 (by omega) | exact y_K.bk (by omega)) (by first | exact r27 | exact y_KM.z (by omega))
  · exact sj_X12_unit_309K_J19 hfu r0 s9 c10 f11 a1 a2 1 (by omega) (by omega) (by omega) (by omega) r23 (by first | exact r24 | exact y_DD.z (by omega) (by omega)) r25 (by first | exact r26 | exact y_K.b0 (by omega) | exact y_K.k0 (by omega) | exact y_K.bk (by omega)) (by first | exact r27 | exact y_KM.z (by omega))
abbrev P_X12_sign_309K (r0 : z_M) : z_V → z_M → Prop := fun v s' => z_CI s' ∧ z_Fr R_X12_sign_309 r0 s' ∧ (y_TA s') ∧ (y_DD s') ∧ (y_B s') ∧ (y_K s') ∧ (y_KM s') ∧ (∃ x, v = vI x ∧ -2147483648 ≤ x ∧ x ≤ 2147483647)
theorem sj_X12_sign_309K_J61 {fu : Nat} (hfu : 8589934592 ≤ fu) (r0 s : z_M) (c : z_CI s) (f : z_Fr R_X12_sign_309 r0 s) (p0 : y_TA s) (p1 : y_DD s) (p2 : y_B s) (p3 : y_K s) (p4 : y_KM s) : z_T (fX12_sign_J61 fu s) (P_X12_sign_309K r0) := by
  refine T_of (fX12_sign_J61.eq_1 ..) ?_
  have u1 := CI_b c (k := 309) (j := 20) bd_309_20
  have u2 := CI_b c (k := 309) (j := 36) bd_309_36
  have u3 := CI_b c (k := 309) (j := 43) bd_309_43
  have u4 := CI_b c (k := 309) (j := 44) bd_309_44
  have u5 := CI_b c (k := 309) (j := 58) bd_309_58
  have u6 := CI_b c (k := 316) (j := 0) bd_316_0
  have u7 := CI_b c (k := 329) (j := 0) bd_329_0
  have u8 := CI_b c (k := 329) (j := 1) bd_329_1
  have t9 : s 309 20 = r0 309 20 := f 309 20 (by decide)
  have t10 : s 316 0 = r0 316 0 := f 316 0 (by decide)
  have t11 : s 329 0 = r0 329 0 := f 329 0 (by decide)
  have t12 : s 329 1 = r0 329 1 := f 329 1 (by decide)
  exact T_ret ⟨c, f, p0, (by first | exact p1 | exact y_DD.z (by omega) (by omega)), p2, (by first | exact p3 | exact y_K.b0 (by omega) | exact y_K.k0 (by omega) | exact y_K.bk (by omega)), (by first | exact p4 | exact y_KM.z (by omega)), ⟨0, rfl, by omega, by omega⟩⟩
theorem sj_X12_sign_309K_J152 {fu : Nat} (hfu : 8589934592 ≤ fu) (r0 s : z_M) (c : z_CI s) (f : z_Fr R_X12_sign_309 r0 s) (t0 : Int) (d0 : 0 ≤ t0 ∧ t0 ≤ 1) (p0 : y_TA s) (p1 : y_DD s) (p2 : y_B s) (p3 : y_K s) (p4 : y_KM s) : z_T (fX12_sign_J152 fu s t0) (P_X12_sign_309K r0) := by
  refine T_of (fX12_sign_J152.eq_1 ..) ?_
  have u1 := CI_b c (k := 309) (j := 20) bd_309_20
  have u2 := CI_b c (k := 309) (j := 36) bd_309_36
  have u3 := CI_b c (k := 309) (j := 43) bd_309_43
  have u4 := CI_b c (k := 309) (j := 44) bd_309_44
  have u5 := CI_b c (k := 309) (j := 58) bd_309_58
  have u6 := CI_b c (k := 316) (j := 0) bd_316_0
  have u7 := CI_b c (k := 329) (j := 0) bd_329_0
  have u8 := CI_b c (k := 329) (j := 1) bd_329_1
  have t9 : s 309 20 = r0 309 20 := f 309 20 (by decide)
  have t10 : s 316 0 = r0 316 0 := f 316 0 (by decide)
  have t11 : s 329 0 = r0 329 0 := f 329 0 (by decide)
  have t12 : s 329 1 = r0 329 1 := f 329 1 (by decide)
  exact T_ret ⟨c, f, p0, (by first | exact p1 | exact y_DD.z (by omega) (by omega)), p2, (by first | exact p3 | exact y_K.b0 (by omega) | exact y_K.k0 (by omega) | exact y_K.bk (by omega)), (by first | exact p4 | exact y_KM.z (by omega)), ⟨t0, rfl, by omega, by omega⟩⟩
set_option maxHeartbeats 4000000 in
theorem sj_X12_sign_309K_J53 {fu : Nat} (hfu : 8589934592 ≤ fu) (r0 s : z_M) (c : z_CI s) (f : z_Fr R_X12_sign_309 r0 s) (a1 : Int) (a2 : Int) (t1 : Int) (b1 : -2147483648 ≤ a1 ∧ a1 ≤ 2147483647) (b2 : -2147483648 ≤ a2 ∧ a2 ≤ 2147483647) (d1 : 0 ≤ t1 ∧ t1 ≤ 1) (p0 : 0 ≤ a1 ∧ a1 < s 316 0) (p1 : t1 = 1 ∨ (0 ≤ a2 ∧ a2 ≤ 6)) (p2 : y_TA s) (p3 : y_DD s) (p4 : y_B s) (p5 : y_K s) (p6 : y_KM s) : z_T (fX12_sign_J53 fu s 309 a1 a2 309 t1) (P_X12_sign_309K r0) := by
  refine T_of (fX12_sign_J53.eq_1 ..) ?_
  have u1 := CI_b c (k := 309) (j := 20) bd_309_20
  have u2 := CI_b c (k := 309) (j := 36) bd_309_36
  have u3 := CI_b c (k := 309) (j := 43) bd_309_43
  have u4 := CI_b c (k := 309) (j := 44) bd_309_44
  have u5 := CI_b c (k := 309) (j := 58) bd_309_58
  have u6 := CI_b c (k := 316) (j := 0) bd_316_0
  have u7 := CI_b c (k := 329) (j := 0) bd_329_0
  have u8 := CI_b c (k := 329) (j := 1) bd_329_1
  have t9 : s 309 20 = r0 309 20 := f 309 20 (by decide)
  have t10 : s 316 0 = r0 316 0 := f 316 0 (by decide)
  have t11 : s 329 0 = r0 329 0 := f 329 0 (by decide)
  have t12 : s 329 1 = r0 329 1 := f 329 1 (by decide)
  refine T_if1 (by decide +kernel) ?_
  refine T_useI (sf_X12_bad_309 hfu s c t1 2 1 (by omega) (by omega) (by omega) (by omega)) (fun v18 s13 hq => ?_)
  obtain ⟨c14, f15, o19, ⟨x17, rfl, b20, b21, o22, o23⟩⟩ := hq
  refine T_vI ?_
  have f16 := z_Fr.tr (R := R_X12_sign_309) f f15 rs_X12_bad_309__X12_sign_309
  have t24 : s13 309 20 = s 309 20 := f15 309 20 (by decide)
  have t25 : s13 309 36 = s 309 36 := f15 309 36 (by decide)
  have t26 : s13 309 43 = s 309 43 := f15 309 43 (by decide)
  have t27 : s13 309 44 = s 309 44 := f15 309 44 (by decide)
  have t28 : s13 309 58 = s 309 58 := f15 309 58 (by decide)
  have t29 : s13 316 0 = s 316 0 := f15 316 0 (by decide)
  have t30 : s13 329 0 = s 329 0 := f15 329 0 (by decide)
  have t31 : s13 329 1 = s 329 1 := f15 329 1 (by decide)
  have r32 := y_TA.fr p2 (fun a b h => f15 a b (nz_X12_bad_309__316_328 a b h)) (fun a b h => f15 a b (nz_X12_bad_309__346_358 a b h)) (fun a b h => f15 a b (nz_X12_bad_309__361_373 a b h))
  have r33 := y_DD.fr p3 (f15 329 0 (by decide)) (f15 329 1 (by decide)) (fun b => f15 359 b (nr_X12_bad_309__359 b)) (fun b => f15 374 b (nr_X12_bad_309__374 b))
  have r34 := y_B.fr p4 (f15 309 20 (by decide)) (f15 316 0 (by decide)) (fun b => f15 3220 b (nr_X12_bad_309__3220 b)) (fun b => f15 3221 b (nr_X12_bad_309__3221 b)) (fun b => f15 3222 b (nr_X12_bad_309__3222 b)) (fun b => f15 361 b (nr_X12_bad_309__361 b))
  have r35 := y_K.fr p5 (by omega) (by omega) (f15 309 44 (by decide)) (f15 309 20 (by decide)) (f15 309 58 (by decide)) (fun b => f15 3438 b (nr_X12_bad_309__3438 b)) (fun b => f15 3220 b (nr_X12_bad_309__3220 b)) (fun a b h => f15 a b (nz_X12_bad_309__3452_3651 a b h))
  have r36 := y_KM.fr p6 (f15 309 20 (by decide)) (f15 309 36 (by decide)) (f15 309 38 (by decide)) (f15 309 39 (by decide)) (fun b => f15 312 b (nr_X12_bad_309__312 b)) (fun b => f15 331 b (nr_X12_bad_309__331 b)) (fun b => f15 346 b (nr_X12_bad_309__346 b)) (fun b => f15 361 b (nr_X12_bad_309__361 b)) (fun b => f15 391 b (nr_X12_bad_309__391 b)) (fun a b h => f15 a b (nz_X12_bad_309__407_606 a b h)) (fun a b h => f15 a b (nz_X12_bad_309__3220_3223 a b h)) (fun a b h => f15 a b (nz_X12_bad_309__3235_3437 a b h))
  refine T_ite (fun h37 => ?_) (fun h37 => ?_)
  · refine T_if1 (by decide +kernel) ?_
    refine T_useN (sf_X12_laysAll_309K hfu s13 c14 r34 (by first | exact r35 | exact y_K.b0 (by omega) | exact y_K.k0 (by omega) | exact y_K.bk (by omega)) (by first | exact r36 | exact y_KM.z (by omega))) (fun v43 s38 hq => ?_)
    obtain ⟨c39, f40, o44, o45, o46, o47, o48, o49, o50, rfl⟩ := hq
    refine T_vN ?_
    have f41 := z_Fr.tr (R := R_X12_sign_309) f16 f40 rs_X12_laysAll_309__X12_sign_309
    have t53 : s38 309 20 = s 309 20 := (f40 309 20 (by decide)).trans t24
    have t54 : s38 316 0 = s 316 0 := (f40 316 0 (by decide)).trans t29
    have t55 : s38 329 0 = s 329 0 := (f40 329 0 (by decide)).trans t30
    have t56 : s38 329 1 = s 329 1 := (f40 329 1 (by decide)).trans t31
    have u57 := CI_b c39 (k := 309) (j := 36) bd_309_36
    have u58 := CI_b c39 (k := 309) (j := 43) bd_309_43
    have u59 := CI_b c39 (k := 309) (j := 44) bd_309_44
    have u60 := CI_b c39 (k := 309) (j := 58) bd_309_58
    have r61 := y_TA.fr r32 (fun a b h => f40 a b (nz_X12_laysAll_309__316_328 a b h)) (fun a b h => f40 a b (nz_X12_laysAll_309__346_358 a b h)) (fun a b h => f40 a b (nz_X12_laysAll_309__361_373 a b h))
    have r62 := y_DD.fr r33 (f40 329 0 (by decide)) (f40 329 1 (by decide)) (fun b => f40 359 b (nr_X12_laysAll_309__359 b)) (fun b => f40 374 b (nr_X12_laysAll_309__374 b))
    have r63 := y_B.fr r34 (f40 309 20 (by decide)) (f40 316 0 (by decide)) (fun b => f40 3220 b (nr_X12_laysAll_309__3220 b)) (fun b => f40 3221 b (nr_X12_laysAll_309__3221 b)) (fun b => f40 3222 b (nr_X12_laysAll_309__3222 b)) (fun b => f40 361 b (nr_X12_laysAll_309__361 b))
    clear t24
    clear t29
    clear t30
    clear t31
    refine T_ite (fun h64 => ?_) (fun h64 => ?_)
    · refine T_if1 (by decide +kernel) ?_
      refine T_let 330 (by decide +kernel) ?_
      refine T_if1 (z_ixl (n := 14) (by decide +kernel) (by omega) (by omega)) ?_
      refine T_let 331 (by decide +kernel) ?_
      refine T_if1 (z_ixl (n := 200) (by decide +kernel) (by omega) (by omega)) ?_
      refine T_leq (fun x65 e66 => ?_)
      have u67 := CI_b c39 (k := 331) (j := a1) (bdr_331 a1)
      exact T_ret ⟨c39, f41, r61, (by first | exact r62 | exact y_DD.z (by omega) (by omega)), r63, (by first | exact o44 | exact y_K.b0 (by omega) | exact y_K.k0 (by omega) | exact y_K.bk (by omega) | exact y_K.mk o45 (by omega) o46), (by first | exact o50 | exact y_KM.z (by omega)), ⟨x65, rfl, by omega, by omega⟩⟩
    · refine T_ite (fun h68 => ?_) (fun h68 => ?_)
      · refine T_if1 (by decide +kernel) ?_
        refine T_let 3223 (by decide +kernel) ?_
        refine T_if1 (z_ixl (n := 200) (by decide +kernel) (by omega) (by omega)) ?_
        refine T_leq (fun x69 e70 => ?_)
        have u71 := CI_b c39 (k := 3223) (j := a1) (bdr_3223 a1)
        exact T_ret ⟨c39, f41, r61, (by first | exact r62 | exact y_DD.z (by omega) (by omega)), r63, (by first | exact o44 | exact y_K.b0 (by omega) | exact y_K.k0 (by omega) | exact y_K.bk (by omega) | exact y_K.mk o45 (by omega) o46), (by first | exact o50 | exact y_KM.z (by omega)), ⟨x69, rfl, by omega, by omega⟩⟩
      · refine T_ite (fun h72 => ?_) (fun h72 => ?_)
        · refine T_if1 (by decide +kernel) ?_
          refine T_let 3441 (by decide +kernel) ?_
          refine T_if1 (by decide +kernel) ?_
          refine T_let 3223 (by decide +kernel) ?_
          refine T_if1 (z_ixl (n := 200) (by decide +kernel) (by omega) (by omega)) ?_
          refine T_leq (fun x73 e74 => ?_)
          have u75 := CI_b c39 (k := 3223) (j := a1) (bdr_3223 a1)
          refine T_if1 (z_ixl (n := 200) (by decide +kernel) (by omega) (by omega)) ?_
          refine T_leq (fun x76 e77 => ?_)
          have u78 := CI_b c39 (k := 3441) (j := x73) (bdr_3441 x73)
          exact T_ret ⟨c39, f41, r61, (by first | exact r62 | exact y_DD.z (by omega) (by omega)), r63, (by first | exact o44 | exact y_K.b0 (by omega) | exact y_K.k0 (by omega) | exact y_K.bk (by omega) | exact y_K.mk o45 (by omega) o46), (by first | exact o50 | exact y_KM.z (by omega)), ⟨x76, rfl, by omega, by omega⟩⟩
        · refine T_ite (fun h79 => ?_) (fun h79 => ?_)
          · refine T_if1 (by decide +kernel) ?_
            refine T_let 3443 (by decide +kernel) ?_
            refine T_if1 (z_ixl (n := 200) (by decide +kernel) (by omega) (by omega)) ?_
            refine T_leq (fun x80 e81 => ?_)
            have u82 := CI_b c39 (k := 3443) (j := a1) (bdr_3443 a1)
            exact T_ret ⟨c39, f41, r61, (by first | exact r62 | exact y_DD.z (by omega) (by omega)), r63, (by first | exact o44 | exact y_K.b0 (by omega) | exact y_K.k0 (by omega) | exact y_K.bk (by omega) | exact y_K.mk o45 (by omega) o46), (by first | exact o50 | exact y_KM.z (by omega)), ⟨x80, rfl, by omega, by omega⟩⟩
          · refine T_ite (fun h83 => ?_) (fun h83 => ?_)
            · refine T_if1 (by decide +kernel) ?_
              refine T_useI (sf_X12_isTurned_309 hfu s38 c39 a1 (by omega)) (fun v89 s84 hq => ?_)
              obtain ⟨c85, f86, ⟨x88, rfl, b90, b91⟩⟩ := hq
              refine T_vI ?_
              have q92 := z_Fr.eq (fun a b h => h) f86
              subst q92
              refine T_ite (fun h93 => ?_) (fun h93 => ?_)
              · exact sj_X12_sign_309K_J152 hfu r0 s38 c39 f41 0 (by omega) r61 (by first | exact r62 | exact y_DD.z (by omega) (by omega)) r63 (by first | exact o44 | exact y_K.b0 (by omega) | exact y_K.k0 (by omega) | exact y_K.bk (by omega) | exact y_K.mk o45 (by omega) o46) (by first | exact o50 | exact y_KM.z (by omega))
              · exact sj_X12_sign_309K_J152 hfu r0 s38 c39 f41 1 (by omega) r61 (by first | exact r62 | exact y_DD.z (by omega) (by omega)) r63 (by first | exact o44 | exact y_K.b0 (by omega) | exact y_K.k0 (by omega) | exact y_K.bk (by omega) | exact y_K.mk o45 (by omega) o46) (by first | exact o50 | exact y_KM.z (by omega))
            · refine T_if1 (by decide +kernel) ?_
              refine T_useI (sf_X12_marksOf_309 hfu s38 c39 a1 (by omega) r61 (by omega)) (fun v99 s94 hq => ?_)
              obtain ⟨c95, f96, ⟨x98, rfl, b100, b101⟩⟩ := hq
              refine T_vI ?_
              have q102 := z_Fr.eq (fun a b h => h) f96
              subst q102
              refine T_leq (fun x103 e104 => ?_)
              first | (have w105 := z_wx e104 (by omega)) | (have w105 := z_wr e104)
              refine T_leq (fun x106 e107 => ?_)
              have w108 : -2147483648 ≤ x106 ∧ x106 ≤ 2147483647 := by rw [← e107]; exact z_i32b _
              refine T_leq (fun x109 e110 => ?_)
              have w111 : -2147483648 ≤ x109 ∧ x109 ≤ 2147483647 := by rw [← e110]; exact z_i32b _
              exact T_ret ⟨c39, f41, r61, (by first | exact r62 | exact y_DD.z (by omega) (by omega)), r63, (by first | exact o44 | exact y_K.b0 (by omega) | exact y_K.k0 (by omega) | exact y_K.bk (by omega) | exact y_K.mk o45 (by omega) o46), (by first | exact o50 | exact y_KM.z (by omega)), ⟨x109, rfl, by omega, by omega⟩⟩
  · exact sj_X12_sign_309K_J61 hfu r0 s13 c14 f16 r32 (by first | exact r33 | exact y_DD.z (by omega) (by omega)) r34 (by first | exact r35 | exact y_K.b0 (by omega) | exact y_K.k0 (by omega) | exact y_K.bk (by omega)) (by first | exact r36 | exact y_KM.z (by omega))
theorem sj_X12_sign_309K_J29 {fu : Nat} (hfu : 8589934592 ≤ fu) (r0 s : z_M) (c : z_CI s) (f : z_Fr R_X12_sign_309 r0 s) (a1 : Int) (a2 : Int) (t1 : Int) (b1 : -2147483648 ≤ a1 ∧ a1 ≤ 2147483647) (b2 : -2147483648 ≤ a2 ∧ a2 ≤ 2147483647) (d1 : 0 ≤ t1 ∧ t1 ≤ 1) (p0 : t1 = 1 ∨ (0 ≤ a1 ∧ a1 < s 316 0)) (p1 : y_TA s) (p2 : y_DD s) (p3 : y_B s) (p4 : y_K s) (p5 : y_KM s) : z_T (fX12_sign_J29 fu s 309 a1 a2 309 t1) (P_X12_sign_309K r0) := by
  refine T_of (fX12_sign_J29.eq_1 ..) ?_
  have u1 := CI_b c (k := 309) (j := 20) bd_309_20
  have u2 := CI_b c (k := 309) (j := 36) bd_309_36
  have u3 := CI_b c (k := 309) (j := 43) bd_309_43
  have u4 := CI_b c (k := 309) (j := 44) bd_309_44
  have u5 := CI_b c (k := 309) (j := 58) bd_309_58
  have u6 := CI_b c (k := 316) (j := 0) bd_316_0
  have u7 := CI_b c (k := 329) (j := 0) bd_329_0
  have u8 := CI_b c (k := 329) (j := 1) bd_329_1
  have t9 : s 309 20 = r0 309 20 := f 309 20 (by decide)
  have t10 : s 316 0 = r0 316 0 := f 316 0 (by decide)
  have t11 : s 329 0 = r0 329 0 := f 329 0 (by decide)
  have t12 : s 329 1 = r0 329 1 := f 329 1 (by decide)
  refine T_if1 (by decide +kernel) ?_
  refine T_useI (sf_X12_bad_309 hfu s c t1 1 0 (by omega) (by omega) (by omega) (by omega)) (fun v18 s13 hq => ?_)
  obtain ⟨c14, f15, o19, ⟨x17, rfl, b20, b21, o22, o23⟩⟩ := hq
  refine T_vI ?_
  have f16 := z_Fr.tr (R := R_X12_sign_309) f f15 rs_X12_bad_309__X12_sign_309
  have t24 : s13 309 20 = s 309 20 := f15 309 20 (by decide)
  have t25 : s13 309 36 = s 309 36 := f15 309 36 (by decide)
  have t26 : s13 309 43 = s 309 43 := f15 309 43 (by decide)
  have t27 : s13 309 44 = s 309 44 := f15 309 44 (by decide)
  have t28 : s13 309 58 = s 309 58 := f15 309 58 (by decide)
  have t29 : s13 316 0 = s 316 0 := f15 316 0 (by decide)
  have t30 : s13 329 0 = s 329 0 := f15 329 0 (by decide)
  have t31 : s13 329 1 = s 329 1 := f15 329 1 (by decide)
  have r32 := y_TA.fr p1 (fun a b h => f15 a b (nz_X12_bad_309__316_328 a b h)) (fun a b h => f15 a b (nz_X12_bad_309__346_358 a b h)) (fun a b h => f15 a b (nz_X12_bad_309__361_373 a b h))
  have r33 := y_DD.fr p2 (f15 329 0 (by decide)) (f15 329 1 (by decide)) (fun b => f15 359 b (nr_X12_bad_309__359 b)) (fun b => f15 374 b (nr_X12_bad_309__374 b))
  have r34 := y_B.fr p3 (f15 309 20 (by decide)) (f15 316 0 (by decide)) (fun b => f15 3220 b (nr_X12_bad_309__3220 b)) (fun b => f15 3221 b (nr_X12_bad_309__3221 b)) (fun b => f15 3222 b (nr_X12_bad_309__3222 b)) (fun b => f15 361 b (nr_X12_bad_309__361 b))
  have r35 := y_K.fr p4 (by omega) (by omega) (f15 309 44 (by decide)) (f15 309 20 (by decide)) (f15 309 58 (by decide)) (fun b => f15 3438 b (nr_X12_bad_309__3438 b)) (fun b => f15 3220 b (nr_X12_bad_309__3220 b)) (fun a b h => f15 a b (nz_X12_bad_309__3452_3651 a b h))
  have r36 := y_KM.fr p5 (f15 309 20 (by decide)) (f15 309 36 (by decide)) (f15 309 38 (by decide)) (f15 309 39 (by decide)) (fun b => f15 312 b (nr_X12_bad_309__312 b)) (fun b => f15 331 b (nr_X12_bad_309__331 b)) (fun b => f15 346 b (nr_X12_bad_309__346 b)) (fun b => f15 361 b (nr_X12_bad_309__361 b)) (fun b => f15 391 b (nr_X12_bad_309__391 b)) (fun a b h => f15 a b (nz_X12_bad_309__407_606 a b h)) (fun a b h => f15 a b (nz_X12_bad_309__3220_3223 a b h)) (fun a b h => f15 a b (nz_X12_bad_309__3235_3437 a b h))
  refine T_ite (fun h37 => ?_) (fun h37 => ?_)
  · exact sj_X12_sign_309K_J61 hfu r0 s13 c14 f16 r32 (by first | exact r33 | exact y_DD.z (by omega) (by omega)) r34 (by first | exact r35 | exact y_K.b0 (by omega) | exact y_K.k0 (by omega) | exact y_K.bk (by omega)) (by first | exact r36 | exact y_KM.z (by omega))
  · refine T_useI (sf_X12_in hfu s13 c14 a2 0 6 (by omega) (by omega) (by omega)) (fun v43 s38 hq => ?_)
    obtain ⟨c39, f40, ⟨x42, rfl, b44, b45, o46⟩⟩ := hq
    refine T_vI ?_
    have q47 := z_Fr.eq (fun a b h => h) f40
    subst q47
    refine T_ite (fun h48 => ?_) (fun h48 => ?_)
    · exact sj_X12_sign_309K_J53 hfu r0 s13 c14 f16 a1 a2 0 (by omega) (by omega) (by omega) (by omega) (by omega) r32 (by first | exact r33 | exact y_DD.z (by omega) (by omega)) r34 (by first | exact r35 | exact y_K.b0 (by omega) | exact y_K.k0 (by omega) | exact y_K.bk (by omega)) (by first | exact r36 | exact y_KM.z (by omega))
    · exact sj_X12_sign_309K_J53 hfu r0 s13 c14 f16 a1 a2 1 (by omega) (by omega) (by omega) (by omega) (by omega) r32 (by first | exact r33 | exact y_DD.z (by omega) (by omega)) r34 (by first | exact r35 | exact y_K.b0 (by omega) | exact y_K.k0 (by omega) | exact y_K.bk (by omega)) (by first | exact r36 | exact y_KM.z (by omega))
theorem sf_X12_sign_309K {fu : Nat} (hfu : 8589934592 ≤ fu) (r0 : z_M) (c0 : z_CI r0) (a1 : Int) (a2 : Int) (b1 : -2147483648 ≤ a1 ∧ a1 ≤ 2147483647) (b2 : -2147483648 ≤ a2 ∧ a2 ≤ 2147483647) (p0 : y_TA r0) (p1 : y_DD r0) (p2 : y_B r0) (p3 : y_K r0) (p4 : y_KM r0) : z_T (fX12_sign fu r0 309 a1 a2) (P_X12_sign_309K r0) := by
  refine T_of (fX12_sign.eq_1 ..) ?_
  have u1 := CI_b c0 (k := 309) (j := 20) bd_309_20
  have u2 := CI_b c0 (k := 309) (j := 36) bd_309_36
  have u3 := CI_b c0 (k := 309) (j := 43) bd_309_43
  have u4 := CI_b c0 (k := 309) (j := 44) bd_309_44
  have u5 := CI_b c0 (k := 309) (j := 58) bd_309_58
  have u6 := CI_b c0 (k := 316) (j := 0) bd_316_0
  have u7 := CI_b c0 (k := 329) (j := 0) bd_329_0
  have u8 := CI_b c0 (k := 329) (j := 1) bd_329_1
  refine T_if1 (by decide +kernel) ?_
  refine T_upg c0 bd_309_0 (by omega) (fun s9 c10 g12 g13 e14 => ?_)
  have f11 := z_Fr.upf (R := R_X12_sign_309) z_Fr.rf g12 g13 (Or.inr (Or.inr (⟨rfl, by decide⟩)))
  have t15 : s9 309 20 = r0 309 20 := g13 20 (by decide)
  have t16 : s9 309 36 = r0 309 36 := g13 36 (by decide)
  have t17 : s9 309 43 = r0 309 43 := g13 43 (by decide)
  have t18 : s9 309 44 = r0 309 44 := g13 44 (by decide)
  have t19 : s9 309 58 = r0 309 58 := g13 58 (by decide)
  have t20 : s9 316 0 = r0 316 0 := g12 316 0 (by decide)
  have t21 : s9 329 0 = r0 329 0 := g12 329 0 (by decide)
  have t22 : s9 329 1 = r0 329 1 := g12 329 1 (by decide)
  have r23 := y_TA.fr p0 (fun a b h => g12 a b (by omega)) (fun a b h => g12 a b (by omega)) (fun a b h => g12 a b (by omega))
  have r24 := y_DD.fr p1 (g12 329 0 (by decide)) (g12 329 1 (by decide)) (fun b => g12 359 b (by decide)) (fun b => g12 374 b (by decide))
  have r25 := y_B.fr p2 (g13 20 (by decide)) (g12 316 0 (by decide)) (fun b => g12 3220 b (by decide)) (fun b => g12 3221 b (by decide)) (fun b => g12 3222 b (by decide)) (fun b => g12 361 b (by decide))
  have r26 := y_K.fr p3 (by omega) (by omega) (g13 44 (by decide)) (g13 20 (by decide)) (g13 58 (by decide)) (fun b => g12 3438 b (by decide)) (fun b => g12 3220 b (by decide)) (fun a b h => g12 a b (by omega))
  have r27 := y_KM.fr p4 (g13 20 (by decide)) (g13 36 (by decide)) (g13 38 (by decide)) (g13 39 (by decide)) (fun b => g12 312 b (by decide)) (fun b => g12 331 b (by decide)) (fun b => g12 346 b (by decide)) (fun b => g12 361 b (by decide)) (fun b => g12 391 b (by decide)) (fun a b h => g12 a b (by omega)) (fun a b h => g12 a b (by omega)) (fun a b h => g12 a b (by omega))
  refine T_if1 (by decide +kernel) ?_
  refine T_let 315 (by decide +kernel) ?_
  refine T_if1 (z_ixl (n := 14) (by decide +kernel) (by omega) (by omega)) ?_
  refine T_let 316 (by decide +kernel) ?_
  refine T_if1 (z_ixl (n := 3) (by decide +kernel) (by omega) (by omega)) ?_
  refine T_leq (fun x28 e29 => ?_)
  have u30 := CI_b c10 (k := 316) (j := 0) bd_316_0
  refine T_leq (fun x31 e32 => ?_)
  first | (have w33 := z_wx e32 (by omega)) | (have w33 := z_wr e32)
  refine T_useI (sf_X12_in hfu s9 c10 a1 0 x31 (by omega) (by omega) (by omega)) (fun v39 s34 hq => ?_)
  obtain ⟨c35, f36, ⟨x38, rfl, b40, b41, o42⟩⟩ := hq
  refine T_vI ?_
  have q43 := z_Fr.eq (fun a b h => h) f36
  subst q43
  refine T_ite (fun h44 => ?_) (fun h44 => ?_)
  · exact sj_X12_sign_309K_J29 hfu r0 s9 c10 f11 a1 a2 0 (by omega) (by omega) (by omega) (by omega) r23 (by first | exact r24 | exact y_DD.z (by omega) (by omega)) r25 (by first | exact r26 | exact y_K.b0 (by omega) | exact y_K.k0 (by omega) | exact y_K.bk (by omega)) (by first | exact r27 | exact y_KM.z (by omega))
  · exact sj_X12_sign_309K_J29 hfu r0 s9 c10 f11 a1 a2 1 (by omega) (by omega) (by omega) (by omega) r23 (by first | exact r24 | exact y_DD.z (by omega) (by omega)) r25 (by first | exact r26 | exact y_K.b0 (by omega) | exact y_K.k0 (by omega) | exact y_K.bk (by omega)) (by first | exact r27 | exact y_KM.z (by omega))
abbrev P_X12_line_309K (r0 : z_M) : z_V → z_M → Prop := fun v s' => z_CI s' ∧ z_Fr R_X12_line_309 r0 s' ∧ (y_TA s') ∧ (y_DD s') ∧ (y_B s') ∧ (y_K s') ∧ (y_KM s') ∧ (∃ x, v = vI x ∧ -2147483648 ≤ x ∧ x ≤ 2147483647)
theorem sj_X12_line_309K_J61 {fu : Nat} (hfu : 8589934592 ≤ fu) (r0 s : z_M) (c : z_CI s) (f : z_Fr R_X12_line_309 r0 s) (p0 : y_TA s) (p1 : y_DD s) (p2 : y_B s) (p3 : y_K s) (p4 : y_KM s) : z_T (fX12_line_J61 fu s) (P_X12_line_309K r0) := by
  refine T_of (fX12_line_J61.eq_1 ..) ?_
  have u1 := CI_b c (k := 309) (j := 20) bd_309_20
  have u2 := CI_b c (k := 309) (j := 36) bd_309_36
  have u3 := CI_b c (k := 309) (j := 43) bd_309_43
  have u4 := CI_b c (k := 309) (j := 44) bd_309_44
  have u5 := CI_b c (k := 309) (j := 58) bd_309_58
  have u6 := CI_b c (k := 316) (j := 0) bd_316_0
  have u7 := CI_b c (k := 329) (j := 0) bd_329_0
  have u8 := CI_b c (k := 329) (j := 1) bd_329_1
  have t9 : s 309 20 = r0 309 20 := f 309 20 (by decide)
  have t10 : s 316 0 = r0 316 0 := f 316 0 (by decide)
  have t11 : s 329 0 = r0 329 0 := f 329 0 (by decide)
  have t12 : s 329 1 = r0 329 1 := f 329 1 (by decide)
  exact T_ret ⟨c, f, p0, (by first | exact p1 | exact y_DD.z (by omega) (by omega)), p2, (by first | exact p3 | exact y_K.b0 (by omega) | exact y_K.k0 (by omega) | exact y_K.bk (by omega)), (by first | exact p4 | exact y_KM.z (by omega)), ⟨0, rfl, by omega, by omega⟩⟩
set_option maxHeartbeats 4000000 in
theorem sj_X12_line_309K_J53 {fu : Nat} (hfu : 8589934592 ≤ fu) (r0 s : z_M) (c : z_CI s) (f : z_Fr R_X12_line_309 r0 s) (a1 : Int) (a2 : Int) (t1 : Int) (b1 : -2147483648 ≤ a1 ∧ a1 ≤ 2147483647) (b2 : -2147483648 ≤ a2 ∧ a2 ≤ 2147483647) (d1 : 0 ≤ t1 ∧ t1 ≤ 1) (p0 : 0 ≤ a1 ∧ a1 < s 309 44) (p1 : t1 = 1 ∨ (0 ≤ a2 ∧ a2 ≤ 7)) (p2 : y_TA s) (p3 : y_DD s) (p4 : y_B s) (p5 : y_K s) (p6 : y_KM s) : z_T (fX12_line_J53 fu s 309 a1 a2 309 t1) (P_X12_line_309K r0) := by
  refine T_of (fX12_line_J53.eq_1 ..) ?_
  have u1 := CI_b c (k := 309) (j := 20) bd_309_20
  have u2 := CI_b c (k := 309) (j := 36) bd_309_36
  have u3 := CI_b c (k := 309) (j := 43) bd_309_43
  have u4 := CI_b c (k := 309) (j := 44) bd_309_44
  have u5 := CI_b c (k := 309) (j := 58) bd_309_58
  have u6 := CI_b c (k := 316) (j := 0) bd_316_0
  have u7 := CI_b c (k := 329) (j := 0) bd_329_0
  have u8 := CI_b c (k := 329) (j := 1) bd_329_1
  have t9 : s 309 20 = r0 309 20 := f 309 20 (by decide)
  have t10 : s 316 0 = r0 316 0 := f 316 0 (by decide)
  have t11 : s 329 0 = r0 329 0 := f 329 0 (by decide)
  have t12 : s 329 1 = r0 329 1 := f 329 1 (by decide)
  refine T_if1 (by decide +kernel) ?_
  refine T_useI (sf_X12_bad_309 hfu s c t1 2 1 (by omega) (by omega) (by omega) (by omega)) (fun v18 s13 hq => ?_)
  obtain ⟨c14, f15, o19, ⟨x17, rfl, b20, b21, o22, o23⟩⟩ := hq
  refine T_vI ?_
  have f16 := z_Fr.tr (R := R_X12_line_309) f f15 rs_X12_bad_309__X12_line_309
  have t24 : s13 309 20 = s 309 20 := f15 309 20 (by decide)
  have t25 : s13 309 36 = s 309 36 := f15 309 36 (by decide)
  have t26 : s13 309 43 = s 309 43 := f15 309 43 (by decide)
  have t27 : s13 309 44 = s 309 44 := f15 309 44 (by decide)
  have t28 : s13 309 58 = s 309 58 := f15 309 58 (by decide)
  have t29 : s13 316 0 = s 316 0 := f15 316 0 (by decide)
  have t30 : s13 329 0 = s 329 0 := f15 329 0 (by decide)
  have t31 : s13 329 1 = s 329 1 := f15 329 1 (by decide)
  have r32 := y_TA.fr p2 (fun a b h => f15 a b (nz_X12_bad_309__316_328 a b h)) (fun a b h => f15 a b (nz_X12_bad_309__346_358 a b h)) (fun a b h => f15 a b (nz_X12_bad_309__361_373 a b h))
  have r33 := y_DD.fr p3 (f15 329 0 (by decide)) (f15 329 1 (by decide)) (fun b => f15 359 b (nr_X12_bad_309__359 b)) (fun b => f15 374 b (nr_X12_bad_309__374 b))
  have r34 := y_B.fr p4 (f15 309 20 (by decide)) (f15 316 0 (by decide)) (fun b => f15 3220 b (nr_X12_bad_309__3220 b)) (fun b => f15 3221 b (nr_X12_bad_309__3221 b)) (fun b => f15 3222 b (nr_X12_bad_309__3222 b)) (fun b => f15 361 b (nr_X12_bad_309__361 b))
  have r35 := y_K.fr p5 (by omega) (by omega) (f15 309 44 (by decide)) (f15 309 20 (by decide)) (f15 309 58 (by decide)) (fun b => f15 3438 b (nr_X12_bad_309__3438 b)) (fun b => f15 3220 b (nr_X12_bad_309__3220 b)) (fun a b h => f15 a b (nz_X12_bad_309__3452_3651 a b h))
  have r36 := y_KM.fr p6 (f15 309 20 (by decide)) (f15 309 36 (by decide)) (f15 309 38 (by decide)) (f15 309 39 (by decide)) (fun b => f15 312 b (nr_X12_bad_309__312 b)) (fun b => f15 331 b (nr_X12_bad_309__331 b)) (fun b => f15 346 b (nr_X12_bad_309__346 b)) (fun b => f15 361 b (nr_X12_bad_309__361 b)) (fun b => f15 391 b (nr_X12_bad_309__391 b)) (fun a b h => f15 a b (nz_X12_bad_309__407_606 a b h)) (fun a b h => f15 a b (nz_X12_bad_309__3220_3223 a b h)) (fun a b h => f15 a b (nz_X12_bad_309__3235_3437 a b h))
  refine T_ite (fun h37 => ?_) (fun h37 => ?_)
  · refine T_ite (fun h38 => ?_) (fun h38 => ?_)
    · refine T_if1 (by decide +kernel) ?_
      refine T_let 3438 (by decide +kernel) ?_
      refine T_if1 (z_ixl (n := 201) (by decide +kernel) (by omega) (by omega)) ?_
      refine T_leq (fun x39 e40 => ?_)
      have u41 := CI_b c14 (k := 3438) (j := a1) (bdr_3438 a1)
      exact T_ret ⟨c14, f16, r32, (by first | exact r33 | exact y_DD.z (by omega) (by omega)), r34, (by first | exact r35 | exact y_K.b0 (by omega) | exact y_K.k0 (by omega) | exact y_K.bk (by omega)), (by first | exact r36 | exact y_KM.z (by omega)), ⟨x39, rfl, by omega, by omega⟩⟩
    · refine T_ite (fun h42 => ?_) (fun h42 => ?_)
      · refine T_if1 (by decide +kernel) ?_
        refine T_let 3438 (by decide +kernel) ?_
        refine T_leq (fun x43 e44 => ?_)
        first | (have w45 := z_wx e44 (by omega)) | (have w45 := z_wr e44)
        refine T_if1 (z_ixl (n := 201) (by decide +kernel) (by omega) (by omega)) ?_
        refine T_leq (fun x46 e47 => ?_)
        have u48 := CI_b c14 (k := 3438) (j := x43) (bdr_3438 x43)
        refine T_if1 (by decide +kernel) ?_
        refine T_let 3438 (by decide +kernel) ?_
        refine T_if1 (z_ixl (n := 201) (by decide +kernel) (by omega) (by omega)) ?_
        refine T_leq (fun x49 e50 => ?_)
        have u51 := CI_b c14 (k := 3438) (j := a1) (bdr_3438 a1)
        refine T_leq (fun x52 e53 => ?_)
        first | (have w54 := z_wx e53 (by omega)) | (have w54 := z_wr e53)
        exact T_ret ⟨c14, f16, r32, (by first | exact r33 | exact y_DD.z (by omega) (by omega)), r34, (by first | exact r35 | exact y_K.b0 (by omega) | exact y_K.k0 (by omega) | exact y_K.bk (by omega)), (by first | exact r36 | exact y_KM.z (by omega)), ⟨x52, rfl, by omega, by omega⟩⟩
      · refine T_ite (fun h55 => ?_) (fun h55 => ?_)
        · refine T_if1 (by decide +kernel) ?_
          refine T_let 3446 (by decide +kernel) ?_
          refine T_if1 (z_ixl (n := 200) (by decide +kernel) (by omega) (by omega)) ?_
          refine T_leq (fun x56 e57 => ?_)
          have u58 := CI_b c14 (k := 3446) (j := a1) (bdr_3446 a1)
          exact T_ret ⟨c14, f16, r32, (by first | exact r33 | exact y_DD.z (by omega) (by omega)), r34, (by first | exact r35 | exact y_K.b0 (by omega) | exact y_K.k0 (by omega) | exact y_K.bk (by omega)), (by first | exact r36 | exact y_KM.z (by omega)), ⟨x56, rfl, by omega, by omega⟩⟩
        · refine T_ite (fun h59 => ?_) (fun h59 => ?_)
          · refine T_if1 (by decide +kernel) ?_
            refine T_let 312 (by decide +kernel) ?_
            refine T_if1 (z_ixl (n := 9) (by decide +kernel) (by omega) (by omega)) ?_
            refine T_leq (fun x60 e61 => ?_)
            have u62 := CI_b c14 (k := 312) (j := 0) (bdr_312 0)
            refine T_if1 (by decide +kernel) ?_
            refine T_let 3446 (by decide +kernel) ?_
            refine T_if1 (z_ixl (n := 200) (by decide +kernel) (by omega) (by omega)) ?_
            refine T_leq (fun x63 e64 => ?_)
            have u65 := CI_b c14 (k := 3446) (j := a1) (bdr_3446 a1)
            refine T_leq (fun x66 e67 => ?_)
            first | (have w68 := z_wx e67 (by omega)) | (have w68 := z_wr e67)
            exact T_ret ⟨c14, f16, r32, (by first | exact r33 | exact y_DD.z (by omega) (by omega)), r34, (by first | exact r35 | exact y_K.b0 (by omega) | exact y_K.k0 (by omega) | exact y_K.bk (by omega)), (by first | exact r36 | exact y_KM.z (by omega)), ⟨x66, rfl, by omega, by omega⟩⟩
          · refine T_ite (fun h69 => ?_) (fun h69 => ?_)
            · refine T_if1 (by decide +kernel) ?_
              refine T_let 3447 (by decide +kernel) ?_
              refine T_if1 (z_ixl (n := 200) (by decide +kernel) (by omega) (by omega)) ?_
              refine T_leq (fun x70 e71 => ?_)
              have u72 := CI_b c14 (k := 3447) (j := a1) (bdr_3447 a1)
              exact T_ret ⟨c14, f16, r32, (by first | exact r33 | exact y_DD.z (by omega) (by omega)), r34, (by first | exact r35 | exact y_K.b0 (by omega) | exact y_K.k0 (by omega) | exact y_K.bk (by omega)), (by first | exact r36 | exact y_KM.z (by omega)), ⟨x70, rfl, by omega, by omega⟩⟩
            · refine T_ite (fun h73 => ?_) (fun h73 => ?_)
              · refine T_if1 (by decide +kernel) ?_
                refine T_let 3448 (by decide +kernel) ?_
                refine T_if1 (z_ixl (n := 200) (by decide +kernel) (by omega) (by omega)) ?_
                refine T_leq (fun x74 e75 => ?_)
                have u76 := CI_b c14 (k := 3448) (j := a1) (bdr_3448 a1)
                exact T_ret ⟨c14, f16, r32, (by first | exact r33 | exact y_DD.z (by omega) (by omega)), r34, (by first | exact r35 | exact y_K.b0 (by omega) | exact y_K.k0 (by omega) | exact y_K.bk (by omega)), (by first | exact r36 | exact y_KM.z (by omega)), ⟨x74, rfl, by omega, by omega⟩⟩
              · refine T_ite (fun h77 => ?_) (fun h77 => ?_)
                · refine T_if1 (by decide +kernel) ?_
                  refine T_let 3449 (by decide +kernel) ?_
                  refine T_if1 (z_ixl (n := 200) (by decide +kernel) (by omega) (by omega)) ?_
                  refine T_leq (fun x78 e79 => ?_)
                  have u80 := CI_b c14 (k := 3449) (j := a1) (bdr_3449 a1)
                  exact T_ret ⟨c14, f16, r32, (by first | exact r33 | exact y_DD.z (by omega) (by omega)), r34, (by first | exact r35 | exact y_K.b0 (by omega) | exact y_K.k0 (by omega) | exact y_K.bk (by omega)), (by first | exact r36 | exact y_KM.z (by omega)), ⟨x78, rfl, by omega, by omega⟩⟩
                · refine T_if1 (by decide +kernel) ?_
                  refine T_let 3450 (by decide +kernel) ?_
                  refine T_if1 (z_ixl (n := 200) (by decide +kernel) (by omega) (by omega)) ?_
                  refine T_leq (fun x81 e82 => ?_)
                  have u83 := CI_b c14 (k := 3450) (j := a1) (bdr_3450 a1)
                  exact T_ret ⟨c14, f16, r32, (by first | exact r33 | exact y_DD.z (by omega) (by omega)), r34, (by first | exact r35 | exact y_K.b0 (by omega) | exact y_K.k0 (by omega) | exact y_K.bk (by omega)), (by first | exact r36 | exact y_KM.z (by omega)), ⟨x81, rfl, by omega, by omega⟩⟩
  · exact sj_X12_line_309K_J61 hfu r0 s13 c14 f16 r32 (by first | exact r33 | exact y_DD.z (by omega) (by omega)) r34 (by first | exact r35 | exact y_K.b0 (by omega) | exact y_K.k0 (by omega) | exact y_K.bk (by omega)) (by first | exact r36 | exact y_KM.z (by omega))
theorem sj_X12_line_309K_J29 {fu : Nat} (hfu : 8589934592 ≤ fu) (r0 s : z_M) (c : z_CI s) (f : z_Fr R_X12_line_309 r0 s) (a1 : Int) (a2 : Int) (t1 : Int) (b1 : -2147483648 ≤ a1 ∧ a1 ≤ 2147483647) (b2 : -2147483648 ≤ a2 ∧ a2 ≤ 2147483647) (d1 : 0 ≤ t1 ∧ t1 ≤ 1) (p0 : t1 = 1 ∨ (0 ≤ a1 ∧ a1 < s 309 44)) (p1 : y_TA s) (p2 : y_DD s) (p3 : y_B s) (p4 : y_K s) (p5 : y_KM s) : z_T (fX12_line_J29 fu s 309 a1 a2 309 t1) (P_X12_line_309K r0) := by
  refine T_of (fX12_line_J29.eq_1 ..) ?_
  have u1 := CI_b c (k := 309) (j := 20) bd_309_20
  have u2 := CI_b c (k := 309) (j := 36) bd_309_36
  have u3 := CI_b c (k := 309) (j := 43) bd_309_43
  have u4 := CI_b c (k := 309) (j := 44) bd_309_44
  have u5 := CI_b c (k := 309) (j := 58) bd_309_58
  have u6 := CI_b c (k := 316) (j := 0) bd_316_0
  have u7 := CI_b c (k := 329) (j := 0) bd_329_0
  have u8 := CI_b c (k := 329) (j := 1) bd_329_1
  have t9 : s 309 20 = r0 309 20 := f 309 20 (by decide)
  have t10 : s 316 0 = r0 316 0 := f 316 0 (by decide)
  have t11 : s 329 0 = r0 329 0 := f 329 0 (by decide)
  have t12 : s 329 1 = r0 329 1 := f 329 1 (by decide)
  refine T_if1 (by decide +kernel) ?_
  refine T_useI (sf_X12_bad_309 hfu s c t1 1 0 (by omega) (by omega) (by omega) (by omega)) (fun v18 s13 hq => ?_)
  obtain ⟨c14, f15, o19, ⟨x17, rfl, b20, b21, o22, o23⟩⟩ := hq
  refine T_vI ?_
  have f16 := z_Fr.tr (R := R_X12_line_309) f f15 rs_X12_bad_309__X12_line_309
  have t24 : s13 309 20 = s 309 20 := f15 309 20 (by decide)
  have t25 : s13 309 36 = s 309 36 := f15 309 36 (by decide)
  have t26 : s13 309 43 = s 309 43 := f15 309 43 (by decide)
  have t27 : s13 309 44 = s 309 44 := f15 309 44 (by decide)
  have t28 : s13 309 58 = s 309 58 := f15 309 58 (by decide)
  have t29 : s13 316 0 = s 316 0 := f15 316 0 (by decide)
  have t30 : s13 329 0 = s 329 0 := f15 329 0 (by decide)
  have t31 : s13 329 1 = s 329 1 := f15 329 1 (by decide)
  have r32 := y_TA.fr p1 (fun a b h => f15 a b (nz_X12_bad_309__316_328 a b h)) (fun a b h => f15 a b (nz_X12_bad_309__346_358 a b h)) (fun a b h => f15 a b (nz_X12_bad_309__361_373 a b h))
  have r33 := y_DD.fr p2 (f15 329 0 (by decide)) (f15 329 1 (by decide)) (fun b => f15 359 b (nr_X12_bad_309__359 b)) (fun b => f15 374 b (nr_X12_bad_309__374 b))
  have r34 := y_B.fr p3 (f15 309 20 (by decide)) (f15 316 0 (by decide)) (fun b => f15 3220 b (nr_X12_bad_309__3220 b)) (fun b => f15 3221 b (nr_X12_bad_309__3221 b)) (fun b => f15 3222 b (nr_X12_bad_309__3222 b)) (fun b => f15 361 b (nr_X12_bad_309__361 b))
  have r35 := y_K.fr p4 (by omega) (by omega) (f15 309 44 (by decide)) (f15 309 20 (by decide)) (f15 309 58 (by decide)) (fun b => f15 3438 b (nr_X12_bad_309__3438 b)) (fun b => f15 3220 b (nr_X12_bad_309__3220 b)) (fun a b h => f15 a b (nz_X12_bad_309__3452_3651 a b h))
  have r36 := y_KM.fr p5 (f15 309 20 (by decide)) (f15 309 36 (by decide)) (f15 309 38 (by decide)) (f15 309 39 (by decide)) (fun b => f15 312 b (nr_X12_bad_309__312 b)) (fun b => f15 331 b (nr_X12_bad_309__331 b)) (fun b => f15 346 b (nr_X12_bad_309__346 b)) (fun b => f15 361 b (nr_X12_bad_309__361 b)) (fun b => f15 391 b (nr_X12_bad_309__391 b)) (fun a b h => f15 a b (nz_X12_bad_309__407_606 a b h)) (fun a b h => f15 a b (nz_X12_bad_309__3220_3223 a b h)) (fun a b h => f15 a b (nz_X12_bad_309__3235_3437 a b h))
  refine T_ite (fun h37 => ?_) (fun h37 => ?_)
  · exact sj_X12_line_309K_J61 hfu r0 s13 c14 f16 r32 (by first | exact r33 | exact y_DD.z (by omega) (by omega)) r34 (by first | exact r35 | exact y_K.b0 (by omega) | exact y_K.k0 (by omega) | exact y_K.bk (by omega)) (by first | exact r36 | exact y_KM.z (by omega))
  · refine T_useI (sf_X12_in hfu s13 c14 a2 0 7 (by omega) (by omega) (by omega)) (fun v43 s38 hq => ?_)
    obtain ⟨c39, f40, ⟨x42, rfl, b44, b45, o46⟩⟩ := hq
    refine T_vI ?_
    have q47 := z_Fr.eq (fun a b h => h) f40
    subst q47
    refine T_ite (fun h48 => ?_) (fun h48 => ?_)
    · exact sj_X12_line_309K_J53 hfu r0 s13 c14 f16 a1 a2 0 (by omega) (by omega) (by omega) (by omega) (by omega) r32 (by first | exact r33 | exact y_DD.z (by omega) (by omega)) r34 (by first | exact r35 | exact y_K.b0 (by omega) | exact y_K.k0 (by omega) | exact y_K.bk (by omega)) (by first | exact r36 | exact y_KM.z (by omega))
    · exact sj_X12_line_309K_J53 hfu r0 s13 c14 f16 a1 a2 1 (by omega) (by omega) (by omega) (by omega) (by omega) r32 (by first | exact r33 | exact y_DD.z (by omega) (by omega)) r34 (by first | exact r35 | exact y_K.b0 (by omega) | exact y_K.k0 (by omega) | exact y_K.bk (by omega)) (by first | exact r36 | exact y_KM.z (by omega))
theorem sf_X12_line_309K {fu : Nat} (hfu : 8589934592 ≤ fu) (r0 : z_M) (c0 : z_CI r0) (a1 : Int) (a2 : Int) (b1 : -2147483648 ≤ a1 ∧ a1 ≤ 2147483647) (b2 : -2147483648 ≤ a2 ∧ a2 ≤ 2147483647) (p0 : y_TA r0) (p1 : y_DD r0) (p2 : y_B r0) (p3 : y_K r0) (p4 : y_KM r0) : z_T (fX12_line fu r0 309 a1 a2) (P_X12_line_309K r0) := by
  refine T_of (fX12_line.eq_1 ..) ?_
  have u1 := CI_b c0 (k := 309) (j := 20) bd_309_20
  have u2 := CI_b c0 (k := 309) (j := 36) bd_309_36
  have u3 := CI_b c0 (k := 309) (j := 43) bd_309_43
  have u4 := CI_b c0 (k := 309) (j := 44) bd_309_44
  have u5 := CI_b c0 (k := 309) (j := 58) bd_309_58
  have u6 := CI_b c0 (k := 316) (j := 0) bd_316_0
  have u7 := CI_b c0 (k := 329) (j := 0) bd_329_0
  have u8 := CI_b c0 (k := 329) (j := 1) bd_329_1
  refine T_if1 (by decide +kernel) ?_
  refine T_upg c0 bd_309_0 (by omega) (fun s9 c10 g12 g13 e14 => ?_)
  have f11 := z_Fr.upf (R := R_X12_line_309) z_Fr.rf g12 g13 (Or.inr (Or.inr (⟨rfl, by decide⟩)))
  have t15 : s9 309 20 = r0 309 20 := g13 20 (by decide)
  have t16 : s9 309 36 = r0 309 36 := g13 36 (by decide)
  have t17 : s9 309 43 = r0 309 43 := g13 43 (by decide)
  have t18 : s9 309 44 = r0 309 44 := g13 44 (by decide)
  have t19 : s9 309 58 = r0 309 58 := g13 58 (by decide)
  have t20 : s9 316 0 = r0 316 0 := g12 316 0 (by decide)
  have t21 : s9 329 0 = r0 329 0 := g12 329 0 (by decide)
  have t22 : s9 329 1 = r0 329 1 := g12 329 1 (by decide)
  have r23 := y_TA.fr p0 (fun a b h => g12 a b (by omega)) (fun a b h => g12 a b (by omega)) (fun a b h => g12 a b (by omega))
  have r24 := y_DD.fr p1 (g12 329 0 (by decide)) (g12 329 1 (by decide)) (fun b => g12 359 b (by decide)) (fun b => g12 374 b (by decide))
  have r25 := y_B.fr p2 (g13 20 (by decide)) (g12 316 0 (by decide)) (fun b => g12 3220 b (by decide)) (fun b => g12 3221 b (by decide)) (fun b => g12 3222 b (by decide)) (fun b => g12 361 b (by decide))
  have r26 := y_K.fr p3 (by omega) (by omega) (g13 44 (by decide)) (g13 20 (by decide)) (g13 58 (by decide)) (fun b => g12 3438 b (by decide)) (fun b => g12 3220 b (by decide)) (fun a b h => g12 a b (by omega))
  have r27 := y_KM.fr p4 (g13 20 (by decide)) (g13 36 (by decide)) (g13 38 (by decide)) (g13 39 (by decide)) (fun b => g12 312 b (by decide)) (fun b => g12 331 b (by decide)) (fun b => g12 346 b (by decide)) (fun b => g12 361 b (by decide)) (fun b => g12 391 b (by decide)) (fun a b h => g12 a b (by omega)) (fun a b h => g12 a b (by omega)) (fun a b h => g12 a b (by omega))
  refine T_if1 (by decide +kernel) ?_
  refine T_useN (sf_X12_laysAll_309K hfu s9 c10 r25 (by first | exact r26 | exact y_K.b0 (by omega) | exact y_K.k0 (by omega) | exact y_K.bk (by omega)) (by first | exact r27 | exact y_KM.z (by omega))) (fun v33 s28 hq => ?_)
  obtain ⟨c29, f30, o34, o35, o36, o37, o38, o39, o40, rfl⟩ := hq
  refine T_vN ?_
  have f31 := z_Fr.tr (R := R_X12_line_309) f11 f30 rs_X12_laysAll_309__X12_line_309
  have t43 : s28 309 20 = r0 309 20 := (f30 309 20 (by decide)).trans t15
  have t44 : s28 316 0 = r0 316 0 := (f30 316 0 (by decide)).trans t20
  have t45 : s28 329 0 = r0 329 0 := (f30 329 0 (by decide)).trans t21
  have t46 : s28 329 1 = r0 329 1 := (f30 329 1 (by decide)).trans t22
  have u47 := CI_b c29 (k := 309) (j := 36) bd_309_36
  have u48 := CI_b c29 (k := 309) (j := 43) bd_309_43
  have u49 := CI_b c29 (k := 309) (j := 44) bd_309_44
  have u50 := CI_b c29 (k := 309) (j := 58) bd_309_58
  have r51 := y_TA.fr r23 (fun a b h => f30 a b (nz_X12_laysAll_309__316_328 a b h)) (fun a b h => f30 a b (nz_X12_laysAll_309__346_358 a b h)) (fun a b h => f30 a b (nz_X12_laysAll_309__361_373 a b h))
  have r52 := y_DD.fr r24 (f30 329 0 (by decide)) (f30 329 1 (by decide)) (fun b => f30 359 b (nr_X12_laysAll_309__359 b)) (fun b => f30 374 b (nr_X12_laysAll_309__374 b))
  have r53 := y_B.fr r25 (f30 309 20 (by decide)) (f30 316 0 (by decide)) (fun b => f30 3220 b (nr_X12_laysAll_309__3220 b)) (fun b => f30 3221 b (nr_X12_laysAll_309__3221 b)) (fun b => f30 3222 b (nr_X12_laysAll_309__3222 b)) (fun b => f30 361 b (nr_X12_laysAll_309__361 b))
  clear t15
  clear t20
  clear t21
  clear t22
  refine T_if1 (by decide +kernel) ?_
  refine T_leq (fun x54 e55 => ?_)
  have u56 := CI_b c29 (k := 309) (j := 44) bd_309_44
  refine T_leq (fun x57 e58 => ?_)
  first | (have w59 := z_wx e58 (by omega)) | (have w59 := z_wr e58)
  refine T_useI (sf_X12_in hfu s28 c29 a1 0 x57 (by omega) (by omega) (by omega)) (fun v65 s60 hq => ?_)
  obtain ⟨c61, f62, ⟨x64, rfl, b66, b67, o68⟩⟩ := hq
  refine T_vI ?_
  have q69 := z_Fr.eq (fun a b h => h) f62
  subst q69
  refine T_ite (fun h70 => ?_) (fun h70 => ?_)
  · exact sj_X12_line_309K_J29 hfu r0 s28 c29 f31 a1 a2 0 (by omega) (by omega) (by omega) (by omega) r51 (by first | exact r52 | exact y_DD.z (by omega) (by omega)) r53 (by first | exact o34 | exact y_K.b0 (by omega) | exact y_K.k0 (by omega) | exact y_K.bk (by omega) | exact y_K.mk o35 (by omega) o36) (by first | exact o40 | exact y_KM.z (by omega))
  · exact sj_X12_line_309K_J29 hfu r0 s28 c29 f31 a1 a2 1 (by omega) (by omega) (by omega) (by omega) r51 (by first | exact r52 | exact y_DD.z (by omega) (by omega)) r53 (by first | exact o34 | exact y_K.b0 (by omega) | exact y_K.k0 (by omega) | exact y_K.bk (by omega) | exact y_K.mk o35 (by omega) o36) (by first | exact o40 | exact y_KM.z (by omega))
abbrev P_X12_block_309K (r0 : z_M) : z_V → z_M → Prop := fun v s' => z_CI s' ∧ z_Fr R_X12_block_309 r0 s' ∧ (y_TA s') ∧ (y_DD s') ∧ (y_B s') ∧ (y_K s') ∧ (y_KM s') ∧ (∃ x, v = vI x ∧ -2147483648 ≤ x ∧ x ≤ 2147483647)
theorem sj_X12_block_309K_J61 {fu : Nat} (hfu : 8589934592 ≤ fu) (r0 s : z_M) (c : z_CI s) (f : z_Fr R_X12_block_309 r0 s) (p0 : y_TA s) (p1 : y_DD s) (p2 : y_B s) (p3 : y_K s) (p4 : y_KM s) : z_T (fX12_block_J61 fu s) (P_X12_block_309K r0) := by
  refine T_of (fX12_block_J61.eq_1 ..) ?_
  have u1 := CI_b c (k := 309) (j := 20) bd_309_20
  have u2 := CI_b c (k := 309) (j := 36) bd_309_36
  have u3 := CI_b c (k := 309) (j := 43) bd_309_43
  have u4 := CI_b c (k := 309) (j := 44) bd_309_44
  have u5 := CI_b c (k := 309) (j := 58) bd_309_58
  have u6 := CI_b c (k := 316) (j := 0) bd_316_0
  have u7 := CI_b c (k := 329) (j := 0) bd_329_0
  have u8 := CI_b c (k := 329) (j := 1) bd_329_1
  have t9 : s 309 20 = r0 309 20 := f 309 20 (by decide)
  have t10 : s 316 0 = r0 316 0 := f 316 0 (by decide)
  have t11 : s 329 0 = r0 329 0 := f 329 0 (by decide)
  have t12 : s 329 1 = r0 329 1 := f 329 1 (by decide)
  exact T_ret ⟨c, f, p0, (by first | exact p1 | exact y_DD.z (by omega) (by omega)), p2, (by first | exact p3 | exact y_K.b0 (by omega) | exact y_K.k0 (by omega) | exact y_K.bk (by omega)), (by first | exact p4 | exact y_KM.z (by omega)), ⟨0, rfl, by omega, by omega⟩⟩
theorem sj_X12_block_309K_J53 {fu : Nat} (hfu : 8589934592 ≤ fu) (r0 s : z_M) (c : z_CI s) (f : z_Fr R_X12_block_309 r0 s) (a1 : Int) (a2 : Int) (t1 : Int) (b1 : -2147483648 ≤ a1 ∧ a1 ≤ 2147483647) (b2 : -2147483648 ≤ a2 ∧ a2 ≤ 2147483647) (d1 : 0 ≤ t1 ∧ t1 ≤ 1) (p0 : 0 ≤ a1 ∧ a1 < s 309 58) (p1 : t1 = 1 ∨ (0 ≤ a2 ∧ a2 ≤ 7)) (p2 : y_TA s) (p3 : y_DD s) (p4 : y_B s) (p5 : y_K s) (p6 : y_KM s) : z_T (fX12_block_J53 fu s 309 a1 a2 309 t1) (P_X12_block_309K r0) := by
  refine T_of (fX12_block_J53.eq_1 ..) ?_
  have u1 := CI_b c (k := 309) (j := 20) bd_309_20
  have u2 := CI_b c (k := 309) (j := 36) bd_309_36
  have u3 := CI_b c (k := 309) (j := 43) bd_309_43
  have u4 := CI_b c (k := 309) (j := 44) bd_309_44
  have u5 := CI_b c (k := 309) (j := 58) bd_309_58
  have u6 := CI_b c (k := 316) (j := 0) bd_316_0
  have u7 := CI_b c (k := 329) (j := 0) bd_329_0
  have u8 := CI_b c (k := 329) (j := 1) bd_329_1
  have t9 : s 309 20 = r0 309 20 := f 309 20 (by decide)
  have t10 : s 316 0 = r0 316 0 := f 316 0 (by decide)
  have t11 : s 329 0 = r0 329 0 := f 329 0 (by decide)
  have t12 : s 329 1 = r0 329 1 := f 329 1 (by decide)
  refine T_if1 (by decide +kernel) ?_
  refine T_useI (sf_X12_bad_309 hfu s c t1 2 1 (by omega) (by omega) (by omega) (by omega)) (fun v18 s13 hq => ?_)
  obtain ⟨c14, f15, o19, ⟨x17, rfl, b20, b21, o22, o23⟩⟩ := hq
  refine T_vI ?_
  have f16 := z_Fr.tr (R := R_X12_block_309) f f15 rs_X12_bad_309__X12_block_309
  have t24 : s13 309 20 = s 309 20 := f15 309 20 (by decide)
  have t25 : s13 309 36 = s 309 36 := f15 309 36 (by decide)
  have t26 : s13 309 43 = s 309 43 := f15 309 43 (by decide)
  have t27 : s13 309 44 = s 309 44 := f15 309 44 (by decide)
  have t28 : s13 309 58 = s 309 58 := f15 309 58 (by decide)
  have t29 : s13 316 0 = s 316 0 := f15 316 0 (by decide)
  have t30 : s13 329 0 = s 329 0 := f15 329 0 (by decide)
  have t31 : s13 329 1 = s 329 1 := f15 329 1 (by decide)
  have r32 := y_TA.fr p2 (fun a b h => f15 a b (nz_X12_bad_309__316_328 a b h)) (fun a b h => f15 a b (nz_X12_bad_309__346_358 a b h)) (fun a b h => f15 a b (nz_X12_bad_309__361_373 a b h))
  have r33 := y_DD.fr p3 (f15 329 0 (by decide)) (f15 329 1 (by decide)) (fun b => f15 359 b (nr_X12_bad_309__359 b)) (fun b => f15 374 b (nr_X12_bad_309__374 b))
  have r34 := y_B.fr p4 (f15 309 20 (by decide)) (f15 316 0 (by decide)) (fun b => f15 3220 b (nr_X12_bad_309__3220 b)) (fun b => f15 3221 b (nr_X12_bad_309__3221 b)) (fun b => f15 3222 b (nr_X12_bad_309__3222 b)) (fun b => f15 361 b (nr_X12_bad_309__361 b))
  have r35 := y_K.fr p5 (by omega) (by omega) (f15 309 44 (by decide)) (f15 309 20 (by decide)) (f15 309 58 (by decide)) (fun b => f15 3438 b (nr_X12_bad_309__3438 b)) (fun b => f15 3220 b (nr_X12_bad_309__3220 b)) (fun a b h => f15 a b (nz_X12_bad_309__3452_3651 a b h))
  have r36 := y_KM.fr p6 (f15 309 20 (by decide)) (f15 309 36 (by decide)) (f15 309 38 (by decide)) (f15 309 39 (by decide)) (fun b => f15 312 b (nr_X12_bad_309__312 b)) (fun b => f15 331 b (nr_X12_bad_309__331 b)) (fun b => f15 346 b (nr_X12_bad_309__346 b)) (fun b => f15 361 b (nr_X12_bad_309__361 b)) (fun b => f15 391 b (nr_X12_bad_309__391 b)) (fun a b h => f15 a b (nz_X12_bad_309__407_606 a b h)) (fun a b h => f15 a b (nz_X12_bad_309__3220_3223 a b h)) (fun a b h => f15 a b (nz_X12_bad_309__3235_3437 a b h))
  refine T_ite (fun h37 => ?_) (fun h37 => ?_)
  · refine T_if1 (by decide +kernel) ?_
    refine T_let 3451 (by decide +kernel) ?_
    refine T_if1 (z_ixl (n := 200) (by decide +kernel) (by omega) (by omega)) ?_
    refine T_let (3452 + a1) (gr_3451 a1) ?_
    refine T_if1 (z_ixs (sh_r3451 (by omega)) (by omega) (by omega) (by omega)) ?_
    refine T_leq (fun x38 e39 => ?_)
    have u40 := CI_w c14 (k := (3452 + a1)) (j := a2) (by rw [sh_r3451 (by omega)]; decide)
    exact T_ret ⟨c14, f16, r32, (by first | exact r33 | exact y_DD.z (by omega) (by omega)), r34, (by first | exact r35 | exact y_K.b0 (by omega) | exact y_K.k0 (by omega) | exact y_K.bk (by omega)), (by first | exact r36 | exact y_KM.z (by omega)), ⟨x38, rfl, by omega, by omega⟩⟩
  · exact sj_X12_block_309K_J61 hfu r0 s13 c14 f16 r32 (by first | exact r33 | exact y_DD.z (by omega) (by omega)) r34 (by first | exact r35 | exact y_K.b0 (by omega) | exact y_K.k0 (by omega) | exact y_K.bk (by omega)) (by first | exact r36 | exact y_KM.z (by omega))
theorem sj_X12_block_309K_J29 {fu : Nat} (hfu : 8589934592 ≤ fu) (r0 s : z_M) (c : z_CI s) (f : z_Fr R_X12_block_309 r0 s) (a1 : Int) (a2 : Int) (t1 : Int) (b1 : -2147483648 ≤ a1 ∧ a1 ≤ 2147483647) (b2 : -2147483648 ≤ a2 ∧ a2 ≤ 2147483647) (d1 : 0 ≤ t1 ∧ t1 ≤ 1) (p0 : t1 = 1 ∨ (0 ≤ a1 ∧ a1 < s 309 58)) (p1 : y_TA s) (p2 : y_DD s) (p3 : y_B s) (p4 : y_K s) (p5 : y_KM s) : z_T (fX12_block_J29 fu s 309 a1 a2 309 t1) (P_X12_block_309K r0) := by
  refine T_of (fX12_block_J29.eq_1 ..) ?_
  have u1 := CI_b c (k := 309) (j := 20) bd_309_20
  have u2 := CI_b c (k := 309) (j := 36) bd_309_36
  have u3 := CI_b c (k := 309) (j := 43) bd_309_43
  have u4 := CI_b c (k := 309) (j := 44) bd_309_44
  have u5 := CI_b c (k := 309) (j := 58) bd_309_58
  have u6 := CI_b c (k := 316) (j := 0) bd_316_0
  have u7 := CI_b c (k := 329) (j := 0) bd_329_0
  have u8 := CI_b c (k := 329) (j := 1) bd_329_1
  have t9 : s 309 20 = r0 309 20 := f 309 20 (by decide)
  have t10 : s 316 0 = r0 316 0 := f 316 0 (by decide)
  have t11 : s 329 0 = r0 329 0 := f 329 0 (by decide)
  have t12 : s 329 1 = r0 329 1 := f 329 1 (by decide)
  refine T_if1 (by decide +kernel) ?_
  refine T_useI (sf_X12_bad_309 hfu s c t1 1 0 (by omega) (by omega) (by omega) (by omega)) (fun v18 s13 hq => ?_)
  obtain ⟨c14, f15, o19, ⟨x17, rfl, b20, b21, o22, o23⟩⟩ := hq
  refine T_vI ?_
  have f16 := z_Fr.tr (R := R_X12_block_309) f f15 rs_X12_bad_309__X12_block_309
  have t24 : s13 309 20 = s 309 20 := f15 309 20 (by decide)
  have t25 : s13 309 36 = s 309 36 := f15 309 36 (by decide)
  have t26 : s13 309 43 = s 309 43 := f15 309 43 (by decide)
  have t27 : s13 309 44 = s 309 44 := f15 309 44 (by decide)
  have t28 : s13 309 58 = s 309 58 := f15 309 58 (by decide)
  have t29 : s13 316 0 = s 316 0 := f15 316 0 (by decide)
  have t30 : s13 329 0 = s 329 0 := f15 329 0 (by decide)
  have t31 : s13 329 1 = s 329 1 := f15 329 1 (by decide)
  have r32 := y_TA.fr p1 (fun a b h => f15 a b (nz_X12_bad_309__316_328 a b h)) (fun a b h => f15 a b (nz_X12_bad_309__346_358 a b h)) (fun a b h => f15 a b (nz_X12_bad_309__361_373 a b h))
  have r33 := y_DD.fr p2 (f15 329 0 (by decide)) (f15 329 1 (by decide)) (fun b => f15 359 b (nr_X12_bad_309__359 b)) (fun b => f15 374 b (nr_X12_bad_309__374 b))
  have r34 := y_B.fr p3 (f15 309 20 (by decide)) (f15 316 0 (by decide)) (fun b => f15 3220 b (nr_X12_bad_309__3220 b)) (fun b => f15 3221 b (nr_X12_bad_309__3221 b)) (fun b => f15 3222 b (nr_X12_bad_309__3222 b)) (fun b => f15 361 b (nr_X12_bad_309__361 b))
  have r35 := y_K.fr p4 (by omega) (by omega) (f15 309 44 (by decide)) (f15 309 20 (by decide)) (f15 309 58 (by decide)) (fun b => f15 3438 b (nr_X12_bad_309__3438 b)) (fun b => f15 3220 b (nr_X12_bad_309__3220 b)) (fun a b h => f15 a b (nz_X12_bad_309__3452_3651 a b h))
  have r36 := y_KM.fr p5 (f15 309 20 (by decide)) (f15 309 36 (by decide)) (f15 309 38 (by decide)) (f15 309 39 (by decide)) (fun b => f15 312 b (nr_X12_bad_309__312 b)) (fun b => f15 331 b (nr_X12_bad_309__331 b)) (fun b => f15 346 b (nr_X12_bad_309__346 b)) (fun b => f15 361 b (nr_X12_bad_309__361 b)) (fun b => f15 391 b (nr_X12_bad_309__391 b)) (fun a b h => f15 a b (nz_X12_bad_309__407_606 a b h)) (fun a b h => f15 a b (nz_X12_bad_309__3220_3223 a b h)) (fun a b h => f15 a b (nz_X12_bad_309__3235_3437 a b h))
  refine T_ite (fun h37 => ?_) (fun h37 => ?_)
  · exact sj_X12_block_309K_J61 hfu r0 s13 c14 f16 r32 (by first | exact r33 | exact y_DD.z (by omega) (by omega)) r34 (by first | exact r35 | exact y_K.b0 (by omega) | exact y_K.k0 (by omega) | exact y_K.bk (by omega)) (by first | exact r36 | exact y_KM.z (by omega))
  · refine T_useI (sf_X12_in hfu s13 c14 a2 0 7 (by omega) (by omega) (by omega)) (fun v43 s38 hq => ?_)
    obtain ⟨c39, f40, ⟨x42, rfl, b44, b45, o46⟩⟩ := hq
    refine T_vI ?_
    have q47 := z_Fr.eq (fun a b h => h) f40
    subst q47
    refine T_ite (fun h48 => ?_) (fun h48 => ?_)
    · exact sj_X12_block_309K_J53 hfu r0 s13 c14 f16 a1 a2 0 (by omega) (by omega) (by omega) (by omega) (by omega) r32 (by first | exact r33 | exact y_DD.z (by omega) (by omega)) r34 (by first | exact r35 | exact y_K.b0 (by omega) | exact y_K.k0 (by omega) | exact y_K.bk (by omega)) (by first | exact r36 | exact y_KM.z (by omega))
    · exact sj_X12_block_309K_J53 hfu r0 s13 c14 f16 a1 a2 1 (by omega) (by omega) (by omega) (by omega) (by omega) r32 (by first | exact r33 | exact y_DD.z (by omega) (by omega)) r34 (by first | exact r35 | exact y_K.b0 (by omega) | exact y_K.k0 (by omega) | exact y_K.bk (by omega)) (by first | exact r36 | exact y_KM.z (by omega))
theorem sf_X12_block_309K {fu : Nat} (hfu : 8589934592 ≤ fu) (r0 : z_M) (c0 : z_CI r0) (a1 : Int) (a2 : Int) (b1 : -2147483648 ≤ a1 ∧ a1 ≤ 2147483647) (b2 : -2147483648 ≤ a2 ∧ a2 ≤ 2147483647) (p0 : y_TA r0) (p1 : y_DD r0) (p2 : y_B r0) (p3 : y_K r0) (p4 : y_KM r0) : z_T (fX12_block fu r0 309 a1 a2) (P_X12_block_309K r0) := by
  refine T_of (fX12_block.eq_1 ..) ?_
  have u1 := CI_b c0 (k := 309) (j := 20) bd_309_20
  have u2 := CI_b c0 (k := 309) (j := 36) bd_309_36
  have u3 := CI_b c0 (k := 309) (j := 43) bd_309_43
  have u4 := CI_b c0 (k := 309) (j := 44) bd_309_44
  have u5 := CI_b c0 (k := 309) (j := 58) bd_309_58
  have u6 := CI_b c0 (k := 316) (j := 0) bd_316_0
  have u7 := CI_b c0 (k := 329) (j := 0) bd_329_0
  have u8 := CI_b c0 (k := 329) (j := 1) bd_329_1
  refine T_if1 (by decide +kernel) ?_
  refine T_upg c0 bd_309_0 (by omega) (fun s9 c10 g12 g13 e14 => ?_)
  have f11 := z_Fr.upf (R := R_X12_block_309) z_Fr.rf g12 g13 (Or.inr (Or.inr (⟨rfl, by decide⟩)))
  have t15 : s9 309 20 = r0 309 20 := g13 20 (by decide)
  have t16 : s9 309 36 = r0 309 36 := g13 36 (by decide)
  have t17 : s9 309 43 = r0 309 43 := g13 43 (by decide)
  have t18 : s9 309 44 = r0 309 44 := g13 44 (by decide)
  have t19 : s9 309 58 = r0 309 58 := g13 58 (by decide)
  have t20 : s9 316 0 = r0 316 0 := g12 316 0 (by decide)
  have t21 : s9 329 0 = r0 329 0 := g12 329 0 (by decide)
  have t22 : s9 329 1 = r0 329 1 := g12 329 1 (by decide)
  have r23 := y_TA.fr p0 (fun a b h => g12 a b (by omega)) (fun a b h => g12 a b (by omega)) (fun a b h => g12 a b (by omega))
  have r24 := y_DD.fr p1 (g12 329 0 (by decide)) (g12 329 1 (by decide)) (fun b => g12 359 b (by decide)) (fun b => g12 374 b (by decide))
  have r25 := y_B.fr p2 (g13 20 (by decide)) (g12 316 0 (by decide)) (fun b => g12 3220 b (by decide)) (fun b => g12 3221 b (by decide)) (fun b => g12 3222 b (by decide)) (fun b => g12 361 b (by decide))
  have r26 := y_K.fr p3 (by omega) (by omega) (g13 44 (by decide)) (g13 20 (by decide)) (g13 58 (by decide)) (fun b => g12 3438 b (by decide)) (fun b => g12 3220 b (by decide)) (fun a b h => g12 a b (by omega))
  have r27 := y_KM.fr p4 (g13 20 (by decide)) (g13 36 (by decide)) (g13 38 (by decide)) (g13 39 (by decide)) (fun b => g12 312 b (by decide)) (fun b => g12 331 b (by decide)) (fun b => g12 346 b (by decide)) (fun b => g12 361 b (by decide)) (fun b => g12 391 b (by decide)) (fun a b h => g12 a b (by omega)) (fun a b h => g12 a b (by omega)) (fun a b h => g12 a b (by omega))
  refine T_if1 (by decide +kernel) ?_
  refine T_useN (sf_X12_laysAll_309K hfu s9 c10 r25 (by first | exact r26 | exact y_K.b0 (by omega) | exact y_K.k0 (by omega) | exact y_K.bk (by omega)) (by first | exact r27 | exact y_KM.z (by omega))) (fun v33 s28 hq => ?_)
  obtain ⟨c29, f30, o34, o35, o36, o37, o38, o39, o40, rfl⟩ := hq
  refine T_vN ?_
  have f31 := z_Fr.tr (R := R_X12_block_309) f11 f30 rs_X12_laysAll_309__X12_block_309
  have t43 : s28 309 20 = r0 309 20 := (f30 309 20 (by decide)).trans t15
  have t44 : s28 316 0 = r0 316 0 := (f30 316 0 (by decide)).trans t20
  have t45 : s28 329 0 = r0 329 0 := (f30 329 0 (by decide)).trans t21
  have t46 : s28 329 1 = r0 329 1 := (f30 329 1 (by decide)).trans t22
  have u47 := CI_b c29 (k := 309) (j := 36) bd_309_36
  have u48 := CI_b c29 (k := 309) (j := 43) bd_309_43
  have u49 := CI_b c29 (k := 309) (j := 44) bd_309_44
  have u50 := CI_b c29 (k := 309) (j := 58) bd_309_58
  have r51 := y_TA.fr r23 (fun a b h => f30 a b (nz_X12_laysAll_309__316_328 a b h)) (fun a b h => f30 a b (nz_X12_laysAll_309__346_358 a b h)) (fun a b h => f30 a b (nz_X12_laysAll_309__361_373 a b h))
  have r52 := y_DD.fr r24 (f30 329 0 (by decide)) (f30 329 1 (by decide)) (fun b => f30 359 b (nr_X12_laysAll_309__359 b)) (fun b => f30 374 b (nr_X12_laysAll_309__374 b))
  have r53 := y_B.fr r25 (f30 309 20 (by decide)) (f30 316 0 (by decide)) (fun b => f30 3220 b (nr_X12_laysAll_309__3220 b)) (fun b => f30 3221 b (nr_X12_laysAll_309__3221 b)) (fun b => f30 3222 b (nr_X12_laysAll_309__3222 b)) (fun b => f30 361 b (nr_X12_laysAll_309__361 b))
  clear t15
  clear t20
  clear t21
  clear t22
  refine T_if1 (by decide +kernel) ?_
  refine T_leq (fun x54 e55 => ?_)
  have u56 := CI_b c29 (k := 309) (j := 58) bd_309_58
  refine T_leq (fun x57 e58 => ?_)
  first | (have w59 := z_wx e58 (by omega)) | (have w59 := z_wr e58)
  refine T_useI (sf_X12_in hfu s28 c29 a1 0 x57 (by omega) (by omega) (by omega)) (fun v65 s60 hq => ?_)
  obtain ⟨c61, f62, ⟨x64, rfl, b66, b67, o68⟩⟩ := hq
  refine T_vI ?_
  have q69 := z_Fr.eq (fun a b h => h) f62
  subst q69
  refine T_ite (fun h70 => ?_) (fun h70 => ?_)
  · exact sj_X12_block_309K_J29 hfu r0 s28 c29 f31 a1 a2 0 (by omega) (by omega) (by omega) (by omega) r51 (by first | exact r52 | exact y_DD.z (by omega) (by omega)) r53 (by first | exact o34 | exact y_K.b0 (by omega) | exact y_K.k0 (by omega) | exact y_K.bk (by omega) | exact y_K.mk o35 (by omega) o36) (by first | exact o40 | exact y_KM.z (by omega))
  · exact sj_X12_block_309K_J29 hfu r0 s28 c29 f31 a1 a2 1 (by omega) (by omega) (by omega) (by omega) r51 (by first | exact r52 | exact y_DD.z (by omega) (by omega)) r53 (by first | exact o34 | exact y_K.b0 (by omega) | exact y_K.k0 (by omega) | exact y_K.bk (by omega) | exact y_K.mk o35 (by omega) o36) (by first | exact o40 | exact y_KM.z (by omega))
abbrev P_X12_reading_309K (r0 : z_M) : z_V → z_M → Prop := fun v s' => z_CI s' ∧ z_Fr R_X12_reading_309 r0 s' ∧ (y_TA s') ∧ (y_DD s') ∧ (y_B s') ∧ (y_K s') ∧ (y_KM s') ∧ (∃ x, v = vI x ∧ -2147483648 ≤ x ∧ x ≤ 2147483647)
theorem sj_X12_reading_309K_J70 {fu : Nat} (hfu : 8589934592 ≤ fu) (r0 s : z_M) (c : z_CI s) (f : z_Fr R_X12_reading_309 r0 s) (p0 : y_TA s) (p1 : y_DD s) (p2 : y_B s) (p3 : y_K s) (p4 : y_KM s) : z_T (fX12_reading_J70 fu s) (P_X12_reading_309K r0) := by
  refine T_of (fX12_reading_J70.eq_1 ..) ?_
  have u1 := CI_b c (k := 309) (j := 20) bd_309_20
  have u2 := CI_b c (k := 309) (j := 36) bd_309_36
  have u3 := CI_b c (k := 309) (j := 43) bd_309_43
  have u4 := CI_b c (k := 309) (j := 44) bd_309_44
  have u5 := CI_b c (k := 309) (j := 58) bd_309_58
  have u6 := CI_b c (k := 316) (j := 0) bd_316_0
  have u7 := CI_b c (k := 329) (j := 0) bd_329_0
  have u8 := CI_b c (k := 329) (j := 1) bd_329_1
  have t9 : s 309 20 = r0 309 20 := f 309 20 (by decide)
  have t10 : s 316 0 = r0 316 0 := f 316 0 (by decide)
  have t11 : s 329 0 = r0 329 0 := f 329 0 (by decide)
  have t12 : s 329 1 = r0 329 1 := f 329 1 (by decide)
  exact T_ret ⟨c, f, p0, (by first | exact p1 | exact y_DD.z (by omega) (by omega)), p2, (by first | exact p3 | exact y_K.b0 (by omega) | exact y_K.k0 (by omega) | exact y_K.bk (by omega)), (by first | exact p4 | exact y_KM.z (by omega)), ⟨0, rfl, by omega, by omega⟩⟩
theorem sj_X12_reading_309K_J123 {fu : Nat} (hfu : 8589934592 ≤ fu) (r0 s : z_M) (c : z_CI s) (f : z_Fr R_X12_reading_309 r0 s) (t0 : Int) (d0 : -2147483648 ≤ t0 ∧ t0 ≤ 2147483647) (p0 : y_TA s) (p1 : y_DD s) (p2 : y_B s) (p3 : y_K s) (p4 : y_KM s) : z_T (fX12_reading_J123 fu s t0) (P_X12_reading_309K r0) := by
  refine T_of (fX12_reading_J123.eq_1 ..) ?_
  have u1 := CI_b c (k := 309) (j := 20) bd_309_20
  have u2 := CI_b c (k := 309) (j := 36) bd_309_36
  have u3 := CI_b c (k := 309) (j := 43) bd_309_43
  have u4 := CI_b c (k := 309) (j := 44) bd_309_44
  have u5 := CI_b c (k := 309) (j := 58) bd_309_58
  have u6 := CI_b c (k := 316) (j := 0) bd_316_0
  have u7 := CI_b c (k := 329) (j := 0) bd_329_0
  have u8 := CI_b c (k := 329) (j := 1) bd_329_1
  have t9 : s 309 20 = r0 309 20 := f 309 20 (by decide)
  have t10 : s 316 0 = r0 316 0 := f 316 0 (by decide)
  have t11 : s 329 0 = r0 329 0 := f 329 0 (by decide)
  have t12 : s 329 1 = r0 329 1 := f 329 1 (by decide)
  exact T_ret ⟨c, f, p0, (by first | exact p1 | exact y_DD.z (by omega) (by omega)), p2, (by first | exact p3 | exact y_K.b0 (by omega) | exact y_K.k0 (by omega) | exact y_K.bk (by omega)), (by first | exact p4 | exact y_KM.z (by omega)), ⟨t0, rfl, by omega, by omega⟩⟩
theorem sj_X12_reading_309K_J100 {fu : Nat} (hfu : 8589934592 ≤ fu) (r0 s : z_M) (c : z_CI s) (f : z_Fr R_X12_reading_309 r0 s) (t0 : Int) (d0 : -2147483648 ≤ t0 ∧ t0 ≤ 2147483647) (p0 : y_TA s) (p1 : y_DD s) (p2 : y_B s) (p3 : y_K s) (p4 : y_KM s) : z_T (fX12_reading_J100 fu s t0) (P_X12_reading_309K r0) := by
  refine T_of (fX12_reading_J100.eq_1 ..) ?_
  have u1 := CI_b c (k := 309) (j := 20) bd_309_20
  have u2 := CI_b c (k := 309) (j := 36) bd_309_36
  have u3 := CI_b c (k := 309) (j := 43) bd_309_43
  have u4 := CI_b c (k := 309) (j := 44) bd_309_44
  have u5 := CI_b c (k := 309) (j := 58) bd_309_58
  have u6 := CI_b c (k := 316) (j := 0) bd_316_0
  have u7 := CI_b c (k := 329) (j := 0) bd_329_0
  have u8 := CI_b c (k := 329) (j := 1) bd_329_1
  have t9 : s 309 20 = r0 309 20 := f 309 20 (by decide)
  have t10 : s 316 0 = r0 316 0 := f 316 0 (by decide)
  have t11 : s 329 0 = r0 329 0 := f 329 0 (by decide)
  have t12 : s 329 1 = r0 329 1 := f 329 1 (by decide)
  exact T_ret ⟨c, f, p0, (by first | exact p1 | exact y_DD.z (by omega) (by omega)), p2, (by first | exact p3 | exact y_K.b0 (by omega) | exact y_K.k0 (by omega) | exact y_K.bk (by omega)), (by first | exact p4 | exact y_KM.z (by omega)), ⟨t0, rfl, by omega, by omega⟩⟩
theorem sj_X12_reading_309K_J62 {fu : Nat} (hfu : 8589934592 ≤ fu) (r0 s : z_M) (c : z_CI s) (f : z_Fr R_X12_reading_309 r0 s) (a1 : Int) (a2 : Int) (a3 : Int) (a4 : Int) (t1 : Int) (b1 : -2147483648 ≤ a1 ∧ a1 ≤ 2147483647) (b2 : -2147483648 ≤ a2 ∧ a2 ≤ 2147483647) (b3 : -2147483648 ≤ a3 ∧ a3 ≤ 2147483647) (b4 : -2147483648 ≤ a4 ∧ a4 ≤ 2147483647) (d1 : 0 ≤ t1 ∧ t1 ≤ 1) (p0 : 0 ≤ a1 ∧ a1 < s 309 58) (p1 : t1 = 1 ∨ (0 ≤ a2 ∧ a2 ≤ 1)) (p2 : y_BK s) (p3 : y_TA s) (p4 : y_DD s) (p5 : y_B s) (p6 : y_K s) (p7 : y_KM s) : z_T (fX12_reading_J62 fu s 309 a1 a2 a3 a4 309 t1) (P_X12_reading_309K r0) := by
  refine T_of (fX12_reading_J62.eq_1 ..) ?_
  have u1 := CI_b c (k := 309) (j := 20) bd_309_20
  have u2 := CI_b c (k := 309) (j := 36) bd_309_36
  have u3 := CI_b c (k := 309) (j := 43) bd_309_43
  have u4 := CI_b c (k := 309) (j := 44) bd_309_44
  have u5 := CI_b c (k := 309) (j := 58) bd_309_58
  have u6 := CI_b c (k := 316) (j := 0) bd_316_0
  have u7 := CI_b c (k := 329) (j := 0) bd_329_0
  have u8 := CI_b c (k := 329) (j := 1) bd_329_1
  have t9 : s 309 20 = r0 309 20 := f 309 20 (by decide)
  have t10 : s 316 0 = r0 316 0 := f 316 0 (by decide)
  have t11 : s 329 0 = r0 329 0 := f 329 0 (by decide)
  have t12 : s 329 1 = r0 329 1 := f 329 1 (by decide)
  refine T_if1 (by decide +kernel) ?_
  refine T_useI (sf_X12_bad_309 hfu s c t1 2 1 (by omega) (by omega) (by omega) (by omega)) (fun v18 s13 hq => ?_)
  obtain ⟨c14, f15, o19, ⟨x17, rfl, b20, b21, o22, o23⟩⟩ := hq
  refine T_vI ?_
  have f16 := z_Fr.tr (R := R_X12_reading_309) f f15 rs_X12_bad_309__X12_reading_309
  have t24 : s13 309 20 = s 309 20 := f15 309 20 (by decide)
  have t25 : s13 309 36 = s 309 36 := f15 309 36 (by decide)
  have t26 : s13 309 43 = s 309 43 := f15 309 43 (by decide)
  have t27 : s13 309 44 = s 309 44 := f15 309 44 (by decide)
  have t28 : s13 309 58 = s 309 58 := f15 309 58 (by decide)
  have t29 : s13 316 0 = s 316 0 := f15 316 0 (by decide)
  have t30 : s13 329 0 = s 329 0 := f15 329 0 (by decide)
  have t31 : s13 329 1 = s 329 1 := f15 329 1 (by decide)
  have r32 := y_BK.fr p2 (by omega) (f15 309 20 (by decide)) (f15 309 58 (by decide)) (fun b => f15 3220 b (nr_X12_bad_309__3220 b)) (fun a b h => f15 a b (nz_X12_bad_309__3452_3651 a b h))
  have r33 := y_TA.fr p3 (fun a b h => f15 a b (nz_X12_bad_309__316_328 a b h)) (fun a b h => f15 a b (nz_X12_bad_309__346_358 a b h)) (fun a b h => f15 a b (nz_X12_bad_309__361_373 a b h))
  have r34 := y_DD.fr p4 (f15 329 0 (by decide)) (f15 329 1 (by decide)) (fun b => f15 359 b (nr_X12_bad_309__359 b)) (fun b => f15 374 b (nr_X12_bad_309__374 b))
  have r35 := y_B.fr p5 (f15 309 20 (by decide)) (f15 316 0 (by decide)) (fun b => f15 3220 b (nr_X12_bad_309__3220 b)) (fun b => f15 3221 b (nr_X12_bad_309__3221 b)) (fun b => f15 3222 b (nr_X12_bad_309__3222 b)) (fun b => f15 361 b (nr_X12_bad_309__361 b))
  have r36 := y_K.fr p6 (by omega) (by omega) (f15 309 44 (by decide)) (f15 309 20 (by decide)) (f15 309 58 (by decide)) (fun b => f15 3438 b (nr_X12_bad_309__3438 b)) (fun b => f15 3220 b (nr_X12_bad_309__3220 b)) (fun a b h => f15 a b (nz_X12_bad_309__3452_3651 a b h))
  have r37 := y_KM.fr p7 (f15 309 20 (by decide)) (f15 309 36 (by decide)) (f15 309 38 (by decide)) (f15 309 39 (by decide)) (fun b => f15 312 b (nr_X12_bad_309__312 b)) (fun b => f15 331 b (nr_X12_bad_309__331 b)) (fun b => f15 346 b (nr_X12_bad_309__346 b)) (fun b => f15 361 b (nr_X12_bad_309__361 b)) (fun b => f15 391 b (nr_X12_bad_309__391 b)) (fun a b h => f15 a b (nz_X12_bad_309__407_606 a b h)) (fun a b h => f15 a b (nz_X12_bad_309__3220_3223 a b h)) (fun a b h => f15 a b (nz_X12_bad_309__3235_3437 a b h))
  refine T_ite (fun h38 => ?_) (fun h38 => ?_)
  · refine T_if1 (by decide +kernel) ?_
    refine T_useI (sf_X12_lettersIn_309 hfu s13 c14 a1 a2 (by omega) (by omega) r35 (by first | exact r32 | exact y_K.B r36 (by omega) (by omega)) (by omega)) (fun v44 s39 hq => ?_)
    obtain ⟨c40, f41, ⟨x43, rfl, b45, b46, o47, o48⟩⟩ := hq
    refine T_vI ?_
    have q49 := z_Fr.eq (fun a b h => h) f41
    subst q49
    refine T_leq (fun x50 e51 => ?_)
    first | (have w52 := z_wx e51 (by omega)) | (have w52 := z_wr e51)
    refine T_useI (sf_X12_in hfu s13 c14 a3 0 x50 (by omega) (by omega) (by omega)) (fun v58 s53 hq => ?_)
    obtain ⟨c54, f55, ⟨x57, rfl, b59, b60, o61⟩⟩ := hq
    refine T_vI ?_
    have q62 := z_Fr.eq (fun a b h => h) f55
    subst q62
    refine T_ite (fun h63 => ?_) (fun h63 => ?_)
    · refine T_ite (fun h64 => ?_) (fun h64 => ?_)
      · refine T_if1 (by decide +kernel) ?_
        refine T_useI (sf_X12_letterPlace_309 hfu s13 c14 a1 a2 a3 (by omega) (by omega) (by omega) r35 (by first | exact r32 | exact y_K.B r36 (by omega) (by omega)) (by omega) (by omega)) (fun v70 s65 hq => ?_)
        obtain ⟨c66, f67, ⟨x69, rfl, b71, b72⟩⟩ := hq
        refine T_vI ?_
        have q73 := z_Fr.eq (fun a b h => h) f67
        subst q73
        exact sj_X12_reading_309K_J123 hfu r0 s13 c14 f16 x69 (by omega) r33 (by first | exact r34 | exact y_DD.z (by omega) (by omega)) r35 (by first | exact r36 | exact y_K.b0 (by omega) | exact y_K.k0 (by omega) | exact y_K.bk (by omega)) (by first | exact r37 | exact y_KM.z (by omega))
      · refine T_if1 (by decide +kernel) ?_
        refine T_useI (sf_X12_letterAt_309 hfu s13 c14 a1 a2 a3 (by omega) (by omega) (by omega) r35 (by first | exact r32 | exact y_K.B r36 (by omega) (by omega)) (by omega) (by omega) (by omega)) (fun v79 s74 hq => ?_)
        obtain ⟨c75, f76, ⟨x78, rfl, b80, b81⟩⟩ := hq
        refine T_vI ?_
        have q82 := z_Fr.eq (fun a b h => h) f76
        subst q82
        exact sj_X12_reading_309K_J123 hfu r0 s13 c14 f16 x78 (by omega) r33 (by first | exact r34 | exact y_DD.z (by omega) (by omega)) r35 (by first | exact r36 | exact y_K.b0 (by omega) | exact y_K.k0 (by omega) | exact y_K.bk (by omega)) (by first | exact r37 | exact y_KM.z (by omega))
    · refine T_ite (fun h83 => ?_) (fun h83 => ?_)
      · exact sj_X12_reading_309K_J100 hfu r0 s13 c14 f16 (-1000) (by omega) r33 (by first | exact r34 | exact y_DD.z (by omega) (by omega)) r35 (by first | exact r36 | exact y_K.b0 (by omega) | exact y_K.k0 (by omega) | exact y_K.bk (by omega)) (by first | exact r37 | exact y_KM.z (by omega))
      · exact sj_X12_reading_309K_J100 hfu r0 s13 c14 f16 (-1) (by omega) r33 (by first | exact r34 | exact y_DD.z (by omega) (by omega)) r35 (by first | exact r36 | exact y_K.b0 (by omega) | exact y_K.k0 (by omega) | exact y_K.bk (by omega)) (by first | exact r37 | exact y_KM.z (by omega))
  · exact sj_X12_reading_309K_J70 hfu r0 s13 c14 f16 r33 (by first | exact r34 | exact y_DD.z (by omega) (by omega)) r35 (by first | exact r36 | exact y_K.b0 (by omega) | exact y_K.k0 (by omega) | exact y_K.bk (by omega)) (by first | exact r37 | exact y_KM.z (by omega))
theorem sj_X12_reading_309K_J57 {fu : Nat} (hfu : 8589934592 ≤ fu) (r0 s : z_M) (c : z_CI s) (f : z_Fr R_X12_reading_309 r0 s) (a1 : Int) (a2 : Int) (a3 : Int) (a4 : Int) (b1 : -2147483648 ≤ a1 ∧ a1 ≤ 2147483647) (b2 : -2147483648 ≤ a2 ∧ a2 ≤ 2147483647) (b3 : -2147483648 ≤ a3 ∧ a3 ≤ 2147483647) (b4 : -2147483648 ≤ a4 ∧ a4 ≤ 2147483647) (p0 : 0 ≤ a1 ∧ a1 < s 309 58) (p1 : y_BK s) (p2 : y_TA s) (p3 : y_DD s) (p4 : y_B s) (p5 : y_K s) (p6 : y_KM s) : z_T (fX12_reading_J57 fu s 309 a1 a2 a3 a4 309) (P_X12_reading_309K r0) := by
  refine T_of (fX12_reading_J57.eq_1 ..) ?_
  have u1 := CI_b c (k := 309) (j := 20) bd_309_20
  have u2 := CI_b c (k := 309) (j := 36) bd_309_36
  have u3 := CI_b c (k := 309) (j := 43) bd_309_43
  have u4 := CI_b c (k := 309) (j := 44) bd_309_44
  have u5 := CI_b c (k := 309) (j := 58) bd_309_58
  have u6 := CI_b c (k := 316) (j := 0) bd_316_0
  have u7 := CI_b c (k := 329) (j := 0) bd_329_0
  have u8 := CI_b c (k := 329) (j := 1) bd_329_1
  have t9 : s 309 20 = r0 309 20 := f 309 20 (by decide)
  have t10 : s 316 0 = r0 316 0 := f 316 0 (by decide)
  have t11 : s 329 0 = r0 329 0 := f 329 0 (by decide)
  have t12 : s 329 1 = r0 329 1 := f 329 1 (by decide)
  exact sj_X12_reading_309K_J62 hfu r0 s c f a1 a2 a3 a4 1 (by omega) (by omega) (by omega) (by omega) (by omega) (by omega) (by omega) (by first | exact p1 | exact y_K.B p5 (by omega) (by omega)) p2 (by first | exact p3 | exact y_DD.z (by omega) (by omega)) p4 (by first | exact p5 | exact y_K.b0 (by omega) | exact y_K.k0 (by omega) | exact y_K.bk (by omega)) (by first | exact p6 | exact y_KM.z (by omega))
theorem sj_X12_reading_309K_J29 {fu : Nat} (hfu : 8589934592 ≤ fu) (r0 s : z_M) (c : z_CI s) (f : z_Fr R_X12_reading_309 r0 s) (a1 : Int) (a2 : Int) (a3 : Int) (a4 : Int) (t1 : Int) (b1 : -2147483648 ≤ a1 ∧ a1 ≤ 2147483647) (b2 : -2147483648 ≤ a2 ∧ a2 ≤ 2147483647) (b3 : -2147483648 ≤ a3 ∧ a3 ≤ 2147483647) (b4 : -2147483648 ≤ a4 ∧ a4 ≤ 2147483647) (d1 : 0 ≤ t1 ∧ t1 ≤ 1) (p0 : t1 = 1 ∨ (0 ≤ a1 ∧ a1 < s 309 58)) (p1 : y_BK s) (p2 : y_TA s) (p3 : y_DD s) (p4 : y_B s) (p5 : y_K s) (p6 : y_KM s) : z_T (fX12_reading_J29 fu s 309 a1 a2 a3 a4 309 t1) (P_X12_reading_309K r0) := by
  refine T_of (fX12_reading_J29.eq_1 ..) ?_
  have u1 := CI_b c (k := 309) (j := 20) bd_309_20
  have u2 := CI_b c (k := 309) (j := 36) bd_309_36
  have u3 := CI_b c (k := 309) (j := 43) bd_309_43
  have u4 := CI_b c (k := 309) (j := 44) bd_309_44
  have u5 := CI_b c (k := 309) (j := 58) bd_309_58
  have u6 := CI_b c (k := 316) (j := 0) bd_316_0
  have u7 := CI_b c (k := 329) (j := 0) bd_329_0
  have u8 := CI_b c (k := 329) (j := 1) bd_329_1
  have t9 : s 309 20 = r0 309 20 := f 309 20 (by decide)
  have t10 : s 316 0 = r0 316 0 := f 316 0 (by decide)
  have t11 : s 329 0 = r0 329 0 := f 329 0 (by decide)
  have t12 : s 329 1 = r0 329 1 := f 329 1 (by decide)
  refine T_if1 (by decide +kernel) ?_
  refine T_useI (sf_X12_bad_309 hfu s c t1 1 0 (by omega) (by omega) (by omega) (by omega)) (fun v18 s13 hq => ?_)
  obtain ⟨c14, f15, o19, ⟨x17, rfl, b20, b21, o22, o23⟩⟩ := hq
  refine T_vI ?_
  have f16 := z_Fr.tr (R := R_X12_reading_309) f f15 rs_X12_bad_309__X12_reading_309
  have t24 : s13 309 20 = s 309 20 := f15 309 20 (by decide)
  have t25 : s13 309 36 = s 309 36 := f15 309 36 (by decide)
  have t26 : s13 309 43 = s 309 43 := f15 309 43 (by decide)
  have t27 : s13 309 44 = s 309 44 := f15 309 44 (by decide)
  have t28 : s13 309 58 = s 309 58 := f15 309 58 (by decide)
  have t29 : s13 316 0 = s 316 0 := f15 316 0 (by decide)
  have t30 : s13 329 0 = s 329 0 := f15 329 0 (by decide)
  have t31 : s13 329 1 = s 329 1 := f15 329 1 (by decide)
  have r32 := y_BK.fr p1 (by omega) (f15 309 20 (by decide)) (f15 309 58 (by decide)) (fun b => f15 3220 b (nr_X12_bad_309__3220 b)) (fun a b h => f15 a b (nz_X12_bad_309__3452_3651 a b h))
  have r33 := y_TA.fr p2 (fun a b h => f15 a b (nz_X12_bad_309__316_328 a b h)) (fun a b h => f15 a b (nz_X12_bad_309__346_358 a b h)) (fun a b h => f15 a b (nz_X12_bad_309__361_373 a b h))
  have r34 := y_DD.fr p3 (f15 329 0 (by decide)) (f15 329 1 (by decide)) (fun b => f15 359 b (nr_X12_bad_309__359 b)) (fun b => f15 374 b (nr_X12_bad_309__374 b))
  have r35 := y_B.fr p4 (f15 309 20 (by decide)) (f15 316 0 (by decide)) (fun b => f15 3220 b (nr_X12_bad_309__3220 b)) (fun b => f15 3221 b (nr_X12_bad_309__3221 b)) (fun b => f15 3222 b (nr_X12_bad_309__3222 b)) (fun b => f15 361 b (nr_X12_bad_309__361 b))
  have r36 := y_K.fr p5 (by omega) (by omega) (f15 309 44 (by decide)) (f15 309 20 (by decide)) (f15 309 58 (by decide)) (fun b => f15 3438 b (nr_X12_bad_309__3438 b)) (fun b => f15 3220 b (nr_X12_bad_309__3220 b)) (fun a b h => f15 a b (nz_X12_bad_309__3452_3651 a b h))
  have r37 := y_KM.fr p6 (f15 309 20 (by decide)) (f15 309 36 (by decide)) (f15 309 38 (by decide)) (f15 309 39 (by decide)) (fun b => f15 312 b (nr_X12_bad_309__312 b)) (fun b => f15 331 b (nr_X12_bad_309__331 b)) (fun b => f15 346 b (nr_X12_bad_309__346 b)) (fun b => f15 361 b (nr_X12_bad_309__361 b)) (fun b => f15 391 b (nr_X12_bad_309__391 b)) (fun a b h => f15 a b (nz_X12_bad_309__407_606 a b h)) (fun a b h => f15 a b (nz_X12_bad_309__3220_3223 a b h)) (fun a b h => f15 a b (nz_X12_bad_309__3235_3437 a b h))
  refine T_ite (fun h38 => ?_) (fun h38 => ?_)
  · exact sj_X12_reading_309K_J70 hfu r0 s13 c14 f16 r33 (by first | exact r34 | exact y_DD.z (by omega) (by omega)) r35 (by first | exact r36 | exact y_K.b0 (by omega) | exact y_K.k0 (by omega) | exact y_K.bk (by omega)) (by first | exact r37 | exact y_KM.z (by omega))
  · refine T_useI (sf_X12_in hfu s13 c14 a2 0 1 (by omega) (by omega) (by omega)) (fun v44 s39 hq => ?_)
    obtain ⟨c40, f41, ⟨x43, rfl, b45, b46, o47⟩⟩ := hq
    refine T_vI ?_
    have q48 := z_Fr.eq (fun a b h => h) f41
    subst q48
    refine T_ite (fun h49 => ?_) (fun h49 => ?_)
    · exact sj_X12_reading_309K_J57 hfu r0 s13 c14 f16 a1 a2 a3 a4 (by omega) (by omega) (by omega) (by omega) (by omega) (by first | exact r32 | exact y_K.B r36 (by omega) (by omega)) r33 (by first | exact r34 | exact y_DD.z (by omega) (by omega)) r35 (by first | exact r36 | exact y_K.b0 (by omega) | exact y_K.k0 (by omega) | exact y_K.bk (by omega)) (by first | exact r37 | exact y_KM.z (by omega))
    · refine T_useI (sf_X12_in hfu s13 c14 a4 0 1 (by omega) (by omega) (by omega)) (fun v55 s50 hq => ?_)
      obtain ⟨c51, f52, ⟨x54, rfl, b56, b57, o58⟩⟩ := hq
      refine T_vI ?_
      have q59 := z_Fr.eq (fun a b h => h) f52
      subst q59
      refine T_ite (fun h60 => ?_) (fun h60 => ?_)
      · exact sj_X12_reading_309K_J62 hfu r0 s13 c14 f16 a1 a2 a3 a4 0 (by omega) (by omega) (by omega) (by omega) (by omega) (by omega) (by omega) (by first | exact r32 | exact y_K.B r36 (by omega) (by omega)) r33 (by first | exact r34 | exact y_DD.z (by omega) (by omega)) r35 (by first | exact r36 | exact y_K.b0 (by omega) | exact y_K.k0 (by omega) | exact y_K.bk (by omega)) (by first | exact r37 | exact y_KM.z (by omega))
      · exact sj_X12_reading_309K_J57 hfu r0 s13 c14 f16 a1 a2 a3 a4 (by omega) (by omega) (by omega) (by omega) (by omega) (by first | exact r32 | exact y_K.B r36 (by omega) (by omega)) r33 (by first | exact r34 | exact y_DD.z (by omega) (by omega)) r35 (by first | exact r36 | exact y_K.b0 (by omega) | exact y_K.k0 (by omega) | exact y_K.bk (by omega)) (by first | exact r37 | exact y_KM.z (by omega))
theorem sf_X12_reading_309K {fu : Nat} (hfu : 8589934592 ≤ fu) (r0 : z_M) (c0 : z_CI r0) (a1 : Int) (a2 : Int) (a3 : Int) (a4 : Int) (b1 : -2147483648 ≤ a1 ∧ a1 ≤ 2147483647) (b2 : -2147483648 ≤ a2 ∧ a2 ≤ 2147483647) (b3 : -2147483648 ≤ a3 ∧ a3 ≤ 2147483647) (b4 : -2147483648 ≤ a4 ∧ a4 ≤ 2147483647) (p0 : y_TA r0) (p1 : y_DD r0) (p2 : y_B r0) (p3 : y_K r0) (p4 : y_KM r0) : z_T (fX12_reading fu r0 309 a1 a2 a3 a4) (P_X12_reading_309K r0) := by
  refine T_of (fX12_reading.eq_1 ..) ?_
  have u1 := CI_b c0 (k := 309) (j := 20) bd_309_20
  have u2 := CI_b c0 (k := 309) (j := 36) bd_309_36
  have u3 := CI_b c0 (k := 309) (j := 43) bd_309_43
  have u4 := CI_b c0 (k := 309) (j := 44) bd_309_44
  have u5 := CI_b c0 (k := 309) (j := 58) bd_309_58
  have u6 := CI_b c0 (k := 316) (j := 0) bd_316_0
  have u7 := CI_b c0 (k := 329) (j := 0) bd_329_0
  have u8 := CI_b c0 (k := 329) (j := 1) bd_329_1
  refine T_if1 (by decide +kernel) ?_
  refine T_upg c0 bd_309_0 (by omega) (fun s9 c10 g12 g13 e14 => ?_)
  have f11 := z_Fr.upf (R := R_X12_reading_309) z_Fr.rf g12 g13 (Or.inr (Or.inr (⟨rfl, by decide⟩)))
  have t15 : s9 309 20 = r0 309 20 := g13 20 (by decide)
  have t16 : s9 309 36 = r0 309 36 := g13 36 (by decide)
  have t17 : s9 309 43 = r0 309 43 := g13 43 (by decide)
  have t18 : s9 309 44 = r0 309 44 := g13 44 (by decide)
  have t19 : s9 309 58 = r0 309 58 := g13 58 (by decide)
  have t20 : s9 316 0 = r0 316 0 := g12 316 0 (by decide)
  have t21 : s9 329 0 = r0 329 0 := g12 329 0 (by decide)
  have t22 : s9 329 1 = r0 329 1 := g12 329 1 (by decide)
  have r23 := y_TA.fr p0 (fun a b h => g12 a b (by omega)) (fun a b h => g12 a b (by omega)) (fun a b h => g12 a b (by omega))
  have r24 := y_DD.fr p1 (g12 329 0 (by decide)) (g12 329 1 (by decide)) (fun b => g12 359 b (by decide)) (fun b => g12 374 b (by decide))
  have r25 := y_B.fr p2 (g13 20 (by decide)) (g12 316 0 (by decide)) (fun b => g12 3220 b (by decide)) (fun b => g12 3221 b (by decide)) (fun b => g12 3222 b (by decide)) (fun b => g12 361 b (by decide))
  have r26 := y_K.fr p3 (by omega) (by omega) (g13 44 (by decide)) (g13 20 (by decide)) (g13 58 (by decide)) (fun b => g12 3438 b (by decide)) (fun b => g12 3220 b (by decide)) (fun a b h => g12 a b (by omega))
  have r27 := y_KM.fr p4 (g13 20 (by decide)) (g13 36 (by decide)) (g13 38 (by decide)) (g13 39 (by decide)) (fun b => g12 312 b (by decide)) (fun b => g12 331 b (by decide)) (fun b => g12 346 b (by decide)) (fun b => g12 361 b (by decide)) (fun b => g12 391 b (by decide)) (fun a b h => g12 a b (by omega)) (fun a b h => g12 a b (by omega)) (fun a b h => g12 a b (by omega))
  refine T_if1 (by decide +kernel) ?_
  refine T_useN (sf_X12_laysAll_309K hfu s9 c10 r25 (by first | exact r26 | exact y_K.b0 (by omega) | exact y_K.k0 (by omega) | exact y_K.bk (by omega)) (by first | exact r27 | exact y_KM.z (by omega))) (fun v33 s28 hq => ?_)
  obtain ⟨c29, f30, o34, o35, o36, o37, o38, o39, o40, rfl⟩ := hq
  refine T_vN ?_
  have f31 := z_Fr.tr (R := R_X12_reading_309) f11 f30 rs_X12_laysAll_309__X12_reading_309
  have t43 : s28 309 20 = r0 309 20 := (f30 309 20 (by decide)).trans t15
  have t44 : s28 316 0 = r0 316 0 := (f30 316 0 (by decide)).trans t20
  have t45 : s28 329 0 = r0 329 0 := (f30 329 0 (by decide)).trans t21
  have t46 : s28 329 1 = r0 329 1 := (f30 329 1 (by decide)).trans t22
  have u47 := CI_b c29 (k := 309) (j := 36) bd_309_36
  have u48 := CI_b c29 (k := 309) (j := 43) bd_309_43
  have u49 := CI_b c29 (k := 309) (j := 44) bd_309_44
  have u50 := CI_b c29 (k := 309) (j := 58) bd_309_58
  have r51 := y_TA.fr r23 (fun a b h => f30 a b (nz_X12_laysAll_309__316_328 a b h)) (fun a b h => f30 a b (nz_X12_laysAll_309__346_358 a b h)) (fun a b h => f30 a b (nz_X12_laysAll_309__361_373 a b h))
  have r52 := y_DD.fr r24 (f30 329 0 (by decide)) (f30 329 1 (by decide)) (fun b => f30 359 b (nr_X12_laysAll_309__359 b)) (fun b => f30 374 b (nr_X12_laysAll_309__374 b))
  have r53 := y_B.fr r25 (f30 309 20 (by decide)) (f30 316 0 (by decide)) (fun b => f30 3220 b (nr_X12_laysAll_309__3220 b)) (fun b => f30 3221 b (nr_X12_laysAll_309__3221 b)) (fun b => f30 3222 b (nr_X12_laysAll_309__3222 b)) (fun b => f30 361 b (nr_X12_laysAll_309__361 b))
  clear t15
  clear t20
  clear t21
  clear t22
  refine T_if1 (by decide +kernel) ?_
  refine T_leq (fun x54 e55 => ?_)
  have u56 := CI_b c29 (k := 309) (j := 58) bd_309_58
  refine T_leq (fun x57 e58 => ?_)
  first | (have w59 := z_wx e58 (by omega)) | (have w59 := z_wr e58)
  refine T_useI (sf_X12_in hfu s28 c29 a1 0 x57 (by omega) (by omega) (by omega)) (fun v65 s60 hq => ?_)
  obtain ⟨c61, f62, ⟨x64, rfl, b66, b67, o68⟩⟩ := hq
  refine T_vI ?_
  have q69 := z_Fr.eq (fun a b h => h) f62
  subst q69
  refine T_ite (fun h70 => ?_) (fun h70 => ?_)
  · exact sj_X12_reading_309K_J29 hfu r0 s28 c29 f31 a1 a2 a3 a4 0 (by omega) (by omega) (by omega) (by omega) (by omega) (by omega) (by first | exact o36 | exact y_K.B o34 (by omega) (by omega)) r51 (by first | exact r52 | exact y_DD.z (by omega) (by omega)) r53 (by first | exact o34 | exact y_K.b0 (by omega) | exact y_K.k0 (by omega) | exact y_K.bk (by omega) | exact y_K.mk o35 (by omega) o36) (by first | exact o40 | exact y_KM.z (by omega))
  · exact sj_X12_reading_309K_J29 hfu r0 s28 c29 f31 a1 a2 a3 a4 1 (by omega) (by omega) (by omega) (by omega) (by omega) (by omega) (by first | exact o36 | exact y_K.B o34 (by omega) (by omega)) r51 (by first | exact r52 | exact y_DD.z (by omega) (by omega)) r53 (by first | exact o34 | exact y_K.b0 (by omega) | exact y_K.k0 (by omega) | exact y_K.bk (by omega) | exact y_K.mk o35 (by omega) o36) (by first | exact o40 | exact y_KM.z (by omega))
abbrev P_X12_at_309K (r0 : z_M) : z_V → z_M → Prop := fun v s' => z_CI s' ∧ z_Fr R_X12_at_309 r0 s' ∧ (y_TA s') ∧ (y_DD s') ∧ (y_B s') ∧ (y_K s') ∧ (y_KM s') ∧ (∃ x, v = vI x ∧ -2147483648 ≤ x ∧ x ≤ 2147483647)
theorem sl_X12_at_309K_L89 {fu : Nat} (hfu : 8589934592 ≤ fu) (r0 : z_M) (a1 : Int) (a2 : Int) (a3 : Int) (b1 : 0 ≤ a1 ∧ a1 ≤ 199) (b2 : -2147483648 ≤ a2 ∧ a2 ≤ 2147483647) (b3 : 0 ≤ a3 ∧ a3 ≤ 199) {k : z_M → z_O} (hk : ∀ (s' : z_M), z_CI s' → z_Fr R_X12_at_309 r0 s' → (y_L s' (s' 309 44)) → (a1 < s' 309 44) → (a3 < s' 309 20) → (y_TA s') → (y_DD s') → (y_B s') → (y_K s') → (y_KM s') → z_T (k s') (P_X12_at_309K r0)) : ∀ (F : Nat) (s : z_M) (a4 : Int), z_CI s → z_Fr R_X12_at_309 r0 s → (0 ≤ a4 ∧ a4 ≤ 200) → (y_L s (s 309 44)) → (a1 < s 309 44) → (a3 < s 309 20) → (y_TA s) → (y_DD s) → (y_B s) → (y_K s) → (y_KM s) → (2147483647 - a4 < (F : Int)) → z_T (fX12_at_L89 fu 309 a1 a2 a3 F s a4 k) (P_X12_at_309K r0) := by
  intro F
  induction F with
  | zero =>
    intro s a4 c f b4 i0 i1 i2 i3 i4 i5 i6 i7 hm
    have u59 := CI_b c (k := 309) (j := 20) bd_309_20
    have u60 := CI_b c (k := 309) (j := 36) bd_309_36
    have u61 := CI_b c (k := 309) (j := 43) bd_309_43
    have u62 := CI_b c (k := 309) (j := 44) bd_309_44
    have u63 := CI_b c (k := 309) (j := 58) bd_309_58
    have u64 := CI_b c (k := 316) (j := 0) bd_316_0
    have u65 := CI_b c (k := 329) (j := 0) bd_329_0
    have u66 := CI_b c (k := 329) (j := 1) bd_329_1
    exfalso; omega
  | succ F ih =>
    intro s a4 c f b4 i0 i1 i2 i3 i4 i5 i6 i7 hm
    refine T_of (fX12_at_L89.eq_2 ..) ?_
    have u1 := CI_b c (k := 309) (j := 20) bd_309_20
    have u2 := CI_b c (k := 309) (j := 36) bd_309_36
    have u3 := CI_b c (k := 309) (j := 43) bd_309_43
    have u4 := CI_b c (k := 309) (j := 44) bd_309_44
    have u5 := CI_b c (k := 309) (j := 58) bd_309_58
    have u6 := CI_b c (k := 316) (j := 0) bd_316_0
    have u7 := CI_b c (k := 329) (j := 0) bd_329_0
    have u8 := CI_b c (k := 329) (j := 1) bd_329_1
    have t9 : s 309 20 = r0 309 20 := f 309 20 (by decide)
    have t10 : s 316 0 = r0 316 0 := f 316 0 (by decide)
    have t11 : s 329 0 = r0 329 0 := f 329 0 (by decide)
    have t12 : s 329 1 = r0 329 1 := f 329 1 (by decide)
    have n13 := y_B.at i5 (u := a3) (by omega) (by omega)
    refine T_if1 (by decide +kernel) ?_
    refine T_let 3221 (by decide +kernel) ?_
    refine T_if1 (z_ixl (n := 200) (by decide +kernel) (by omega) (by omega)) ?_
    refine T_leq (fun x14 e15 => ?_)
    have u16 := CI_b c (k := 3221) (j := a3) (bdr_3221 a3)
    refine T_if1 (by decide +kernel) ?_
    refine T_let 3222 (by decide +kernel) ?_
    refine T_if1 (z_ixl (n := 200) (by decide +kernel) (by omega) (by omega)) ?_
    refine T_leq (fun x17 e18 => ?_)
    have u19 := CI_b c (k := 3222) (j := a3) (bdr_3222 a3)
    refine T_leq (fun x20 e21 => ?_)
    first | (have w22 := z_wx e21 (by omega)) | (have w22 := z_wr e21)
    refine T_ite (fun h23 => ?_) (fun h23 => ?_)
    · exact hk s c f (by first | exact y_L.cg i0 (by omega) | exact y_K.L i6 (by omega) (by omega)) (by omega) (by omega) i3 (by first | exact i4 | exact y_DD.z (by omega) (by omega)) i5 (by first | exact i6 | exact y_K.b0 (by omega) | exact y_K.k0 (by omega) | exact y_K.bk (by omega)) (by first | exact i7 | exact y_KM.z (by omega))
    · refine T_if1 (by decide +kernel) ?_
      refine T_let 3443 (by decide +kernel) ?_
      refine T_if1 (z_ixl (n := 200) (by decide +kernel) (by omega) (by omega)) ?_
      refine T_leq (fun x24 e25 => ?_)
      have u26 := CI_b c (k := 3443) (j := a4) (bdr_3443 a4)
      refine T_if1 (by decide +kernel) ?_
      refine T_let 3443 (by decide +kernel) ?_
      refine T_if1 (z_ixl (n := 200) (by decide +kernel) (by omega) (by omega)) ?_
      refine T_leq (fun x27 e28 => ?_)
      have q29 : x24 = x27 := e25.symm.trans e28
      subst q29
      refine T_if1 (by decide +kernel) ?_
      refine T_useI (sf_X12_signLong_309 hfu s c a4 (by omega)) (fun v35 s30 hq => ?_)
      obtain ⟨c31, f32, ⟨x34, rfl, b36, b37⟩⟩ := hq
      refine T_vI ?_
      have q38 := z_Fr.eq (fun a b h => h) f32
      subst q38
      refine T_leq (fun x39 e40 => ?_)
      first | (have w41 := z_wx e40 (by omega)) | (have w41 := z_wr e40)
      refine T_leq (fun x42 e43 => ?_)
      first | (have w44 := z_wx e43 (by omega)) | (have w44 := z_wr e43)
      refine T_useI (sf_X12_in hfu s c a2 x24 x42 (by omega) (by omega) (by omega)) (fun v50 s45 hq => ?_)
      obtain ⟨c46, f47, ⟨x49, rfl, b51, b52, o53⟩⟩ := hq
      refine T_vI ?_
      have q54 := z_Fr.eq (fun a b h => h) f47
      subst q54
      refine T_ite (fun h55 => ?_) (fun h55 => ?_)
      · refine T_leq (fun x56 e57 => ?_)
        first | (have w58 := z_wx e57 (by omega)) | (have w58 := z_wr e57)
        exact ih s x56 c f (by omega) (by first | exact y_L.cg i0 (by omega) | exact y_K.L i6 (by omega) (by omega)) (by omega) (by omega) i3 (by first | exact i4 | exact y_DD.z (by omega) (by omega)) i5 (by first | exact i6 | exact y_K.b0 (by omega) | exact y_K.k0 (by omega) | exact y_K.bk (by omega)) (by first | exact i7 | exact y_KM.z (by omega)) (by omega)
      · exact T_ret ⟨c, f, i3, (by first | exact i4 | exact y_DD.z (by omega) (by omega)), i5, (by first | exact i6 | exact y_K.b0 (by omega) | exact y_K.k0 (by omega) | exact y_K.bk (by omega)), (by first | exact i7 | exact y_KM.z (by omega)), ⟨a4, rfl, by omega, by omega⟩⟩
theorem sj_X12_at_309K_J146 {fu : Nat} (hfu : 8589934592 ≤ fu) (r0 s : z_M) (c : z_CI s) (f : z_Fr R_X12_at_309 r0 s) (a1 : Int) (a2 : Int) (a3 : Int) (b1 : 0 ≤ a1 ∧ a1 ≤ 199) (b2 : -2147483648 ≤ a2 ∧ a2 ≤ 2147483647) (b3 : 0 ≤ a3 ∧ a3 ≤ 199) (p0 : y_L s (s 309 44)) (p1 : a1 < s 309 44) (p2 : a3 < s 309 20) (p3 : y_TA s) (p4 : y_DD s) (p5 : y_B s) (p6 : y_K s) (p7 : y_KM s) (M : Int) (pm : 2147483647 - a3 ≤ M) {r : z_M → Int → z_O} {k : z_M → z_O} (hr : ∀ (s' : z_M) (v3 : Int), z_CI s' → z_Fr R_X12_at_309 r0 s' → (0 ≤ v3 ∧ v3 ≤ 200) → (y_L s' (s' 309 44)) → (a1 < s' 309 44) → (y_TA s') → (y_DD s') → (y_B s') → (y_K s') → (y_KM s') → (2147483647 - v3 < M) → z_T (r s' v3) (P_X12_at_309K r0)) (hk : ∀ (s' : z_M), z_CI s' → z_Fr R_X12_at_309 r0 s' → (y_TA s') → (y_DD s') → (y_B s') → (y_K s') → (y_KM s') → z_T (k s') (P_X12_at_309K r0)) : z_T (fX12_at_J146 fu s 309 a1 a2 a3 r k) (P_X12_at_309K r0) := by
  refine T_of (fX12_at_J146.eq_1 ..) ?_
  have u1 := CI_b c (k := 309) (j := 20) bd_309_20
  have u2 := CI_b c (k := 309) (j := 36) bd_309_36
  have u3 := CI_b c (k := 309) (j := 43) bd_309_43
  have u4 := CI_b c (k := 309) (j := 44) bd_309_44
  have u5 := CI_b c (k := 309) (j := 58) bd_309_58
  have u6 := CI_b c (k := 316) (j := 0) bd_316_0
  have u7 := CI_b c (k := 329) (j := 0) bd_329_0
  have u8 := CI_b c (k := 329) (j := 1) bd_329_1
  have t9 : s 309 20 = r0 309 20 := f 309 20 (by decide)
  have t10 : s 316 0 = r0 316 0 := f 316 0 (by decide)
  have t11 : s 329 0 = r0 329 0 := f 329 0 (by decide)
  have t12 : s 329 1 = r0 329 1 := f 329 1 (by decide)
  refine T_leq (fun x13 e14 => ?_)
  first | (have w15 := z_wx e14 (by omega)) | (have w15 := z_wr e14)
  exact hr s x13 c f (by omega) (by first | exact y_L.cg p0 (by omega) | exact y_K.L p6 (by omega) (by omega)) (by omega) p3 (by first | exact p4 | exact y_DD.z (by omega) (by omega)) p5 (by first | exact p6 | exact y_K.b0 (by omega) | exact y_K.k0 (by omega) | exact y_K.bk (by omega)) (by first | exact p7 | exact y_KM.z (by omega)) (by omega)
theorem sj_X12_at_309K_J81 {fu : Nat} (hfu : 8589934592 ≤ fu) (r0 s : z_M) (c : z_CI s) (f : z_Fr R_X12_at_309 r0 s) (a1 : Int) (a2 : Int) (a3 : Int) (b1 : 0 ≤ a1 ∧ a1 ≤ 199) (b2 : -2147483648 ≤ a2 ∧ a2 ≤ 2147483647) (b3 : 0 ≤ a3 ∧ a3 ≤ 199) (p0 : y_L s (s 309 44)) (p1 : a1 < s 309 44) (p2 : a3 < s 309 20) (p3 : y_TA s) (p4 : y_DD s) (p5 : y_B s) (p6 : y_K s) (p7 : y_KM s) (M : Int) (pm : 2147483647 - a3 ≤ M) {r : z_M → Int → z_O} {k : z_M → z_O} (hr : ∀ (s' : z_M) (v3 : Int), z_CI s' → z_Fr R_X12_at_309 r0 s' → (0 ≤ v3 ∧ v3 ≤ 200) → (y_L s' (s' 309 44)) → (a1 < s' 309 44) → (y_TA s') → (y_DD s') → (y_B s') → (y_K s') → (y_KM s') → (2147483647 - v3 < M) → z_T (r s' v3) (P_X12_at_309K r0)) (hk : ∀ (s' : z_M), z_CI s' → z_Fr R_X12_at_309 r0 s' → (y_TA s') → (y_DD s') → (y_B s') → (y_K s') → (y_KM s') → z_T (k s') (P_X12_at_309K r0)) : z_T (fX12_at_J81 fu s 309 a1 a2 a3 r k) (P_X12_at_309K r0) := by
  refine T_of (fX12_at_J81.eq_1 ..) ?_
  have u1 := CI_b c (k := 309) (j := 20) bd_309_20
  have u2 := CI_b c (k := 309) (j := 36) bd_309_36
  have u3 := CI_b c (k := 309) (j := 43) bd_309_43
  have u4 := CI_b c (k := 309) (j := 44) bd_309_44
  have u5 := CI_b c (k := 309) (j := 58) bd_309_58
  have u6 := CI_b c (k := 316) (j := 0) bd_316_0
  have u7 := CI_b c (k := 329) (j := 0) bd_329_0
  have u8 := CI_b c (k := 329) (j := 1) bd_329_1
  have t9 : s 309 20 = r0 309 20 := f 309 20 (by decide)
  have t10 : s 316 0 = r0 316 0 := f 316 0 (by decide)
  have t11 : s 329 0 = r0 329 0 := f 329 0 (by decide)
  have t12 : s 329 1 = r0 329 1 := f 329 1 (by decide)
  refine T_if1 (by decide +kernel) ?_
  refine T_let 3221 (by decide +kernel) ?_
  refine T_if1 (z_ixl (n := 200) (by decide +kernel) (by omega) (by omega)) ?_
  refine T_leq (fun x13 e14 => ?_)
  have u15 := CI_b c (k := 3221) (j := a3) (bdr_3221 a3)
  refine sl_X12_at_309K_L89 hfu r0 a1 a2 a3 (by omega) (by omega) (by omega) (fun s16 c17 f18 g19 g20 g21 g22 g23 g24 g25 g26 => ?_) fu s x13 c f (by omega) (by first | exact y_L.cg p0 (by omega) | exact y_K.L p6 (by omega) (by omega)) (by omega) (by omega) p3 (by first | exact p4 | exact y_DD.z (by omega) (by omega)) p5 (by first | exact p6 | exact y_K.b0 (by omega) | exact y_K.k0 (by omega) | exact y_K.bk (by omega)) (by first | exact p7 | exact y_KM.z (by omega)) (by omega)
  have u27 := CI_b c17 (k := 309) (j := 20) bd_309_20
  have u28 := CI_b c17 (k := 309) (j := 36) bd_309_36
  have u29 := CI_b c17 (k := 309) (j := 43) bd_309_43
  have u30 := CI_b c17 (k := 309) (j := 44) bd_309_44
  have u31 := CI_b c17 (k := 309) (j := 58) bd_309_58
  have u32 := CI_b c17 (k := 316) (j := 0) bd_316_0
  have u33 := CI_b c17 (k := 329) (j := 0) bd_329_0
  have u34 := CI_b c17 (k := 329) (j := 1) bd_329_1
  have t35 : s16 309 20 = r0 309 20 := f18 309 20 (by decide)
  have t36 : s16 316 0 = r0 316 0 := f18 316 0 (by decide)
  have t37 : s16 329 0 = r0 329 0 := f18 329 0 (by decide)
  have t38 : s16 329 1 = r0 329 1 := f18 329 1 (by decide)
  exact sj_X12_at_309K_J146 hfu r0 s16 c17 f18 a1 a2 a3 (by omega) (by omega) (by omega) (by first | exact y_L.cg g19 (by omega) | exact y_K.L g25 (by omega) (by omega)) (by omega) (by omega) g22 (by first | exact g23 | exact y_DD.z (by omega) (by omega)) g24 (by first | exact g25 | exact y_K.b0 (by omega) | exact y_K.k0 (by omega) | exact y_K.bk (by omega)) (by first | exact g26 | exact y_KM.z (by omega)) M (by omega) (fun s' v3 c' f' w3 z0 z1 z2 z3 z4 z5 z6 pg => hr s' v3 c' f' w3 z0 z1 z2 z3 z4 z5 z6 (by omega)) hk
theorem sl_X12_at_309K_L46 {fu : Nat} (hfu : 8589934592 ≤ fu) (r0 : z_M) (a1 : Int) (a2 : Int) (b1 : 0 ≤ a1 ∧ a1 ≤ 199) (b2 : -2147483648 ≤ a2 ∧ a2 ≤ 2147483647) {k : z_M → z_O} (hk : ∀ (s' : z_M), z_CI s' → z_Fr R_X12_at_309 r0 s' → (y_TA s') → (y_DD s') → (y_B s') → (y_K s') → (y_KM s') → z_T (k s') (P_X12_at_309K r0)) : ∀ (F : Nat) (s : z_M) (a3 : Int), z_CI s → z_Fr R_X12_at_309 r0 s → (0 ≤ a3 ∧ a3 ≤ 200) → (y_L s (s 309 44)) → (a1 < s 309 44) → (y_TA s) → (y_DD s) → (y_B s) → (y_K s) → (y_KM s) → (2147483647 - a3 < (F : Int)) → z_T (fX12_at_L46 fu 309 a1 a2 F s a3 k) (P_X12_at_309K r0) := by
  intro F
  induction F with
  | zero =>
    intro s a3 c f b3 i0 i1 i2 i3 i4 i5 i6 hm
    have u29 := CI_b c (k := 309) (j := 20) bd_309_20
    have u30 := CI_b c (k := 309) (j := 36) bd_309_36
    have u31 := CI_b c (k := 309) (j := 43) bd_309_43
    have u32 := CI_b c (k := 309) (j := 44) bd_309_44
    have u33 := CI_b c (k := 309) (j := 58) bd_309_58
    have u34 := CI_b c (k := 316) (j := 0) bd_316_0
    have u35 := CI_b c (k := 329) (j := 0) bd_329_0
    have u36 := CI_b c (k := 329) (j := 1) bd_329_1
    exfalso; omega
  | succ F ih =>
    intro s a3 c f b3 i0 i1 i2 i3 i4 i5 i6 hm
    refine T_of (fX12_at_L46.eq_2 ..) ?_
    have u1 := CI_b c (k := 309) (j := 20) bd_309_20
    have u2 := CI_b c (k := 309) (j := 36) bd_309_36
    have u3 := CI_b c (k := 309) (j := 43) bd_309_43
    have u4 := CI_b c (k := 309) (j := 44) bd_309_44
    have u5 := CI_b c (k := 309) (j := 58) bd_309_58
    have u6 := CI_b c (k := 316) (j := 0) bd_316_0
    have u7 := CI_b c (k := 329) (j := 0) bd_329_0
    have u8 := CI_b c (k := 329) (j := 1) bd_329_1
    have t9 : s 309 20 = r0 309 20 := f 309 20 (by decide)
    have t10 : s 316 0 = r0 316 0 := f 316 0 (by decide)
    have t11 : s 329 0 = r0 329 0 := f 329 0 (by decide)
    have t12 : s 329 1 = r0 329 1 := f 329 1 (by decide)
    refine T_if1 (by decide +kernel) ?_
    refine T_let 3438 (by decide +kernel) ?_
    refine T_leq (fun x13 e14 => ?_)
    first | (have w15 := z_wx e14 (by omega)) | (have w15 := z_wr e14)
    have n16 := y_L.at i0 (i := a1) (j := x13) (by omega) (by omega) (by omega)
    refine T_if1 (z_ixl (n := 201) (by decide +kernel) (by omega) (by omega)) ?_
    refine T_leq (fun x17 e18 => ?_)
    have u19 := CI_b c (k := 3438) (j := x13) (bdr_3438 x13)
    refine T_ite (fun h20 => ?_) (fun h20 => ?_)
    · exact hk s c f i2 (by first | exact i3 | exact y_DD.z (by omega) (by omega)) i4 (by first | exact i5 | exact y_K.b0 (by omega) | exact y_K.k0 (by omega) | exact y_K.bk (by omega)) (by first | exact i6 | exact y_KM.z (by omega))
    · refine T_if1 (by decide +kernel) ?_
      refine T_let 3220 (by decide +kernel) ?_
      refine T_if1 (z_ixl (n := 200) (by decide +kernel) (by omega) (by omega)) ?_
      refine T_leq (fun x21 e22 => ?_)
      have u23 := CI_b c (k := 3220) (j := a3) (bdr_3220 a3)
      refine T_ite (fun h24 => ?_) (fun h24 => ?_)
      · exact sj_X12_at_309K_J81 hfu r0 s c f a1 a2 a3 (by omega) (by omega) (by omega) (by first | exact y_L.cg i0 (by omega) | exact y_K.L i5 (by omega) (by omega)) (by omega) (by omega) i2 (by first | exact i3 | exact y_DD.z (by omega) (by omega)) i4 (by first | exact i5 | exact y_K.b0 (by omega) | exact y_K.k0 (by omega) | exact y_K.bk (by omega)) (by first | exact i6 | exact y_KM.z (by omega)) (2147483647 - a3) (by omega) (fun s' v3 c' f' w3 z0 z1 z2 z3 z4 z5 z6 pg => ih s' v3 c' f' w3 z0 z1 z2 z3 z4 z5 z6 (by omega)) hk
      · refine T_if1 (by decide +kernel) ?_
        refine T_let 3445 (by decide +kernel) ?_
        refine T_if1 (z_ixl (n := 200) (by decide +kernel) (by omega) (by omega)) ?_
        refine T_leq (fun x25 e26 => ?_)
        have u27 := CI_b c (k := 3445) (j := a3) (bdr_3445 a3)
        refine T_ite (fun h28 => ?_) (fun h28 => ?_)
        · exact sj_X12_at_309K_J81 hfu r0 s c f a1 a2 a3 (by omega) (by omega) (by omega) (by first | exact y_L.cg i0 (by omega) | exact y_K.L i5 (by omega) (by omega)) (by omega) (by omega) i2 (by first | exact i3 | exact y_DD.z (by omega) (by omega)) i4 (by first | exact i5 | exact y_K.b0 (by omega) | exact y_K.k0 (by omega) | exact y_K.bk (by omega)) (by first | exact i6 | exact y_KM.z (by omega)) (2147483647 - a3) (by omega) (fun s' v3 c' f' w3 z0 z1 z2 z3 z4 z5 z6 pg => ih s' v3 c' f' w3 z0 z1 z2 z3 z4 z5 z6 (by omega)) hk
        · exact sj_X12_at_309K_J146 hfu r0 s c f a1 a2 a3 (by omega) (by omega) (by omega) (by first | exact y_L.cg i0 (by omega) | exact y_K.L i5 (by omega) (by omega)) (by omega) (by omega) i2 (by first | exact i3 | exact y_DD.z (by omega) (by omega)) i4 (by first | exact i5 | exact y_K.b0 (by omega) | exact y_K.k0 (by omega) | exact y_K.bk (by omega)) (by first | exact i6 | exact y_KM.z (by omega)) (2147483647 - a3) (by omega) (fun s' v3 c' f' w3 z0 z1 z2 z3 z4 z5 z6 pg => ih s' v3 c' f' w3 z0 z1 z2 z3 z4 z5 z6 (by omega)) hk
theorem sj_X12_at_309K_J29 {fu : Nat} (hfu : 8589934592 ≤ fu) (r0 s : z_M) (c : z_CI s) (f : z_Fr R_X12_at_309 r0 s) (a1 : Int) (a2 : Int) (t1 : Int) (b1 : -2147483648 ≤ a1 ∧ a1 ≤ 2147483647) (b2 : -2147483648 ≤ a2 ∧ a2 ≤ 2147483647) (d1 : 0 ≤ t1 ∧ t1 ≤ 1) (p0 : t1 = 1 ∨ (0 ≤ a1 ∧ a1 < s 309 44)) (p1 : y_L s (s 309 44)) (p2 : y_TA s) (p3 : y_DD s) (p4 : y_B s) (p5 : y_K s) (p6 : y_KM s) : z_T (fX12_at_J29 fu s 309 a1 a2 309 t1) (P_X12_at_309K r0) := by
  refine T_of (fX12_at_J29.eq_1 ..) ?_
  have u1 := CI_b c (k := 309) (j := 20) bd_309_20
  have u2 := CI_b c (k := 309) (j := 36) bd_309_36
  have u3 := CI_b c (k := 309) (j := 43) bd_309_43
  have u4 := CI_b c (k := 309) (j := 44) bd_309_44
  have u5 := CI_b c (k := 309) (j := 58) bd_309_58
  have u6 := CI_b c (k := 316) (j := 0) bd_316_0
  have u7 := CI_b c (k := 329) (j := 0) bd_329_0
  have u8 := CI_b c (k := 329) (j := 1) bd_329_1
  have t9 : s 309 20 = r0 309 20 := f 309 20 (by decide)
  have t10 : s 316 0 = r0 316 0 := f 316 0 (by decide)
  have t11 : s 329 0 = r0 329 0 := f 329 0 (by decide)
  have t12 : s 329 1 = r0 329 1 := f 329 1 (by decide)
  refine T_if1 (by decide +kernel) ?_
  refine T_useI (sf_X12_bad_309 hfu s c t1 1 0 (by omega) (by omega) (by omega) (by omega)) (fun v18 s13 hq => ?_)
  obtain ⟨c14, f15, o19, ⟨x17, rfl, b20, b21, o22, o23⟩⟩ := hq
  refine T_vI ?_
  have f16 := z_Fr.tr (R := R_X12_at_309) f f15 rs_X12_bad_309__X12_at_309
  have t24 : s13 309 20 = s 309 20 := f15 309 20 (by decide)
  have t25 : s13 309 36 = s 309 36 := f15 309 36 (by decide)
  have t26 : s13 309 43 = s 309 43 := f15 309 43 (by decide)
  have t27 : s13 309 44 = s 309 44 := f15 309 44 (by decide)
  have t28 : s13 309 58 = s 309 58 := f15 309 58 (by decide)
  have t29 : s13 316 0 = s 316 0 := f15 316 0 (by decide)
  have t30 : s13 329 0 = s 329 0 := f15 329 0 (by decide)
  have t31 : s13 329 1 = s 329 1 := f15 329 1 (by decide)
  have r32 := y_L.fr p1 (f15 309 20 (by decide)) (fun b => f15 3438 b (nr_X12_bad_309__3438 b))
  have r33 := y_TA.fr p2 (fun a b h => f15 a b (nz_X12_bad_309__316_328 a b h)) (fun a b h => f15 a b (nz_X12_bad_309__346_358 a b h)) (fun a b h => f15 a b (nz_X12_bad_309__361_373 a b h))
  have r34 := y_DD.fr p3 (f15 329 0 (by decide)) (f15 329 1 (by decide)) (fun b => f15 359 b (nr_X12_bad_309__359 b)) (fun b => f15 374 b (nr_X12_bad_309__374 b))
  have r35 := y_B.fr p4 (f15 309 20 (by decide)) (f15 316 0 (by decide)) (fun b => f15 3220 b (nr_X12_bad_309__3220 b)) (fun b => f15 3221 b (nr_X12_bad_309__3221 b)) (fun b => f15 3222 b (nr_X12_bad_309__3222 b)) (fun b => f15 361 b (nr_X12_bad_309__361 b))
  have r36 := y_K.fr p5 (by omega) (by omega) (f15 309 44 (by decide)) (f15 309 20 (by decide)) (f15 309 58 (by decide)) (fun b => f15 3438 b (nr_X12_bad_309__3438 b)) (fun b => f15 3220 b (nr_X12_bad_309__3220 b)) (fun a b h => f15 a b (nz_X12_bad_309__3452_3651 a b h))
  have r37 := y_KM.fr p6 (f15 309 20 (by decide)) (f15 309 36 (by decide)) (f15 309 38 (by decide)) (f15 309 39 (by decide)) (fun b => f15 312 b (nr_X12_bad_309__312 b)) (fun b => f15 331 b (nr_X12_bad_309__331 b)) (fun b => f15 346 b (nr_X12_bad_309__346 b)) (fun b => f15 361 b (nr_X12_bad_309__361 b)) (fun b => f15 391 b (nr_X12_bad_309__391 b)) (fun a b h => f15 a b (nz_X12_bad_309__407_606 a b h)) (fun a b h => f15 a b (nz_X12_bad_309__3220_3223 a b h)) (fun a b h => f15 a b (nz_X12_bad_309__3235_3437 a b h))
  refine T_ite (fun h38 => ?_) (fun h38 => ?_)
  · refine T_if1 (by decide +kernel) ?_
    refine T_let 3438 (by decide +kernel) ?_
    refine T_if1 (z_ixl (n := 201) (by decide +kernel) (by omega) (by omega)) ?_
    refine T_leq (fun x39 e40 => ?_)
    have u41 := CI_b c14 (k := 3438) (j := a1) (bdr_3438 a1)
    refine sl_X12_at_309K_L46 hfu r0 a1 a2 (by omega) (by omega) (fun s42 c43 f44 g45 g46 g47 g48 g49 => ?_) fu s13 x39 c14 f16 (by omega) (by first | exact y_L.cg r32 (by omega) | exact y_K.L r36 (by omega) (by omega)) (by omega) r33 (by first | exact r34 | exact y_DD.z (by omega) (by omega)) r35 (by first | exact r36 | exact y_K.b0 (by omega) | exact y_K.k0 (by omega) | exact y_K.bk (by omega)) (by first | exact r37 | exact y_KM.z (by omega)) (by omega)
    have u50 := CI_b c43 (k := 309) (j := 20) bd_309_20
    have u51 := CI_b c43 (k := 309) (j := 36) bd_309_36
    have u52 := CI_b c43 (k := 309) (j := 43) bd_309_43
    have u53 := CI_b c43 (k := 309) (j := 44) bd_309_44
    have u54 := CI_b c43 (k := 309) (j := 58) bd_309_58
    have u55 := CI_b c43 (k := 316) (j := 0) bd_316_0
    have u56 := CI_b c43 (k := 329) (j := 0) bd_329_0
    have u57 := CI_b c43 (k := 329) (j := 1) bd_329_1
    have t58 : s42 309 20 = r0 309 20 := f44 309 20 (by decide)
    have t59 : s42 316 0 = r0 316 0 := f44 316 0 (by decide)
    have t60 : s42 329 0 = r0 329 0 := f44 329 0 (by decide)
    have t61 : s42 329 1 = r0 329 1 := f44 329 1 (by decide)
    exact T_ret ⟨c43, f44, g45, (by first | exact g46 | exact y_DD.z (by omega) (by omega)), g47, (by first | exact g48 | exact y_K.b0 (by omega) | exact y_K.k0 (by omega) | exact y_K.bk (by omega)), (by first | exact g49 | exact y_KM.z (by omega)), ⟨(-1), rfl, by omega, by omega⟩⟩
  · exact T_ret ⟨c14, f16, r33, (by first | exact r34 | exact y_DD.z (by omega) (by omega)), r35, (by first | exact r36 | exact y_K.b0 (by omega) | exact y_K.k0 (by omega) | exact y_K.bk (by omega)), (by first | exact r37 | exact y_KM.z (by omega)), ⟨0, rfl, by omega, by omega⟩⟩
theorem sf_X12_at_309K {fu : Nat} (hfu : 8589934592 ≤ fu) (r0 : z_M) (c0 : z_CI r0) (a1 : Int) (a2 : Int) (b1 : -2147483648 ≤ a1 ∧ a1 ≤ 2147483647) (b2 : -2147483648 ≤ a2 ∧ a2 ≤ 2147483647) (p0 : y_TA r0) (p1 : y_DD r0) (p2 : y_B r0) (p3 : y_K r0) (p4 : y_KM r0) : z_T (fX12_at fu r0 309 a1 a2) (P_X12_at_309K r0) := by
  refine T_of (fX12_at.eq_1 ..) ?_
  have u1 := CI_b c0 (k := 309) (j := 20) bd_309_20
  have u2 := CI_b c0 (k := 309) (j := 36) bd_309_36
  have u3 := CI_b c0 (k := 309) (j := 43) bd_309_43
  have u4 := CI_b c0 (k := 309) (j := 44) bd_309_44
  have u5 := CI_b c0 (k := 309) (j := 58) bd_309_58
  have u6 := CI_b c0 (k := 316) (j := 0) bd_316_0
  have u7 := CI_b c0 (k := 329) (j := 0) bd_329_0
  have u8 := CI_b c0 (k := 329) (j := 1) bd_329_1
  refine T_if1 (by decide +kernel) ?_
  refine T_upg c0 bd_309_0 (by omega) (fun s9 c10 g12 g13 e14 => ?_)
  have f11 := z_Fr.upf (R := R_X12_at_309) z_Fr.rf g12 g13 (Or.inr (Or.inr (⟨rfl, by decide⟩)))
  have t15 : s9 309 20 = r0 309 20 := g13 20 (by decide)
  have t16 : s9 309 36 = r0 309 36 := g13 36 (by decide)
  have t17 : s9 309 43 = r0 309 43 := g13 43 (by decide)
  have t18 : s9 309 44 = r0 309 44 := g13 44 (by decide)
  have t19 : s9 309 58 = r0 309 58 := g13 58 (by decide)
  have t20 : s9 316 0 = r0 316 0 := g12 316 0 (by decide)
  have t21 : s9 329 0 = r0 329 0 := g12 329 0 (by decide)
  have t22 : s9 329 1 = r0 329 1 := g12 329 1 (by decide)
  have r23 := y_TA.fr p0 (fun a b h => g12 a b (by omega)) (fun a b h => g12 a b (by omega)) (fun a b h => g12 a b (by omega))
  have r24 := y_DD.fr p1 (g12 329 0 (by decide)) (g12 329 1 (by decide)) (fun b => g12 359 b (by decide)) (fun b => g12 374 b (by decide))
  have r25 := y_B.fr p2 (g13 20 (by decide)) (g12 316 0 (by decide)) (fun b => g12 3220 b (by decide)) (fun b => g12 3221 b (by decide)) (fun b => g12 3222 b (by decide)) (fun b => g12 361 b (by decide))
  have r26 := y_K.fr p3 (by omega) (by omega) (g13 44 (by decide)) (g13 20 (by decide)) (g13 58 (by decide)) (fun b => g12 3438 b (by decide)) (fun b => g12 3220 b (by decide)) (fun a b h => g12 a b (by omega))
  have r27 := y_KM.fr p4 (g13 20 (by decide)) (g13 36 (by decide)) (g13 38 (by decide)) (g13 39 (by decide)) (fun b => g12 312 b (by decide)) (fun b => g12 331 b (by decide)) (fun b => g12 346 b (by decide)) (fun b => g12 361 b (by decide)) (fun b => g12 391 b (by decide)) (fun a b h => g12 a b (by omega)) (fun a b h => g12 a b (by omega)) (fun a b h => g12 a b (by omega))
  refine T_if1 (by decide +kernel) ?_
  refine T_useN (sf_X12_laysAll_309K hfu s9 c10 r25 (by first | exact r26 | exact y_K.b0 (by omega) | exact y_K.k0 (by omega) | exact y_K.bk (by omega)) (by first | exact r27 | exact y_KM.z (by omega))) (fun v33 s28 hq => ?_)
  obtain ⟨c29, f30, o34, o35, o36, o37, o38, o39, o40, rfl⟩ := hq
  refine T_vN ?_
  have f31 := z_Fr.tr (R := R_X12_at_309) f11 f30 rs_X12_laysAll_309__X12_at_309
  have t43 : s28 309 20 = r0 309 20 := (f30 309 20 (by decide)).trans t15
  have t44 : s28 316 0 = r0 316 0 := (f30 316 0 (by decide)).trans t20
  have t45 : s28 329 0 = r0 329 0 := (f30 329 0 (by decide)).trans t21
  have t46 : s28 329 1 = r0 329 1 := (f30 329 1 (by decide)).trans t22
  have u47 := CI_b c29 (k := 309) (j := 36) bd_309_36
  have u48 := CI_b c29 (k := 309) (j := 43) bd_309_43
  have u49 := CI_b c29 (k := 309) (j := 44) bd_309_44
  have u50 := CI_b c29 (k := 309) (j := 58) bd_309_58
  have r51 := y_TA.fr r23 (fun a b h => f30 a b (nz_X12_laysAll_309__316_328 a b h)) (fun a b h => f30 a b (nz_X12_laysAll_309__346_358 a b h)) (fun a b h => f30 a b (nz_X12_laysAll_309__361_373 a b h))
  have r52 := y_DD.fr r24 (f30 329 0 (by decide)) (f30 329 1 (by decide)) (fun b => f30 359 b (nr_X12_laysAll_309__359 b)) (fun b => f30 374 b (nr_X12_laysAll_309__374 b))
  have r53 := y_B.fr r25 (f30 309 20 (by decide)) (f30 316 0 (by decide)) (fun b => f30 3220 b (nr_X12_laysAll_309__3220 b)) (fun b => f30 3221 b (nr_X12_laysAll_309__3221 b)) (fun b => f30 3222 b (nr_X12_laysAll_309__3222 b)) (fun b => f30 361 b (nr_X12_laysAll_309__361 b))
  clear t15
  clear t20
  clear t21
  clear t22
  refine T_if1 (by decide +kernel) ?_
  refine T_leq (fun x54 e55 => ?_)
  have u56 := CI_b c29 (k := 309) (j := 44) bd_309_44
  refine T_leq (fun x57 e58 => ?_)
  first | (have w59 := z_wx e58 (by omega)) | (have w59 := z_wr e58)
  refine T_useI (sf_X12_in hfu s28 c29 a1 0 x57 (by omega) (by omega) (by omega)) (fun v65 s60 hq => ?_)
  obtain ⟨c61, f62, ⟨x64, rfl, b66, b67, o68⟩⟩ := hq
  refine T_vI ?_
  have q69 := z_Fr.eq (fun a b h => h) f62
  subst q69
  refine T_ite (fun h70 => ?_) (fun h70 => ?_)
  · exact sj_X12_at_309K_J29 hfu r0 s28 c29 f31 a1 a2 0 (by omega) (by omega) (by omega) (by omega) (by first | exact y_L.cg o35 (by omega) | exact y_K.L o34 (by omega) (by omega)) r51 (by first | exact r52 | exact y_DD.z (by omega) (by omega)) r53 (by first | exact o34 | exact y_K.b0 (by omega) | exact y_K.k0 (by omega) | exact y_K.bk (by omega) | exact y_K.mk o35 (by omega) o36) (by first | exact o40 | exact y_KM.z (by omega))
  · exact sj_X12_at_309K_J29 hfu r0 s28 c29 f31 a1 a2 1 (by omega) (by omega) (by omega) (by omega) (by first | exact y_L.cg o35 (by omega) | exact y_K.L o34 (by omega) (by omega)) r51 (by first | exact r52 | exact y_DD.z (by omega) (by omega)) r53 (by first | exact o34 | exact y_K.b0 (by omega) | exact y_K.k0 (by omega) | exact y_K.bk (by omega) | exact y_K.mk o35 (by omega) o36) (by first | exact o40 | exact y_KM.z (by omega))
abbrev P_X12_partner_309K (r0 : z_M) : z_V → z_M → Prop := fun v s' => z_CI s' ∧ z_Fr R_X12_partner_309 r0 s' ∧ (y_TA s') ∧ (y_DD s') ∧ (y_B s') ∧ (y_K s') ∧ (y_KM s') ∧ (∃ x, v = vI x ∧ -2147483648 ≤ x ∧ x ≤ 2147483647)
theorem nz_X12_freshens_309__316_328 (a b : Int) (h : 316 ≤ a ∧ a ≤ 328) : ¬ R_X12_freshens_309 a b := by
  unfold R_X12_freshens_309; omega
theorem nz_X12_freshens_309__346_358 (a b : Int) (h : 346 ≤ a ∧ a ≤ 358) : ¬ R_X12_freshens_309 a b := by
  unfold R_X12_freshens_309; omega
theorem nz_X12_freshens_309__361_373 (a b : Int) (h : 361 ≤ a ∧ a ≤ 373) : ¬ R_X12_freshens_309 a b := by
  unfold R_X12_freshens_309; omega
theorem sj_X12_partner_309K_J19 {fu : Nat} (hfu : 8589934592 ≤ fu) (r0 s : z_M) (c : z_CI s) (f : z_Fr R_X12_partner_309 r0 s) (a1 : Int) (t1 : Int) (b1 : -2147483648 ≤ a1 ∧ a1 ≤ 2147483647) (d1 : 0 ≤ t1 ∧ t1 ≤ 1) (p0 : t1 = 1 ∨ (0 ≤ a1 ∧ a1 < s 309 20)) (p1 : y_TA s) (p2 : y_DD s) (p3 : y_B s) (p4 : y_K s) (p5 : y_KM s) : z_T (fX12_partner_J19 fu s 309 a1 309 t1) (P_X12_partner_309K r0) := by
  refine T_of (fX12_partner_J19.eq_1 ..) ?_
  have u1 := CI_b c (k := 309) (j := 20) bd_309_20
  have u2 := CI_b c (k := 309) (j := 36) bd_309_36
  have u3 := CI_b c (k := 309) (j := 43) bd_309_43
  have u4 := CI_b c (k := 309) (j := 44) bd_309_44
  have u5 := CI_b c (k := 309) (j := 58) bd_309_58
  have u6 := CI_b c (k := 316) (j := 0) bd_316_0
  have u7 := CI_b c (k := 329) (j := 0) bd_329_0
  have u8 := CI_b c (k := 329) (j := 1) bd_329_1
  have t9 : s 309 20 = r0 309 20 := f 309 20 (by decide)
  have t10 : s 309 44 = r0 309 44 := f 309 44 (by decide)
  have t11 : s 309 58 = r0 309 58 := f 309 58 (by decide)
  have t12 : s 316 0 = r0 316 0 := f 316 0 (by decide)
  have t13 : s 329 0 = r0 329 0 := f 329 0 (by decide)
  have t14 : s 329 1 = r0 329 1 := f 329 1 (by decide)
  refine T_if1 (by decide +kernel) ?_
  refine T_useI (sf_X12_bad_309 hfu s c t1 1 0 (by omega) (by omega) (by omega) (by omega)) (fun v20 s15 hq => ?_)
  obtain ⟨c16, f17, o21, ⟨x19, rfl, b22, b23, o24, o25⟩⟩ := hq
  refine T_vI ?_
  have f18 := z_Fr.tr (R := R_X12_partner_309) f f17 rs_X12_bad_309__X12_partner_309
  have t26 : s15 309 20 = s 309 20 := f17 309 20 (by decide)
  have t27 : s15 309 36 = s 309 36 := f17 309 36 (by decide)
  have t28 : s15 309 43 = s 309 43 := f17 309 43 (by decide)
  have t29 : s15 309 44 = s 309 44 := f17 309 44 (by decide)
  have t30 : s15 309 58 = s 309 58 := f17 309 58 (by decide)
  have t31 : s15 316 0 = s 316 0 := f17 316 0 (by decide)
  have t32 : s15 329 0 = s 329 0 := f17 329 0 (by decide)
  have t33 : s15 329 1 = s 329 1 := f17 329 1 (by decide)
  have r34 := y_TA.fr p1 (fun a b h => f17 a b (nz_X12_bad_309__316_328 a b h)) (fun a b h => f17 a b (nz_X12_bad_309__346_358 a b h)) (fun a b h => f17 a b (nz_X12_bad_309__361_373 a b h))
  have r35 := y_DD.fr p2 (f17 329 0 (by decide)) (f17 329 1 (by decide)) (fun b => f17 359 b (nr_X12_bad_309__359 b)) (fun b => f17 374 b (nr_X12_bad_309__374 b))
  have r36 := y_B.fr p3 (f17 309 20 (by decide)) (f17 316 0 (by decide)) (fun b => f17 3220 b (nr_X12_bad_309__3220 b)) (fun b => f17 3221 b (nr_X12_bad_309__3221 b)) (fun b => f17 3222 b (nr_X12_bad_309__3222 b)) (fun b => f17 361 b (nr_X12_bad_309__361 b))
  have r37 := y_K.fr p4 (by omega) (by omega) (f17 309 44 (by decide)) (f17 309 20 (by decide)) (f17 309 58 (by decide)) (fun b => f17 3438 b (nr_X12_bad_309__3438 b)) (fun b => f17 3220 b (nr_X12_bad_309__3220 b)) (fun a b h => f17 a b (nz_X12_bad_309__3452_3651 a b h))
  have r38 := y_KM.fr p5 (f17 309 20 (by decide)) (f17 309 36 (by decide)) (f17 309 38 (by decide)) (f17 309 39 (by decide)) (fun b => f17 312 b (nr_X12_bad_309__312 b)) (fun b => f17 331 b (nr_X12_bad_309__331 b)) (fun b => f17 346 b (nr_X12_bad_309__346 b)) (fun b => f17 361 b (nr_X12_bad_309__361 b)) (fun b => f17 391 b (nr_X12_bad_309__391 b)) (fun a b h => f17 a b (nz_X12_bad_309__407_606 a b h)) (fun a b h => f17 a b (nz_X12_bad_309__3220_3223 a b h)) (fun a b h => f17 a b (nz_X12_bad_309__3235_3437 a b h))
  refine T_ite (fun h39 => ?_) (fun h39 => ?_)
  · refine T_if1 (by decide +kernel) ?_
    refine T_useN (sf_X12_freshens_309K hfu s15 c16 r36 (by first | exact r38 | exact y_KM.z (by omega))) (fun v45 s40 hq => ?_)
    obtain ⟨c41, f42, o46, o47, o48, o49, o50, rfl⟩ := hq
    refine T_vN ?_
    have f43 := z_Fr.tr (R := R_X12_partner_309) f18 f42 rs_X12_freshens_309__X12_partner_309
    have t53 : s40 309 20 = s 309 20 := (f42 309 20 (by decide)).trans t26
    have t54 : s40 309 44 = s 309 44 := (f42 309 44 (by decide)).trans t29
    have t55 : s40 309 58 = s 309 58 := (f42 309 58 (by decide)).trans t30
    have t56 : s40 316 0 = s 316 0 := (f42 316 0 (by decide)).trans t31
    have t57 : s40 329 0 = s 329 0 := (f42 329 0 (by decide)).trans t32
    have t58 : s40 329 1 = s 329 1 := (f42 329 1 (by decide)).trans t33
    have u59 := CI_b c41 (k := 309) (j := 36) bd_309_36
    have u60 := CI_b c41 (k := 309) (j := 43) bd_309_43
    have r61 := y_TA.fr r34 (fun a b h => f42 a b (nz_X12_freshens_309__316_328 a b h)) (fun a b h => f42 a b (nz_X12_freshens_309__346_358 a b h)) (fun a b h => f42 a b (nz_X12_freshens_309__361_373 a b h))
    have r62 := y_DD.fr r35 (f42 329 0 (by decide)) (f42 329 1 (by decide)) (fun b => f42 359 b (nr_X12_freshens_309__359 b)) (fun b => f42 374 b (nr_X12_freshens_309__374 b))
    have r63 := y_B.fr r36 (f42 309 20 (by decide)) (f42 316 0 (by decide)) (fun b => f42 3220 b (nr_X12_freshens_309__3220 b)) (fun b => f42 3221 b (nr_X12_freshens_309__3221 b)) (fun b => f42 3222 b (nr_X12_freshens_309__3222 b)) (fun b => f42 361 b (nr_X12_freshens_309__361 b))
    have r64 := y_K.fr r37 (by omega) (by omega) (f42 309 44 (by decide)) (f42 309 20 (by decide)) (f42 309 58 (by decide)) (fun b => f42 3438 b (nr_X12_freshens_309__3438 b)) (fun b => f42 3220 b (nr_X12_freshens_309__3220 b)) (fun a b h => f42 a b (nz_X12_freshens_309__3452_3651 a b h))
    clear t26
    clear t29
    clear t30
    clear t31
    clear t32
    clear t33
    refine T_if1 (by decide +kernel) ?_
    refine T_let 3435 (by decide +kernel) ?_
    refine T_if1 (z_ixl (n := 200) (by decide +kernel) (by omega) (by omega)) ?_
    refine T_leq (fun x65 e66 => ?_)
    have u67 := CI_b c41 (k := 3435) (j := a1) (bdr_3435 a1)
    exact T_ret ⟨c41, f43, r61, (by first | exact r62 | exact y_DD.z (by omega) (by omega)), r63, (by first | exact r64 | exact y_K.b0 (by omega) | exact y_K.k0 (by omega) | exact y_K.bk (by omega)), (by first | exact o50 | exact y_KM.z (by omega)), ⟨x65, rfl, by omega, by omega⟩⟩
  · exact T_ret ⟨c16, f18, r34, (by first | exact r35 | exact y_DD.z (by omega) (by omega)), r36, (by first | exact r37 | exact y_K.b0 (by omega) | exact y_K.k0 (by omega) | exact y_K.bk (by omega)), (by first | exact r38 | exact y_KM.z (by omega)), ⟨0, rfl, by omega, by omega⟩⟩
theorem sf_X12_partner_309K {fu : Nat} (hfu : 8589934592 ≤ fu) (r0 : z_M) (c0 : z_CI r0) (a1 : Int) (b1 : -2147483648 ≤ a1 ∧ a1 ≤ 2147483647) (p0 : y_TA r0) (p1 : y_DD r0) (p2 : y_B r0) (p3 : y_K r0) (p4 : y_KM r0) : z_T (fX12_partner fu r0 309 a1) (P_X12_partner_309K r0) := by
  refine T_of (fX12_partner.eq_1 ..) ?_
  have u1 := CI_b c0 (k := 309) (j := 20) bd_309_20
  have u2 := CI_b c0 (k := 309) (j := 36) bd_309_36
  have u3 := CI_b c0 (k := 309) (j := 43) bd_309_43
  have u4 := CI_b c0 (k := 309) (j := 44) bd_309_44
  have u5 := CI_b c0 (k := 309) (j := 58) bd_309_58
  have u6 := CI_b c0 (k := 316) (j := 0) bd_316_0
  have u7 := CI_b c0 (k := 329) (j := 0) bd_329_0
  have u8 := CI_b c0 (k := 329) (j := 1) bd_329_1
  refine T_if1 (by decide +kernel) ?_
  refine T_upg c0 bd_309_0 (by omega) (fun s9 c10 g12 g13 e14 => ?_)
  have f11 := z_Fr.upf (R := R_X12_partner_309) z_Fr.rf g12 g13 (Or.inr (Or.inr (⟨rfl, by decide⟩)))
  have t15 : s9 309 20 = r0 309 20 := g13 20 (by decide)
  have t16 : s9 309 36 = r0 309 36 := g13 36 (by decide)
  have t17 : s9 309 43 = r0 309 43 := g13 43 (by decide)
  have t18 : s9 309 44 = r0 309 44 := g13 44 (by decide)
  have t19 : s9 309 58 = r0 309 58 := g13 58 (by decide)
  have t20 : s9 316 0 = r0 316 0 := g12 316 0 (by decide)
  have t21 : s9 329 0 = r0 329 0 := g12 329 0 (by decide)
  have t22 : s9 329 1 = r0 329 1 := g12 329 1 (by decide)
  have r23 := y_TA.fr p0 (fun a b h => g12 a b (by omega)) (fun a b h => g12 a b (by omega)) (fun a b h => g12 a b (by omega))
  have r24 := y_DD.fr p1 (g12 329 0 (by decide)) (g12 329 1 (by decide)) (fun b => g12 359 b (by decide)) (fun b => g12 374 b (by decide))
  have r25 := y_B.fr p2 (g13 20 (by decide)) (g12 316 0 (by decide)) (fun b => g12 3220 b (by decide)) (fun b => g12 3221 b (by decide)) (fun b => g12 3222 b (by decide)) (fun b => g12 361 b (by decide))
  have r26 := y_K.fr p3 (by omega) (by omega) (g13 44 (by decide)) (g13 20 (by decide)) (g13 58 (by decide)) (fun b => g12 3438 b (by decide)) (fun b => g12 3220 b (by decide)) (fun a b h => g12 a b (by omega))
  have r27 := y_KM.fr p4 (g13 20 (by decide)) (g13 36 (by decide)) (g13 38 (by decide)) (g13 39 (by decide)) (fun b => g12 312 b (by decide)) (fun b => g12 331 b (by decide)) (fun b => g12 346 b (by decide)) (fun b => g12 361 b (by decide)) (fun b => g12 391 b (by decide)) (fun a b h => g12 a b (by omega)) (fun a b h => g12 a b (by omega)) (fun a b h => g12 a b (by omega))
  refine T_if1 (by decide +kernel) ?_
  refine T_useI (sf_X12_isUnit_309 hfu s9 c10 a1 (by omega)) (fun v33 s28 hq => ?_)
  obtain ⟨c29, f30, ⟨x32, rfl, b34, b35, o36⟩⟩ := hq
  refine T_vI ?_
  have q37 := z_Fr.eq (fun a b h => h) f30
  subst q37
  refine T_ite (fun h38 => ?_) (fun h38 => ?_)
  · exact sj_X12_partner_309K_J19 hfu r0 s9 c10 f11 a1 0 (by omega) (by omega) (by omega) r23 (by first | exact r24 | exact y_DD.z (by omega) (by omega)) r25 (by first | exact r26 | exact y_K.b0 (by omega) | exact y_K.k0 (by omega) | exact y_K.bk (by omega)) (by first | exact r27 | exact y_KM.z (by omega))
  · exact sj_X12_partner_309K_J19 hfu r0 s9 c10 f11 a1 1 (by omega) (by omega) (by omega) r23 (by first | exact r24 | exact y_DD.z (by omega) (by omega)) r25 (by first | exact r26 | exact y_K.b0 (by omega) | exact y_K.k0 (by omega) | exact y_K.bk (by omega)) (by first | exact r27 | exact y_KM.z (by omega))
abbrev P_X12_isLine_309K (r0 : z_M) (a1 : Int) : z_V → z_M → Prop := fun v s' => z_CI s' ∧ z_Fr R_X12_isLine_309 r0 s' ∧ (y_K s') ∧ (y_L s' (s' 309 44)) ∧ (y_BK s') ∧ (s' 309 36 ≠ 0) ∧ (s' 309 43 ≠ 0) ∧ (r0 309 36 = 0 ∨ r0 309 43 = 0 ∨ s' 309 44 = r0 309 44) ∧ (y_KM s') ∧ (∃ x, v = vI x ∧ 0 ≤ x ∧ x ≤ 1 ∧ ((x = 1 ∧ 0 ≤ a1 ∧ a1 < s' 309 44) ∨ x = 0))
theorem sf_X12_isLine_309K {fu : Nat} (hfu : 8589934592 ≤ fu) (r0 : z_M) (c0 : z_CI r0) (a1 : Int) (b1 : -2147483648 ≤ a1 ∧ a1 ≤ 2147483647) (p0 : y_B r0) (p1 : y_K r0) (p2 : y_KM r0) : z_T (fX12_isLine fu r0 309 a1) (P_X12_isLine_309K r0 a1) := by
  refine T_of (fX12_isLine.eq_1 ..) ?_
  have u1 := CI_b c0 (k := 309) (j := 20) bd_309_20
  have u2 := CI_b c0 (k := 309) (j := 36) bd_309_36
  have u3 := CI_b c0 (k := 309) (j := 43) bd_309_43
  have u4 := CI_b c0 (k := 309) (j := 44) bd_309_44
  have u5 := CI_b c0 (k := 309) (j := 58) bd_309_58
  have u6 := CI_b c0 (k := 316) (j := 0) bd_316_0
  refine T_if1 (by decide +kernel) ?_
  refine T_useN (sf_X12_laysAll_309K hfu r0 c0 p0 (by first | exact p1 | exact y_K.b0 (by omega) | exact y_K.k0 (by omega) | exact y_K.bk (by omega)) (by first | exact p2 | exact y_KM.z (by omega))) (fun v12 s7 hq => ?_)
  obtain ⟨c8, f9, o13, o14, o15, o16, o17, o18, o19, rfl⟩ := hq
  refine T_vN ?_
  have f10 := z_Fr.tr (R := R_X12_isLine_309) z_Fr.rf f9 rs_X12_laysAll_309__X12_isLine_309
  have t22 : s7 309 20 = r0 309 20 := f9 309 20 (by decide)
  have t23 : s7 316 0 = r0 316 0 := f9 316 0 (by decide)
  have u24 := CI_b c8 (k := 309) (j := 36) bd_309_36
  have u25 := CI_b c8 (k := 309) (j := 43) bd_309_43
  have u26 := CI_b c8 (k := 309) (j := 44) bd_309_44
  have u27 := CI_b c8 (k := 309) (j := 58) bd_309_58
  have r28 := y_B.fr p0 (f9 309 20 (by decide)) (f9 316 0 (by decide)) (fun b => f9 3220 b (nr_X12_laysAll_309__3220 b)) (fun b => f9 3221 b (nr_X12_laysAll_309__3221 b)) (fun b => f9 3222 b (nr_X12_laysAll_309__3222 b)) (fun b => f9 361 b (nr_X12_laysAll_309__361 b))
  refine T_if1 (by decide +kernel) ?_
  refine T_leq (fun x29 e30 => ?_)
  have u31 := CI_b c8 (k := 309) (j := 44) bd_309_44
  refine T_leq (fun x32 e33 => ?_)
  first | (have w34 := z_wx e33 (by omega)) | (have w34 := z_wr e33)
  refine T_useI (sf_X12_in hfu s7 c8 a1 0 x32 (by omega) (by omega) (by omega)) (fun v40 s35 hq => ?_)
  obtain ⟨c36, f37, ⟨x39, rfl, b41, b42, o43⟩⟩ := hq
  refine T_vI ?_
  have q44 := z_Fr.eq (fun a b h => h) f37
  subst q44
  refine T_if1 (by unfold z_bl; omega) ?_
  exact T_ret ⟨c8, f10, (by first | exact o13 | exact y_K.b0 (by omega) | exact y_K.k0 (by omega) | exact y_K.bk (by omega) | exact y_K.mk o14 (by omega) o15), (by first | exact y_L.cg o14 (by omega) | exact y_K.L o13 (by omega) (by omega)), (by first | exact o15 | exact y_K.B o13 (by omega) (by omega)), (by omega), (by omega), (by omega), (by first | exact o19 | exact y_KM.z (by omega)), ⟨x39, rfl, by omega, by omega, (by omega)⟩⟩
abbrev P_X12_side_309K (r0 : z_M) : z_V → z_M → Prop := fun v s' => z_CI s' ∧ z_Fr R_X12_side_309 r0 s' ∧ (y_TA s') ∧ (y_DD s') ∧ (y_B s') ∧ (y_K s') ∧ (y_KM s') ∧ (∃ x, v = vI x ∧ -2147483648 ≤ x ∧ x ≤ 2147483647)
theorem nz_X12_isLine_309__316_328 (a b : Int) (h : 316 ≤ a ∧ a ≤ 328) : ¬ R_X12_isLine_309 a b := by
  unfold R_X12_isLine_309; omega
theorem nz_X12_isLine_309__346_358 (a b : Int) (h : 346 ≤ a ∧ a ≤ 358) : ¬ R_X12_isLine_309 a b := by
  unfold R_X12_isLine_309; omega
theorem nz_X12_isLine_309__361_373 (a b : Int) (h : 361 ≤ a ∧ a ≤ 373) : ¬ R_X12_isLine_309 a b := by
  unfold R_X12_isLine_309; omega
theorem nr_X12_isLine_309__312 (b : Int) : ¬ R_X12_isLine_309 312 b := by
  unfold R_X12_isLine_309; omega
theorem nr_X12_isLine_309__331 (b : Int) : ¬ R_X12_isLine_309 331 b := by
  unfold R_X12_isLine_309; omega
theorem nr_X12_isLine_309__346 (b : Int) : ¬ R_X12_isLine_309 346 b := by
  unfold R_X12_isLine_309; omega
theorem nr_X12_isLine_309__391 (b : Int) : ¬ R_X12_isLine_309 391 b := by
  unfold R_X12_isLine_309; omega
theorem nz_X12_isLine_309__407_606 (a b : Int) (h : 407 ≤ a ∧ a ≤ 606) : ¬ R_X12_isLine_309 a b := by
  unfold R_X12_isLine_309; omega
theorem nz_X12_isLine_309__3220_3223 (a b : Int) (h : 3220 ≤ a ∧ a ≤ 3223) : ¬ R_X12_isLine_309 a b := by
  unfold R_X12_isLine_309; omega
theorem sj_X12_side_309K_J59 {fu : Nat} (hfu : 8589934592 ≤ fu) (r0 s : z_M) (c : z_CI s) (f : z_Fr R_X12_side_309 r0 s) (p0 : y_TA s) (p1 : y_DD s) (p2 : y_B s) (p3 : y_K s) (p4 : y_KM s) : z_T (fX12_side_J59 fu s) (P_X12_side_309K r0) := by
  refine T_of (fX12_side_J59.eq_1 ..) ?_
  have u1 := CI_b c (k := 309) (j := 20) bd_309_20
  have u2 := CI_b c (k := 309) (j := 36) bd_309_36
  have u3 := CI_b c (k := 309) (j := 43) bd_309_43
  have u4 := CI_b c (k := 309) (j := 44) bd_309_44
  have u5 := CI_b c (k := 309) (j := 58) bd_309_58
  have u6 := CI_b c (k := 316) (j := 0) bd_316_0
  have u7 := CI_b c (k := 329) (j := 0) bd_329_0
  have u8 := CI_b c (k := 329) (j := 1) bd_329_1
  have t9 : s 309 20 = r0 309 20 := f 309 20 (by decide)
  have t10 : s 316 0 = r0 316 0 := f 316 0 (by decide)
  have t11 : s 329 0 = r0 329 0 := f 329 0 (by decide)
  have t12 : s 329 1 = r0 329 1 := f 329 1 (by decide)
  exact T_ret ⟨c, f, p0, (by first | exact p1 | exact y_DD.z (by omega) (by omega)), p2, (by first | exact p3 | exact y_K.b0 (by omega) | exact y_K.k0 (by omega) | exact y_K.bk (by omega)), (by first | exact p4 | exact y_KM.z (by omega)), ⟨0, rfl, by omega, by omega⟩⟩
theorem nr_X12_laysLetters_309__312 (b : Int) : ¬ R_X12_laysLetters_309 312 b := by
  unfold R_X12_laysLetters_309; omega
theorem nr_X12_laysLetters_309__331 (b : Int) : ¬ R_X12_laysLetters_309 331 b := by
  unfold R_X12_laysLetters_309; omega
theorem nr_X12_laysLetters_309__346 (b : Int) : ¬ R_X12_laysLetters_309 346 b := by
  unfold R_X12_laysLetters_309; omega
theorem nr_X12_laysLetters_309__391 (b : Int) : ¬ R_X12_laysLetters_309 391 b := by
  unfold R_X12_laysLetters_309; omega
theorem nz_X12_laysLetters_309__407_606 (a b : Int) (h : 407 ≤ a ∧ a ≤ 606) : ¬ R_X12_laysLetters_309 a b := by
  unfold R_X12_laysLetters_309; omega
theorem nz_X12_laysLetters_309__3220_3223 (a b : Int) (h : 3220 ≤ a ∧ a ≤ 3223) : ¬ R_X12_laysLetters_309 a b := by
  unfold R_X12_laysLetters_309; omega
theorem nz_X12_laysLetters_309__3235_3437 (a b : Int) (h : 3235 ≤ a ∧ a ≤ 3437) : ¬ R_X12_laysLetters_309 a b := by
  unfold R_X12_laysLetters_309; omega
theorem nz_X12_laysSide_309__3452_3651 (a b : Int) (h : 3452 ≤ a ∧ a ≤ 3651) : ¬ R_X12_laysSide_309 a b := by
  unfold R_X12_laysSide_309; omega
theorem nz_X12_laysSide_309__316_328 (a b : Int) (h : 316 ≤ a ∧ a ≤ 328) : ¬ R_X12_laysSide_309 a b := by
  unfold R_X12_laysSide_309; omega
theorem nz_X12_laysSide_309__346_358 (a b : Int) (h : 346 ≤ a ∧ a ≤ 358) : ¬ R_X12_laysSide_309 a b := by
  unfold R_X12_laysSide_309; omega
theorem nz_X12_laysSide_309__361_373 (a b : Int) (h : 361 ≤ a ∧ a ≤ 373) : ¬ R_X12_laysSide_309 a b := by
  unfold R_X12_laysSide_309; omega
theorem nr_X12_laysSide_309__312 (b : Int) : ¬ R_X12_laysSide_309 312 b := by
  unfold R_X12_laysSide_309; omega
theorem nr_X12_laysSide_309__331 (b : Int) : ¬ R_X12_laysSide_309 331 b := by
  unfold R_X12_laysSide_309; omega
theorem nr_X12_laysSide_309__346 (b : Int) : ¬ R_X12_laysSide_309 346 b := by
  unfold R_X12_laysSide_309; omega
theorem nr_X12_laysSide_309__391 (b : Int) : ¬ R_X12_laysSide_309 391 b := by
  unfold R_X12_laysSide_309; omega
theorem nz_X12_laysSide_309__407_606 (a b : Int) (h : 407 ≤ a ∧ a ≤ 606) : ¬ R_X12_laysSide_309 a b := by
  unfold R_X12_laysSide_309; omega
theorem nz_X12_laysSide_309__3220_3223 (a b : Int) (h : 3220 ≤ a ∧ a ≤ 3223) : ¬ R_X12_laysSide_309 a b := by
  unfold R_X12_laysSide_309; omega
theorem nz_X12_laysSide_309__3235_3437 (a b : Int) (h : 3235 ≤ a ∧ a ≤ 3437) : ¬ R_X12_laysSide_309 a b := by
  unfold R_X12_laysSide_309; omega
theorem sj_X12_side_309K_J94 {fu : Nat} (hfu : 8589934592 ≤ fu) (r0 s : z_M) (c : z_CI s) (f : z_Fr R_X12_side_309 r0 s) (t0 : Int) (d0 : -2147483648 ≤ t0 ∧ t0 ≤ 2147483647) (p0 : y_TA s) (p1 : y_DD s) (p2 : y_B s) (p3 : y_K s) (p4 : y_KM s) : z_T (fX12_side_J94 fu s t0) (P_X12_side_309K r0) := by
  refine T_of (fX12_side_J94.eq_1 ..) ?_
  have u1 := CI_b c (k := 309) (j := 20) bd_309_20
  have u2 := CI_b c (k := 309) (j := 36) bd_309_36
  have u3 := CI_b c (k := 309) (j := 43) bd_309_43
  have u4 := CI_b c (k := 309) (j := 44) bd_309_44
  have u5 := CI_b c (k := 309) (j := 58) bd_309_58
  have u6 := CI_b c (k := 316) (j := 0) bd_316_0
  have u7 := CI_b c (k := 329) (j := 0) bd_329_0
  have u8 := CI_b c (k := 329) (j := 1) bd_329_1
  have t9 : s 309 20 = r0 309 20 := f 309 20 (by decide)
  have t10 : s 316 0 = r0 316 0 := f 316 0 (by decide)
  have t11 : s 329 0 = r0 329 0 := f 329 0 (by decide)
  have t12 : s 329 1 = r0 329 1 := f 329 1 (by decide)
  exact T_ret ⟨c, f, p0, (by first | exact p1 | exact y_DD.z (by omega) (by omega)), p2, (by first | exact p3 | exact y_K.b0 (by omega) | exact y_K.k0 (by omega) | exact y_K.bk (by omega)), (by first | exact p4 | exact y_KM.z (by omega)), ⟨t0, rfl, by omega, by omega⟩⟩
set_option maxHeartbeats 4000000 in
theorem sj_X12_side_309K_J51 {fu : Nat} (hfu : 8589934592 ≤ fu) (r0 s : z_M) (c : z_CI s) (f : z_Fr R_X12_side_309 r0 s) (a1 : Int) (a2 : Int) (a3 : Int) (t1 : Int) (b1 : -2147483648 ≤ a1 ∧ a1 ≤ 2147483647) (b2 : -2147483648 ≤ a2 ∧ a2 ≤ 2147483647) (b3 : -2147483648 ≤ a3 ∧ a3 ≤ 2147483647) (d1 : 0 ≤ t1 ∧ t1 ≤ 1) (p0 : 0 ≤ a1 ∧ a1 < s 309 44) (p1 : t1 = 1 ∨ (0 ≤ a2 ∧ a2 ≤ 1)) (p2 : y_L s (s 309 44)) (p3 : y_BK s) (p4 : y_TA s) (p5 : y_DD s) (p6 : y_B s) (p7 : y_K s) (p8 : y_KM s) : z_T (fX12_side_J51 fu s 309 a1 a2 a3 309 t1) (P_X12_side_309K r0) := by
  refine T_of (fX12_side_J51.eq_1 ..) ?_
  have u1 := CI_b c (k := 309) (j := 20) bd_309_20
  have u2 := CI_b c (k := 309) (j := 36) bd_309_36
  have u3 := CI_b c (k := 309) (j := 43) bd_309_43
  have u4 := CI_b c (k := 309) (j := 44) bd_309_44
  have u5 := CI_b c (k := 309) (j := 58) bd_309_58
  have u6 := CI_b c (k := 316) (j := 0) bd_316_0
  have u7 := CI_b c (k := 329) (j := 0) bd_329_0
  have u8 := CI_b c (k := 329) (j := 1) bd_329_1
  have t9 : s 309 20 = r0 309 20 := f 309 20 (by decide)
  have t10 : s 316 0 = r0 316 0 := f 316 0 (by decide)
  have t11 : s 329 0 = r0 329 0 := f 329 0 (by decide)
  have t12 : s 329 1 = r0 329 1 := f 329 1 (by decide)
  refine T_if1 (by decide +kernel) ?_
  refine T_useI (sf_X12_bad_309 hfu s c t1 2 1 (by omega) (by omega) (by omega) (by omega)) (fun v18 s13 hq => ?_)
  obtain ⟨c14, f15, o19, ⟨x17, rfl, b20, b21, o22, o23⟩⟩ := hq
  refine T_vI ?_
  have f16 := z_Fr.tr (R := R_X12_side_309) f f15 rs_X12_bad_309__X12_side_309
  have t24 : s13 309 20 = s 309 20 := f15 309 20 (by decide)
  have t25 : s13 309 36 = s 309 36 := f15 309 36 (by decide)
  have t26 : s13 309 43 = s 309 43 := f15 309 43 (by decide)
  have t27 : s13 309 44 = s 309 44 := f15 309 44 (by decide)
  have t28 : s13 309 58 = s 309 58 := f15 309 58 (by decide)
  have t29 : s13 316 0 = s 316 0 := f15 316 0 (by decide)
  have t30 : s13 329 0 = s 329 0 := f15 329 0 (by decide)
  have t31 : s13 329 1 = s 329 1 := f15 329 1 (by decide)
  have r32 := y_L.fr p2 (f15 309 20 (by decide)) (fun b => f15 3438 b (nr_X12_bad_309__3438 b))
  have r33 := y_BK.fr p3 (by omega) (f15 309 20 (by decide)) (f15 309 58 (by decide)) (fun b => f15 3220 b (nr_X12_bad_309__3220 b)) (fun a b h => f15 a b (nz_X12_bad_309__3452_3651 a b h))
  have r34 := y_TA.fr p4 (fun a b h => f15 a b (nz_X12_bad_309__316_328 a b h)) (fun a b h => f15 a b (nz_X12_bad_309__346_358 a b h)) (fun a b h => f15 a b (nz_X12_bad_309__361_373 a b h))
  have r35 := y_DD.fr p5 (f15 329 0 (by decide)) (f15 329 1 (by decide)) (fun b => f15 359 b (nr_X12_bad_309__359 b)) (fun b => f15 374 b (nr_X12_bad_309__374 b))
  have r36 := y_B.fr p6 (f15 309 20 (by decide)) (f15 316 0 (by decide)) (fun b => f15 3220 b (nr_X12_bad_309__3220 b)) (fun b => f15 3221 b (nr_X12_bad_309__3221 b)) (fun b => f15 3222 b (nr_X12_bad_309__3222 b)) (fun b => f15 361 b (nr_X12_bad_309__361 b))
  have r37 := y_K.fr p7 (by omega) (by omega) (f15 309 44 (by decide)) (f15 309 20 (by decide)) (f15 309 58 (by decide)) (fun b => f15 3438 b (nr_X12_bad_309__3438 b)) (fun b => f15 3220 b (nr_X12_bad_309__3220 b)) (fun a b h => f15 a b (nz_X12_bad_309__3452_3651 a b h))
  have r38 := y_KM.fr p8 (f15 309 20 (by decide)) (f15 309 36 (by decide)) (f15 309 38 (by decide)) (f15 309 39 (by decide)) (fun b => f15 312 b (nr_X12_bad_309__312 b)) (fun b => f15 331 b (nr_X12_bad_309__331 b)) (fun b => f15 346 b (nr_X12_bad_309__346 b)) (fun b => f15 361 b (nr_X12_bad_309__361 b)) (fun b => f15 391 b (nr_X12_bad_309__391 b)) (fun a b h => f15 a b (nz_X12_bad_309__407_606 a b h)) (fun a b h => f15 a b (nz_X12_bad_309__3220_3223 a b h)) (fun a b h => f15 a b (nz_X12_bad_309__3235_3437 a b h))
  refine T_ite (fun h39 => ?_) (fun h39 => ?_)
  · refine T_if1 (by decide +kernel) ?_
    refine T_upg c14 bd_309_60 (by omega) (fun s40 c41 g43 g44 e45 => ?_)
    have f42 := z_Fr.upf (R := R_X12_side_309) f16 g43 g44 (Or.inr (Or.inr (⟨rfl, by decide⟩)))
    have t46 : s40 309 20 = s 309 20 := (g44 20 (by decide)).trans t24
    have t47 : s40 309 36 = s 309 36 := (g44 36 (by decide)).trans t25
    have t48 : s40 309 43 = s 309 43 := (g44 43 (by decide)).trans t26
    have t49 : s40 309 44 = s 309 44 := (g44 44 (by decide)).trans t27
    have t50 : s40 309 58 = s 309 58 := (g44 58 (by decide)).trans t28
    have t51 : s40 316 0 = s 316 0 := (g43 316 0 (by decide)).trans t29
    have t52 : s40 329 0 = s 329 0 := (g43 329 0 (by decide)).trans t30
    have t53 : s40 329 1 = s 329 1 := (g43 329 1 (by decide)).trans t31
    have r54 := y_L.fr r32 (g44 20 (by decide)) (fun b => g43 3438 b (by decide))
    have r55 := y_BK.fr r33 (by omega) (g44 20 (by decide)) (g44 58 (by decide)) (fun b => g43 3220 b (by decide)) (fun a b h => g43 a b (by omega))
    have r56 := y_TA.fr r34 (fun a b h => g43 a b (by omega)) (fun a b h => g43 a b (by omega)) (fun a b h => g43 a b (by omega))
    have r57 := y_DD.fr r35 (g43 329 0 (by decide)) (g43 329 1 (by decide)) (fun b => g43 359 b (by decide)) (fun b => g43 374 b (by decide))
    have r58 := y_B.fr r36 (g44 20 (by decide)) (g43 316 0 (by decide)) (fun b => g43 3220 b (by decide)) (fun b => g43 3221 b (by decide)) (fun b => g43 3222 b (by decide)) (fun b => g43 361 b (by decide))
    have r59 := y_K.fr r37 (by omega) (by omega) (g44 44 (by decide)) (g44 20 (by decide)) (g44 58 (by decide)) (fun b => g43 3438 b (by decide)) (fun b => g43 3220 b (by decide)) (fun a b h => g43 a b (by omega))
    have r60 := y_KM.fr r38 (g44 20 (by decide)) (g44 36 (by decide)) (g44 38 (by decide)) (g44 39 (by decide)) (fun b => g43 312 b (by decide)) (fun b => g43 331 b (by decide)) (fun b => g43 346 b (by decide)) (fun b => g43 361 b (by decide)) (fun b => g43 391 b (by decide)) (fun a b h => g43 a b (by omega)) (fun a b h => g43 a b (by omega)) (fun a b h => g43 a b (by omega))
    clear t24
    clear t25
    clear t26
    clear t27
    clear t28
    clear t29
    clear t30
    clear t31
    refine T_if1 (by decide +kernel) ?_
    refine T_useI (sf_X12_laysLetters_309 hfu s40 c41 a1 a2 (by omega) (by omega) r58 (by first | exact r55 | exact y_K.B r59 (by omega) (by omega)) (by omega)) (fun v66 s61 hq => ?_)
    obtain ⟨c62, f63, o67, o68, ⟨x65, rfl, b69, b70, o71⟩⟩ := hq
    refine T_vI ?_
    have f64 := z_Fr.tr (R := R_X12_side_309) f42 f63 rs_X12_laysLetters_309__X12_side_309
    have t72 : s61 309 20 = s 309 20 := (f63 309 20 (by decide)).trans t46
    have t73 : s61 309 36 = s 309 36 := (f63 309 36 (by decide)).trans t47
    have t74 : s61 309 43 = s 309 43 := (f63 309 43 (by decide)).trans t48
    have t75 : s61 309 44 = s 309 44 := (f63 309 44 (by decide)).trans t49
    have t76 : s61 309 58 = s 309 58 := (f63 309 58 (by decide)).trans t50
    have t77 : s61 316 0 = s 316 0 := (f63 316 0 (by decide)).trans t51
    have t78 : s61 329 0 = s 329 0 := (f63 329 0 (by decide)).trans t52
    have t79 : s61 329 1 = s 329 1 := (f63 329 1 (by decide)).trans t53
    have r80 := y_L.fr r54 (f63 309 20 (by decide)) (fun b => f63 3438 b (nr_X12_laysLetters_309__3438 b))
    have r81 := y_BK.fr r55 (by omega) (f63 309 20 (by decide)) (f63 309 58 (by decide)) (fun b => f63 3220 b (nr_X12_laysLetters_309__3220 b)) (fun a b h => f63 a b (nz_X12_laysLetters_309__3452_3651 a b h))
    have r82 := y_TA.fr r56 (fun a b h => f63 a b (nz_X12_laysLetters_309__316_328 a b h)) (fun a b h => f63 a b (nz_X12_laysLetters_309__346_358 a b h)) (fun a b h => f63 a b (nz_X12_laysLetters_309__361_373 a b h))
    have r83 := y_DD.fr r57 (f63 329 0 (by decide)) (f63 329 1 (by decide)) (fun b => f63 359 b (nr_X12_laysLetters_309__359 b)) (fun b => f63 374 b (nr_X12_laysLetters_309__374 b))
    have r84 := y_B.fr r58 (f63 309 20 (by decide)) (f63 316 0 (by decide)) (fun b => f63 3220 b (nr_X12_laysLetters_309__3220 b)) (fun b => f63 3221 b (nr_X12_laysLetters_309__3221 b)) (fun b => f63 3222 b (nr_X12_laysLetters_309__3222 b)) (fun b => f63 361 b (nr_X12_laysLetters_309__361 b))
    have r85 := y_K.fr r59 (by omega) (by omega) (f63 309 44 (by decide)) (f63 309 20 (by decide)) (f63 309 58 (by decide)) (fun b => f63 3438 b (nr_X12_laysLetters_309__3438 b)) (fun b => f63 3220 b (nr_X12_laysLetters_309__3220 b)) (fun a b h => f63 a b (nz_X12_laysLetters_309__3452_3651 a b h))
    have r86 := y_KM.fr r60 (f63 309 20 (by decide)) (f63 309 36 (by decide)) (f63 309 38 (by decide)) (f63 309 39 (by decide)) (fun b => f63 312 b (nr_X12_laysLetters_309__312 b)) (fun b => f63 331 b (nr_X12_laysLetters_309__331 b)) (fun b => f63 346 b (nr_X12_laysLetters_309__346 b)) (fun b => f63 361 b (nr_X12_laysLetters_309__361 b)) (fun b => f63 391 b (nr_X12_laysLetters_309__391 b)) (fun a b h => f63 a b (nz_X12_laysLetters_309__407_606 a b h)) (fun a b h => f63 a b (nz_X12_laysLetters_309__3220_3223 a b h)) (fun a b h => f63 a b (nz_X12_laysLetters_309__3235_3437 a b h))
    clear t46
    clear t47
    clear t48
    clear t49
    clear t50
    clear t51
    clear t52
    clear t53
    refine T_ite (fun h87 => ?_) (fun h87 => ?_)
    · refine T_if1 (by decide +kernel) ?_
      refine T_useI (sf_X12_laysSide_309 hfu s61 c62 a1 a2 (by omega) (by omega) r84 (by first | exact r81 | exact y_K.B r85 (by omega) (by omega)) (by first | exact y_L.cg r80 (by omega) | exact y_K.L r85 (by omega) (by omega)) r82 (by omega) (by omega)) (fun v93 s88 hq => ?_)
      obtain ⟨c89, f90, o94, o95, ⟨x92, rfl, b96, b97, o98⟩⟩ := hq
      refine T_vI ?_
      have f91 := z_Fr.tr (R := R_X12_side_309) f64 f90 rs_X12_laysSide_309__X12_side_309
      have t99 : s88 309 20 = s 309 20 := (f90 309 20 (by decide)).trans t72
      have t100 : s88 309 36 = s 309 36 := (f90 309 36 (by decide)).trans t73
      have t101 : s88 309 43 = s 309 43 := (f90 309 43 (by decide)).trans t74
      have t102 : s88 309 44 = s 309 44 := (f90 309 44 (by decide)).trans t75
      have t103 : s88 309 58 = s 309 58 := (f90 309 58 (by decide)).trans t76
      have t104 : s88 316 0 = s 316 0 := (f90 316 0 (by decide)).trans t77
      have t105 : s88 329 0 = s 329 0 := (f90 329 0 (by decide)).trans t78
      have t106 : s88 329 1 = s 329 1 := (f90 329 1 (by decide)).trans t79
      have r107 := y_L.fr r80 (f90 309 20 (by decide)) (fun b => f90 3438 b (nr_X12_laysSide_309__3438 b))
      have r108 := y_BK.fr r81 (by omega) (f90 309 20 (by decide)) (f90 309 58 (by decide)) (fun b => f90 3220 b (nr_X12_laysSide_309__3220 b)) (fun a b h => f90 a b (nz_X12_laysSide_309__3452_3651 a b h))
      have r109 := y_TA.fr r82 (fun a b h => f90 a b (nz_X12_laysSide_309__316_328 a b h)) (fun a b h => f90 a b (nz_X12_laysSide_309__346_358 a b h)) (fun a b h => f90 a b (nz_X12_laysSide_309__361_373 a b h))
      have r110 := y_DD.fr r83 (f90 329 0 (by decide)) (f90 329 1 (by decide)) (fun b => f90 359 b (nr_X12_laysSide_309__359 b)) (fun b => f90 374 b (nr_X12_laysSide_309__374 b))
      have r111 := y_B.fr r84 (f90 309 20 (by decide)) (f90 316 0 (by decide)) (fun b => f90 3220 b (nr_X12_laysSide_309__3220 b)) (fun b => f90 3221 b (nr_X12_laysSide_309__3221 b)) (fun b => f90 3222 b (nr_X12_laysSide_309__3222 b)) (fun b => f90 361 b (nr_X12_laysSide_309__361 b))
      have r112 := y_K.fr r85 (by omega) (by omega) (f90 309 44 (by decide)) (f90 309 20 (by decide)) (f90 309 58 (by decide)) (fun b => f90 3438 b (nr_X12_laysSide_309__3438 b)) (fun b => f90 3220 b (nr_X12_laysSide_309__3220 b)) (fun a b h => f90 a b (nz_X12_laysSide_309__3452_3651 a b h))
      have r113 := y_KM.fr r86 (f90 309 20 (by decide)) (f90 309 36 (by decide)) (f90 309 38 (by decide)) (f90 309 39 (by decide)) (fun b => f90 312 b (nr_X12_laysSide_309__312 b)) (fun b => f90 331 b (nr_X12_laysSide_309__331 b)) (fun b => f90 346 b (nr_X12_laysSide_309__346 b)) (fun b => f90 361 b (nr_X12_laysSide_309__361 b)) (fun b => f90 391 b (nr_X12_laysSide_309__391 b)) (fun a b h => f90 a b (nz_X12_laysSide_309__407_606 a b h)) (fun a b h => f90 a b (nz_X12_laysSide_309__3220_3223 a b h)) (fun a b h => f90 a b (nz_X12_laysSide_309__3235_3437 a b h))
      clear t72
      clear t73
      clear t74
      clear t75
      clear t76
      clear t77
      clear t78
      clear t79
      refine T_leq (fun x114 e115 => ?_)
      first | (have w116 := z_wx e115 (by omega)) | (have w116 := z_wr e115)
      refine T_leq (fun x117 e118 => ?_)
      first | (have w119 := z_wx e118 (by omega)) | (have w119 := z_wr e118)
      exact sj_X12_side_309K_J94 hfu r0 s88 c89 f91 x117 (by omega) r109 (by first | exact r110 | exact y_DD.z (by omega) (by omega)) r111 (by first | exact r112 | exact y_K.b0 (by omega) | exact y_K.k0 (by omega) | exact y_K.bk (by omega) | exact y_K.mk r107 (by omega) r108) (by first | exact r113 | exact y_KM.z (by omega))
    · exact sj_X12_side_309K_J94 hfu r0 s61 c62 f64 x65 (by omega) r82 (by first | exact r83 | exact y_DD.z (by omega) (by omega)) r84 (by first | exact r85 | exact y_K.b0 (by omega) | exact y_K.k0 (by omega) | exact y_K.bk (by omega) | exact y_K.mk r80 (by omega) r81) (by first | exact r86 | exact y_KM.z (by omega))
  · exact sj_X12_side_309K_J59 hfu r0 s13 c14 f16 r34 (by first | exact r35 | exact y_DD.z (by omega) (by omega)) r36 (by first | exact r37 | exact y_K.b0 (by omega) | exact y_K.k0 (by omega) | exact y_K.bk (by omega) | exact y_K.mk r32 (by omega) r33) (by first | exact r38 | exact y_KM.z (by omega))
theorem sj_X12_side_309K_J46 {fu : Nat} (hfu : 8589934592 ≤ fu) (r0 s : z_M) (c : z_CI s) (f : z_Fr R_X12_side_309 r0 s) (a1 : Int) (a2 : Int) (a3 : Int) (b1 : -2147483648 ≤ a1 ∧ a1 ≤ 2147483647) (b2 : -2147483648 ≤ a2 ∧ a2 ≤ 2147483647) (b3 : -2147483648 ≤ a3 ∧ a3 ≤ 2147483647) (p0 : 0 ≤ a1 ∧ a1 < s 309 44) (p1 : y_L s (s 309 44)) (p2 : y_BK s) (p3 : y_TA s) (p4 : y_DD s) (p5 : y_B s) (p6 : y_K s) (p7 : y_KM s) : z_T (fX12_side_J46 fu s 309 a1 a2 a3 309) (P_X12_side_309K r0) := by
  refine T_of (fX12_side_J46.eq_1 ..) ?_
  have u1 := CI_b c (k := 309) (j := 20) bd_309_20
  have u2 := CI_b c (k := 309) (j := 36) bd_309_36
  have u3 := CI_b c (k := 309) (j := 43) bd_309_43
  have u4 := CI_b c (k := 309) (j := 44) bd_309_44
  have u5 := CI_b c (k := 309) (j := 58) bd_309_58
  have u6 := CI_b c (k := 316) (j := 0) bd_316_0
  have u7 := CI_b c (k := 329) (j := 0) bd_329_0
  have u8 := CI_b c (k := 329) (j := 1) bd_329_1
  have t9 : s 309 20 = r0 309 20 := f 309 20 (by decide)
  have t10 : s 316 0 = r0 316 0 := f 316 0 (by decide)
  have t11 : s 329 0 = r0 329 0 := f 329 0 (by decide)
  have t12 : s 329 1 = r0 329 1 := f 329 1 (by decide)
  exact sj_X12_side_309K_J51 hfu r0 s c f a1 a2 a3 1 (by omega) (by omega) (by omega) (by omega) (by omega) (by omega) (by first | exact y_L.cg p1 (by omega) | exact y_K.L p6 (by omega) (by omega)) (by first | exact p2 | exact y_K.B p6 (by omega) (by omega)) p3 (by first | exact p4 | exact y_DD.z (by omega) (by omega)) p5 (by first | exact p6 | exact y_K.b0 (by omega) | exact y_K.k0 (by omega) | exact y_K.bk (by omega) | exact y_K.mk p1 (by omega) p2) (by first | exact p7 | exact y_KM.z (by omega))
theorem sj_X12_side_309K_J19 {fu : Nat} (hfu : 8589934592 ≤ fu) (r0 s : z_M) (c : z_CI s) (f : z_Fr R_X12_side_309 r0 s) (a1 : Int) (a2 : Int) (a3 : Int) (t1 : Int) (b1 : -2147483648 ≤ a1 ∧ a1 ≤ 2147483647) (b2 : -2147483648 ≤ a2 ∧ a2 ≤ 2147483647) (b3 : -2147483648 ≤ a3 ∧ a3 ≤ 2147483647) (d1 : 0 ≤ t1 ∧ t1 ≤ 1) (p0 : t1 = 1 ∨ (0 ≤ a1 ∧ a1 < s 309 44)) (p1 : y_L s (s 309 44)) (p2 : y_BK s) (p3 : y_TA s) (p4 : y_DD s) (p5 : y_B s) (p6 : y_K s) (p7 : y_KM s) : z_T (fX12_side_J19 fu s 309 a1 a2 a3 309 t1) (P_X12_side_309K r0) := by
  refine T_of (fX12_side_J19.eq_1 ..) ?_
  have u1 := CI_b c (k := 309) (j := 20) bd_309_20
  have u2 := CI_b c (k := 309) (j := 36) bd_309_36
  have u3 := CI_b c (k := 309) (j := 43) bd_309_43
  have u4 := CI_b c (k := 309) (j := 44) bd_309_44
  have u5 := CI_b c (k := 309) (j := 58) bd_309_58
  have u6 := CI_b c (k := 316) (j := 0) bd_316_0
  have u7 := CI_b c (k := 329) (j := 0) bd_329_0
  have u8 := CI_b c (k := 329) (j := 1) bd_329_1
  have t9 : s 309 20 = r0 309 20 := f 309 20 (by decide)
  have t10 : s 316 0 = r0 316 0 := f 316 0 (by decide)
  have t11 : s 329 0 = r0 329 0 := f 329 0 (by decide)
  have t12 : s 329 1 = r0 329 1 := f 329 1 (by decide)
  refine T_if1 (by decide +kernel) ?_
  refine T_useI (sf_X12_bad_309 hfu s c t1 1 0 (by omega) (by omega) (by omega) (by omega)) (fun v18 s13 hq => ?_)
  obtain ⟨c14, f15, o19, ⟨x17, rfl, b20, b21, o22, o23⟩⟩ := hq
  refine T_vI ?_
  have f16 := z_Fr.tr (R := R_X12_side_309) f f15 rs_X12_bad_309__X12_side_309
  have t24 : s13 309 20 = s 309 20 := f15 309 20 (by decide)
  have t25 : s13 309 36 = s 309 36 := f15 309 36 (by decide)
  have t26 : s13 309 43 = s 309 43 := f15 309 43 (by decide)
  have t27 : s13 309 44 = s 309 44 := f15 309 44 (by decide)
  have t28 : s13 309 58 = s 309 58 := f15 309 58 (by decide)
  have t29 : s13 316 0 = s 316 0 := f15 316 0 (by decide)
  have t30 : s13 329 0 = s 329 0 := f15 329 0 (by decide)
  have t31 : s13 329 1 = s 329 1 := f15 329 1 (by decide)
  have r32 := y_L.fr p1 (f15 309 20 (by decide)) (fun b => f15 3438 b (nr_X12_bad_309__3438 b))
  have r33 := y_BK.fr p2 (by omega) (f15 309 20 (by decide)) (f15 309 58 (by decide)) (fun b => f15 3220 b (nr_X12_bad_309__3220 b)) (fun a b h => f15 a b (nz_X12_bad_309__3452_3651 a b h))
  have r34 := y_TA.fr p3 (fun a b h => f15 a b (nz_X12_bad_309__316_328 a b h)) (fun a b h => f15 a b (nz_X12_bad_309__346_358 a b h)) (fun a b h => f15 a b (nz_X12_bad_309__361_373 a b h))
  have r35 := y_DD.fr p4 (f15 329 0 (by decide)) (f15 329 1 (by decide)) (fun b => f15 359 b (nr_X12_bad_309__359 b)) (fun b => f15 374 b (nr_X12_bad_309__374 b))
  have r36 := y_B.fr p5 (f15 309 20 (by decide)) (f15 316 0 (by decide)) (fun b => f15 3220 b (nr_X12_bad_309__3220 b)) (fun b => f15 3221 b (nr_X12_bad_309__3221 b)) (fun b => f15 3222 b (nr_X12_bad_309__3222 b)) (fun b => f15 361 b (nr_X12_bad_309__361 b))
  have r37 := y_K.fr p6 (by omega) (by omega) (f15 309 44 (by decide)) (f15 309 20 (by decide)) (f15 309 58 (by decide)) (fun b => f15 3438 b (nr_X12_bad_309__3438 b)) (fun b => f15 3220 b (nr_X12_bad_309__3220 b)) (fun a b h => f15 a b (nz_X12_bad_309__3452_3651 a b h))
  have r38 := y_KM.fr p7 (f15 309 20 (by decide)) (f15 309 36 (by decide)) (f15 309 38 (by decide)) (f15 309 39 (by decide)) (fun b => f15 312 b (nr_X12_bad_309__312 b)) (fun b => f15 331 b (nr_X12_bad_309__331 b)) (fun b => f15 346 b (nr_X12_bad_309__346 b)) (fun b => f15 361 b (nr_X12_bad_309__361 b)) (fun b => f15 391 b (nr_X12_bad_309__391 b)) (fun a b h => f15 a b (nz_X12_bad_309__407_606 a b h)) (fun a b h => f15 a b (nz_X12_bad_309__3220_3223 a b h)) (fun a b h => f15 a b (nz_X12_bad_309__3235_3437 a b h))
  refine T_ite (fun h39 => ?_) (fun h39 => ?_)
  · exact sj_X12_side_309K_J59 hfu r0 s13 c14 f16 r34 (by first | exact r35 | exact y_DD.z (by omega) (by omega)) r36 (by first | exact r37 | exact y_K.b0 (by omega) | exact y_K.k0 (by omega) | exact y_K.bk (by omega) | exact y_K.mk r32 (by omega) r33) (by first | exact r38 | exact y_KM.z (by omega))
  · refine T_useI (sf_X12_in hfu s13 c14 a2 0 1 (by omega) (by omega) (by omega)) (fun v45 s40 hq => ?_)
    obtain ⟨c41, f42, ⟨x44, rfl, b46, b47, o48⟩⟩ := hq
    refine T_vI ?_
    have q49 := z_Fr.eq (fun a b h => h) f42
    subst q49
    refine T_ite (fun h50 => ?_) (fun h50 => ?_)
    · exact sj_X12_side_309K_J46 hfu r0 s13 c14 f16 a1 a2 a3 (by omega) (by omega) (by omega) (by omega) (by first | exact y_L.cg r32 (by omega) | exact y_K.L r37 (by omega) (by omega)) (by first | exact r33 | exact y_K.B r37 (by omega) (by omega)) r34 (by first | exact r35 | exact y_DD.z (by omega) (by omega)) r36 (by first | exact r37 | exact y_K.b0 (by omega) | exact y_K.k0 (by omega) | exact y_K.bk (by omega) | exact y_K.mk r32 (by omega) r33) (by first | exact r38 | exact y_KM.z (by omega))
    · refine T_useI (sf_X12_in hfu s13 c14 a3 0 1 (by omega) (by omega) (by omega)) (fun v56 s51 hq => ?_)
      obtain ⟨c52, f53, ⟨x55, rfl, b57, b58, o59⟩⟩ := hq
      refine T_vI ?_
      have q60 := z_Fr.eq (fun a b h => h) f53
      subst q60
      refine T_ite (fun h61 => ?_) (fun h61 => ?_)
      · exact sj_X12_side_309K_J51 hfu r0 s13 c14 f16 a1 a2 a3 0 (by omega) (by omega) (by omega) (by omega) (by omega) (by omega) (by first | exact y_L.cg r32 (by omega) | exact y_K.L r37 (by omega) (by omega)) (by first | exact r33 | exact y_K.B r37 (by omega) (by omega)) r34 (by first | exact r35 | exact y_DD.z (by omega) (by omega)) r36 (by first | exact r37 | exact y_K.b0 (by omega) | exact y_K.k0 (by omega) | exact y_K.bk (by omega) | exact y_K.mk r32 (by omega) r33) (by first | exact r38 | exact y_KM.z (by omega))
      · exact sj_X12_side_309K_J46 hfu r0 s13 c14 f16 a1 a2 a3 (by omega) (by omega) (by omega) (by omega) (by first | exact y_L.cg r32 (by omega) | exact y_K.L r37 (by omega) (by omega)) (by first | exact r33 | exact y_K.B r37 (by omega) (by omega)) r34 (by first | exact r35 | exact y_DD.z (by omega) (by omega)) r36 (by first | exact r37 | exact y_K.b0 (by omega) | exact y_K.k0 (by omega) | exact y_K.bk (by omega) | exact y_K.mk r32 (by omega) r33) (by first | exact r38 | exact y_KM.z (by omega))
