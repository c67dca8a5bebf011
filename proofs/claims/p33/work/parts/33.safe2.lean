/-! SAFETY, further (by program) -/
abbrev R_X3_build_258 (a b : Int) : Prop := (222 ≤ a ∧ a ≤ 222) ∨ (225 ≤ a ∧ a ≤ 239) ∨ (260 ≤ a ∧ a ≤ 278) ∨ (281 ≤ a ∧ a ≤ 295) ∨ (a = 220 ∧ (b = 4 ∨ b = 5)) ∨ (a = 223 ∧ (b = 9)) ∨ (a = 279 ∧ (b = 9))
abbrev P_X3_build_258 (r0 : z_M) : z_V → z_M → Prop := fun v s' => z_CI s' ∧ z_Fr R_X3_build_258 r0 s' ∧ (v = vN)
theorem rs_X0_clear_279__X3_build_258 (a b : Int) (h : R_X0_clear_279 a b) : R_X3_build_258 a b := (Or.inr (Or.inr (Or.inr (Or.inr (Or.inr (Or.inr (⟨h.1, by omega⟩)))))))
theorem rs_X3_measureLine_258__X3_build_258 (a b : Int) (h : R_X3_measureLine_258 a b) : R_X3_build_258 a b := (h.elim (fun h => (Or.inl (⟨by omega, by omega⟩))) (fun h => (h.elim (fun h => (Or.inr (Or.inl (⟨by omega, by omega⟩)))) (fun h => (h.elim (fun h => (Or.inr (Or.inr (Or.inl (⟨by omega, by omega⟩))))) (fun h => (h.elim (fun h => (Or.inr (Or.inr (Or.inr (Or.inl (⟨by omega, by omega⟩)))))) (fun h => (h.elim (fun h => (Or.inr (Or.inr (Or.inr (Or.inr (Or.inl (⟨h.1, by omega⟩))))))) (fun h => (h.elim (fun h => (Or.inr (Or.inr (Or.inr (Or.inr (Or.inr (Or.inl (⟨h.1, by omega⟩)))))))) (fun h => (Or.inr (Or.inr (Or.inr (Or.inr (Or.inr (Or.inr (⟨h.1, by omega⟩)))))))))))))))))))
theorem rs_X3_placeUnits_258__X3_build_258 (a b : Int) (h : R_X3_placeUnits_258 a b) : R_X3_build_258 a b := (Or.inr (Or.inr (Or.inl (⟨by omega, by omega⟩))))
theorem sl_X3_build_258_L9 {fu : Nat} (hfu : 8589934592 ≤ fu) (r0 : z_M) {k : z_M → z_O} (hk : ∀ (s' : z_M), z_CI s' → z_Fr R_X3_build_258 r0 s' → z_T (k s') (P_X3_build_258 r0)) : ∀ (F : Nat) (s : z_M) (a1 : Int), z_CI s → z_Fr R_X3_build_258 r0 s → (-2147483648 ≤ a1 ∧ a1 ≤ 2147483647) → (2147483647 - a1 < (F : Int)) → z_T (fX3_build_L9 fu 258 F s a1 k) (P_X3_build_258 r0) := by
  intro F
  induction F with
  | zero =>
    intro s a1 c f b1 hm
    have u30 := CI_b c (k := 240) (j := 6) bd_240_6
    have u31 := CI_b c (k := 279) (j := 9) bd_279_9
    exfalso; omega
  | succ F ih =>
    intro s a1 c f b1 hm
    refine T_of (fX3_build_L9.eq_2 ..) ?_
    have u1 := CI_b c (k := 240) (j := 6) bd_240_6
    have u2 := CI_b c (k := 279) (j := 9) bd_279_9
    refine T_if1 (by decide +kernel) ?_
    refine T_let 240 (by decide +kernel) ?_
    refine T_if1 (by decide +kernel) ?_
    refine T_leq (fun x3 e4 => ?_)
    have u5 := CI_b c (k := 240) (j := 6) bd_240_6
    refine T_ite (fun h6 => ?_) (fun h6 => ?_)
    · exact hk s c f
    · refine T_if1 (by decide +kernel) ?_
      refine T_useN (sf_X3_measureLine_258 hfu s c a1 (by omega)) (fun v12 s7 hq => ?_)
      obtain ⟨c8, f9, rfl⟩ := hq
      refine T_vN ?_
      have f10 := z_Fr.tr (R := R_X3_build_258) f f9 rs_X3_measureLine_258__X3_build_258
      have t15 : s7 240 6 = s 240 6 := f9 240 6 (by decide)
      have u16 := CI_b c8 (k := 279) (j := 9) bd_279_9
      refine T_if1 (by decide +kernel) ?_
      refine T_useN (sf_X3_placeUnits_258 hfu s7 c8 a1 (by omega)) (fun v22 s17 hq => ?_)
      obtain ⟨c18, f19, rfl⟩ := hq
      refine T_vN ?_
      have f20 := z_Fr.tr (R := R_X3_build_258) f10 f19 rs_X3_placeUnits_258__X3_build_258
      have t25 : s17 240 6 = s7 240 6 := f19 240 6 (by decide)
      have t26 : s17 279 9 = s7 279 9 := f19 279 9 (by decide)
      refine T_leq (fun x27 e28 => ?_)
      have w29 := z_wb e28
      exact ih s17 x27 c18 f20 (by omega) (by omega)
theorem sf_X3_build_258 {fu : Nat} (hfu : 8589934592 ≤ fu) (r0 : z_M) (c0 : z_CI r0) : z_T (fX3_build fu r0 258) (P_X3_build_258 r0) := by
  refine T_of (fX3_build.eq_1 ..) ?_
  refine T_if1 (by decide +kernel) ?_
  refine T_let 279 (by decide +kernel) ?_
  refine T_if1 (by decide +kernel) ?_
  refine T_useN (sf_X0_clear_279 hfu r0 c0) (fun v6 s1 hq => ?_)
  obtain ⟨c2, f3, rfl⟩ := hq
  refine T_vN ?_
  have f4 := z_Fr.tr (R := R_X3_build_258) z_Fr.rf f3 rs_X0_clear_279__X3_build_258
  have t9 : s1 240 6 = r0 240 6 := f3 240 6 (by decide)
  have u10 := CI_b c2 (k := 279) (j := 9) bd_279_9
  refine sl_X3_build_258_L9 hfu r0 (fun s11 c12 f13 => ?_) fu s1 0 c2 f4 (by omega) (by omega)
  have u14 := CI_b c12 (k := 240) (j := 6) bd_240_6
  have u15 := CI_b c12 (k := 279) (j := 9) bd_279_9
  refine T_if1 (by decide +kernel) ?_
  refine T_let 277 (by decide +kernel) ?_
  refine T_if1 (by decide +kernel) ?_
  refine T_let 240 (by decide +kernel) ?_
  refine T_if1 (by decide +kernel) ?_
  refine T_leq (fun x16 e17 => ?_)
  have u18 := CI_b c12 (k := 240) (j := 6) bd_240_6
  refine T_if1 (by decide +kernel) ?_
  refine T_let 279 (by decide +kernel) ?_
  refine T_if1 (by decide +kernel) ?_
  refine T_leq (fun x19 e20 => ?_)
  have u21 := CI_b c12 (k := 279) (j := 9) bd_279_9
  refine T_if1 (by decide +kernel) ?_
  refine T_put (by decide +kernel) (c := 278) (by decide +kernel) bdr_278 (by omega) c12 (fun s22 e25 c23 g26 => ?_)
  have f24 := z_Fr.up (R := R_X3_build_258) f13 g26 (fun _ => (Or.inr (Or.inr (Or.inl (⟨by decide, by decide⟩)))))
  have t27 : s22 240 6 = s11 240 6 := g26 240 6 (by decide)
  have t28 : s22 279 9 = s11 279 9 := g26 279 9 (by decide)
  exact T_ret ⟨c23, f24, rfl⟩
abbrev R_X3_lineCount_258 (a b : Int) : Prop := False
abbrev P_X3_lineCount_258 (r0 : z_M) : z_V → z_M → Prop := fun v s' => z_CI s' ∧ z_Fr R_X3_lineCount_258 r0 s' ∧ (∃ x, v = vI x ∧ 0 ≤ x ∧ x ≤ 200)
theorem sf_X3_lineCount_258 {fu : Nat} (hfu : 8589934592 ≤ fu) (r0 : z_M) (c0 : z_CI r0) : z_T (fX3_lineCount fu r0 258) (P_X3_lineCount_258 r0) := by
  refine T_of (fX3_lineCount.eq_1 ..) ?_
  refine T_if1 (by decide +kernel) ?_
  refine T_let 240 (by decide +kernel) ?_
  refine T_if1 (by decide +kernel) ?_
  refine T_leq (fun x1 e2 => ?_)
  have u3 := CI_b c0 (k := 240) (j := 6) bd_240_6
  exact T_ret ⟨c0, z_Fr.rf, ⟨x1, rfl, by omega, by omega⟩⟩
abbrev R_X0_letters_279 (a b : Int) : Prop := False
abbrev P_X0_letters_279 (r0 : z_M) : z_V → z_M → Prop := fun v s' => z_CI s' ∧ z_Fr R_X0_letters_279 r0 s' ∧ (∃ x, v = vI x ∧ -2147483648 ≤ x ∧ x ≤ 2147483647)
theorem sj_X0_letters_279_J23 {fu : Nat} (hfu : 8589934592 ≤ fu) (r0 s : z_M) (c : z_CI s) (f : z_Fr R_X0_letters_279 r0 s) (t0 : Int) (d0 : -2147483648 ≤ t0 ∧ t0 ≤ 2147483647) : z_T (fX0_letters_J23 fu s t0) (P_X0_letters_279 r0) := by
  refine T_of (fX0_letters_J23.eq_1 ..) ?_
  exact T_ret ⟨c, f, ⟨t0, rfl, by omega, by omega⟩⟩
theorem sf_X0_letters_279 {fu : Nat} (hfu : 8589934592 ≤ fu) (r0 : z_M) (c0 : z_CI r0) (a1 : Int) (a2 : Int) (b1 : -2147483648 ≤ a1 ∧ a1 ≤ 2147483647) (b2 : -2147483648 ≤ a2 ∧ a2 ≤ 2147483647) : z_T (fX0_letters fu r0 279 a1 a2) (P_X0_letters_279 r0) := by
  refine T_of (fX0_letters.eq_1 ..) ?_
  refine T_ite (fun h1 => ?_) (fun h1 => ?_)
  · refine T_if1 (by decide +kernel) ?_
    refine T_let 294 (by decide +kernel) ?_
    refine T_if1 (by decide +kernel) ?_
    refine T_get (by decide +kernel) (c := 295) (by decide +kernel) bdr_295 (by decide) c0 (fun x2 e3 b4 w5 => ?_)
    have l6 : z_ln 294 = 200 := by decide +kernel
    exact sj_X0_letters_279_J23 hfu r0 r0 c0 z_Fr.rf x2 (by omega)
  · refine T_if1 (by decide +kernel) ?_
    refine T_let 292 (by decide +kernel) ?_
    refine T_if1 (by decide +kernel) ?_
    refine T_get (by decide +kernel) (c := 293) (by decide +kernel) bdr_293 (by decide) c0 (fun x7 e8 b9 w10 => ?_)
    have l11 : z_ln 292 = 200 := by decide +kernel
    exact sj_X0_letters_279_J23 hfu r0 r0 c0 z_Fr.rf x7 (by omega)
abbrev R_X3_lettersBeside_258 (a b : Int) : Prop := False
abbrev P_X3_lettersBeside_258 (r0 : z_M) : z_V → z_M → Prop := fun v s' => z_CI s' ∧ z_Fr R_X3_lettersBeside_258 r0 s' ∧ (∃ x, v = vI x ∧ -2147483648 ≤ x ∧ x ≤ 2147483647)
theorem sl_X3_lettersBeside_258_L12 {fu : Nat} (hfu : 8589934592 ≤ fu) (r0 : z_M) (a1 : Int) (a2 : Int) (b1 : -2147483648 ≤ a1 ∧ a1 ≤ 2147483647) (b2 : -2147483648 ≤ a2 ∧ a2 ≤ 2147483647) {k : z_M → Int → z_O} (hk : ∀ (s' : z_M) (v3 : Int), z_CI s' → z_Fr R_X3_lettersBeside_258 r0 s' → (-2147483648 ≤ v3 ∧ v3 ≤ 2147483647) → z_T (k s' v3) (P_X3_lettersBeside_258 r0)) : ∀ (F : Nat) (s : z_M) (a3 : Int) (a4 : Int), z_CI s → z_Fr R_X3_lettersBeside_258 r0 s → (-2147483648 ≤ a3 ∧ a3 ≤ 2147483647) → (-2147483648 ≤ a4 ∧ a4 ≤ 2147483647) → (2147483647 - a4 < (F : Int)) → z_T (fX3_lettersBeside_L12 fu 258 a1 a2 F s a3 a4 k) (P_X3_lettersBeside_258 r0) := by
  intro F
  induction F with
  | zero =>
    intro s a3 a4 c f b3 b4 hm
    exfalso; omega
  | succ F ih =>
    intro s a3 a4 c f b3 b4 hm
    refine T_of (fX3_lettersBeside_L12.eq_2 ..) ?_
    refine T_if1 (by decide +kernel) ?_
    refine T_let 277 (by decide +kernel) ?_
    refine T_leq (fun x1 e2 => ?_)
    have w3 := z_wr e2
    refine T_if1 (by decide +kernel) ?_
    refine T_get (by decide +kernel) (c := 278) (by decide +kernel) bdr_278 (by decide) c (fun x4 e5 b6 w7 => ?_)
    have l8 : z_ln 277 = 201 := by decide +kernel
    refine T_ite (fun h9 => ?_) (fun h9 => ?_)
    · exact hk s a3 c f (by omega)
    · refine T_if1 (by decide +kernel) ?_
      refine T_let 279 (by decide +kernel) ?_
      refine T_if1 (by decide +kernel) ?_
      refine T_useI (sf_X0_letters_279 hfu s c a4 a2 (by omega) (by omega)) (fun v15 s10 hq => ?_)
      obtain ⟨c11, f12, ⟨x14, rfl, b16, b17⟩⟩ := hq
      refine T_vI ?_
      have f13 := z_Fr.tr (R := R_X3_lettersBeside_258) f f12 (fun a b h => absurd h not_false)
      refine T_leq (fun x18 e19 => ?_)
      have w20 := z_wr e19
      refine T_leq (fun x21 e22 => ?_)
      have w23 := z_wb e22
      exact ih s10 x18 x21 c11 f13 (by omega) (by omega) (by omega)
theorem sf_X3_lettersBeside_258 {fu : Nat} (hfu : 8589934592 ≤ fu) (r0 : z_M) (c0 : z_CI r0) (a1 : Int) (a2 : Int) (b1 : -2147483648 ≤ a1 ∧ a1 ≤ 2147483647) (b2 : -2147483648 ≤ a2 ∧ a2 ≤ 2147483647) : z_T (fX3_lettersBeside fu r0 258 a1 a2) (P_X3_lettersBeside_258 r0) := by
  refine T_of (fX3_lettersBeside.eq_1 ..) ?_
  refine T_if1 (by decide +kernel) ?_
  refine T_let 277 (by decide +kernel) ?_
  refine T_if1 (by decide +kernel) ?_
  refine T_get (by decide +kernel) (c := 278) (by decide +kernel) bdr_278 (by decide) c0 (fun x1 e2 b3 w4 => ?_)
  have l5 : z_ln 277 = 201 := by decide +kernel
  refine sl_X3_lettersBeside_258_L12 hfu r0 a1 a2 (by omega) (by omega) (fun s6 y9 c7 f8 b10 => ?_) fu r0 0 x1 c0 z_Fr.rf (by omega) (by omega) (by omega)
  exact T_ret ⟨c7, f8, ⟨y9, rfl, by omega, by omega⟩⟩
abbrev R_X3_firstSign_258 (a b : Int) : Prop := False
abbrev P_X3_firstSign_258 (r0 : z_M) : z_V → z_M → Prop := fun v s' => z_CI s' ∧ z_Fr R_X3_firstSign_258 r0 s' ∧ (∃ x, v = vI x ∧ 0 ≤ x ∧ x ≤ 200)
theorem sj_X3_firstSign_258_J44 {fu : Nat} (hfu : 8589934592 ≤ fu) (r0 s : z_M) (c : z_CI s) (f : z_Fr R_X3_firstSign_258 r0 s) (t0 : Int) (d0 : 0 ≤ t0 ∧ t0 ≤ 200) : z_T (fX3_firstSign_J44 fu s t0) (P_X3_firstSign_258 r0) := by
  refine T_of (fX3_firstSign_J44.eq_1 ..) ?_
  have u1 := CI_b c (k := 6) (j := 6) bd_6_6
  have u2 := CI_b c (k := 191) (j := 16) bd_191_16
  exact T_ret ⟨c, f, ⟨t0, rfl, by omega, by omega⟩⟩
theorem sf_X3_firstSign_258 {fu : Nat} (hfu : 8589934592 ≤ fu) (r0 : z_M) (c0 : z_CI r0) (a1 : Int) (b1 : -2147483648 ≤ a1 ∧ a1 ≤ 2147483647) : z_T (fX3_firstSign fu r0 258 a1) (P_X3_firstSign_258 r0) := by
  refine T_of (fX3_firstSign.eq_1 ..) ?_
  refine T_if1 (by decide +kernel) ?_
  refine T_let 240 (by decide +kernel) ?_
  refine T_if1 (by decide +kernel) ?_
  refine T_let 247 (by decide +kernel) ?_
  refine T_if1 (by decide +kernel) ?_
  refine T_get (by decide +kernel) (c := 248) (by decide +kernel) bdr_248 (by decide) c0 (fun x1 e2 b3 w4 => ?_)
  have l5 : z_ln 247 = 201 := by decide +kernel
  refine T_if1 (by decide +kernel) ?_
  refine T_let 191 (by decide +kernel) ?_
  refine T_if1 (by decide +kernel) ?_
  refine T_leq (fun x6 e7 => ?_)
  have u8 := CI_b c0 (k := 191) (j := 16) bd_191_16
  refine T_ite (fun h9 => ?_) (fun h9 => ?_)
  · refine T_if1 (by decide +kernel) ?_
    refine T_let 6 (by decide +kernel) ?_
    refine T_if1 (by decide +kernel) ?_
    refine T_leq (fun x10 e11 => ?_)
    have u12 := CI_b c0 (k := 6) (j := 6) bd_6_6
    exact sj_X3_firstSign_258_J44 hfu r0 r0 c0 z_Fr.rf x10 (by omega)
  · refine T_if1 (by decide +kernel) ?_
    refine T_let 191 (by decide +kernel) ?_
    refine T_if1 (by decide +kernel) ?_
    refine T_let 194 (by decide +kernel) ?_
    refine T_if1 (by decide +kernel) ?_
    refine T_get (by decide +kernel) (c := 195) (by decide +kernel) bdr_195 (by decide) c0 (fun x13 e14 b15 w16 => ?_)
    have l17 : z_ln 194 = 200 := by decide +kernel
    exact sj_X3_firstSign_258_J44 hfu r0 r0 c0 z_Fr.rf x13 (by omega)
abbrev R_X10_markBit (a b : Int) : Prop := False
abbrev P_X10_markBit (r0 : z_M) : z_V → z_M → Prop := fun v s' => z_CI s' ∧ z_Fr R_X10_markBit r0 s' ∧ (∃ x, v = vI x ∧ -2147483648 ≤ x ∧ x ≤ 2147483647)
abbrev R_X10_markOf_191 (a b : Int) : Prop := False
abbrev P_X10_markOf_191 (r0 : z_M) : z_V → z_M → Prop := fun v s' => z_CI s' ∧ z_Fr R_X10_markOf_191 r0 s' ∧ (∃ x, v = vI x ∧ -2147483648 ≤ x ∧ x ≤ 2147483647)
theorem sj_X10_markOf_191_J77 {fu : Nat} (hfu : 8589934592 ≤ fu) (r0 s : z_M) (c : z_CI s) (f : z_Fr R_X10_markOf_191 r0 s) (t0 : Int) (d0 : 0 ≤ t0 ∧ t0 ≤ 1) : z_T (fX10_markOf_J77 fu s t0) (P_X10_markOf_191 r0) := by
  refine T_of (fX10_markOf_J77.eq_1 ..) ?_
  exact T_ret ⟨c, f, ⟨t0, rfl, by omega, by omega⟩⟩
theorem sj_X10_markOf_191_J76 {fu : Nat} (hfu : 8589934592 ≤ fu) (r0 s : z_M) (c : z_CI s) (f : z_Fr R_X10_markOf_191 r0 s) : z_T (fX10_markOf_J76 fu s) (P_X10_markOf_191 r0) := by
  refine T_of (fX10_markOf_J76.eq_1 ..) ?_
  exact sj_X10_markOf_191_J77 hfu r0 s c f 0 (by omega)
theorem sj_X10_markOf_191_J50 {fu : Nat} (hfu : 8589934592 ≤ fu) (r0 s : z_M) (c : z_CI s) (f : z_Fr R_X10_markOf_191 r0 s) (t0 : Int) (d0 : 0 ≤ t0 ∧ t0 ≤ 1) : z_T (fX10_markOf_J50 fu s t0) (P_X10_markOf_191 r0) := by
  refine T_of (fX10_markOf_J50.eq_1 ..) ?_
  exact T_ret ⟨c, f, ⟨t0, rfl, by omega, by omega⟩⟩
theorem sf_X10_markOf_191 {fu : Nat} (hfu : 8589934592 ≤ fu) (r0 : z_M) (c0 : z_CI r0) (a1 : Int) (a2 : Int) (b1 : -2147483648 ≤ a1 ∧ a1 ≤ 2147483647) (b2 : -2147483648 ≤ a2 ∧ a2 ≤ 2147483647) : z_T (fX10_markOf fu r0 191 a1 a2) (P_X10_markOf_191 r0) := by
  refine T_of (fX10_markOf.eq_1 ..) ?_
  refine T_if1 (by decide +kernel) ?_
  refine T_let 6 (by decide +kernel) ?_
  refine T_if1 (by decide +kernel) ?_
  refine T_let 9 (by decide +kernel) ?_
  refine T_if1 (by decide +kernel) ?_
  refine T_get (by decide +kernel) (c := 10) (by decide +kernel) bdr_10 (by decide) c0 (fun x1 e2 b3 w4 => ?_)
  have l5 : z_ln 9 = 200 := by decide +kernel
  refine T_if1 (by decide +kernel) ?_
  refine T_let 214 (by decide +kernel) ?_
  refine T_if1 (by decide +kernel) ?_
  refine T_get (by decide +kernel) (c := 215) (by decide +kernel) bdr_215 (by decide) c0 (fun x6 e7 b8 w9 => ?_)
  have l10 : z_ln 214 = 200 := by decide +kernel
  refine T_if1 (by decide +kernel) ?_
  refine T_let 192 (by decide +kernel) ?_
  refine T_if1 (by decide +kernel) ?_
  refine T_get (by decide +kernel) (c := 193) (by decide +kernel) bdr_193 (by decide) c0 (fun x11 e12 b13 w14 => ?_)
  have l15 : z_ln 192 = 200 := by decide +kernel
  refine T_ite (fun h16 => ?_) (fun h16 => ?_)
  · refine T_ite (fun h17 => ?_) (fun h17 => ?_)
    · exact sj_X10_markOf_191_J76 hfu r0 r0 c0 z_Fr.rf
    · refine T_ite (fun h18 => ?_) (fun h18 => ?_)
      · exact sj_X10_markOf_191_J76 hfu r0 r0 c0 z_Fr.rf
      · refine T_if1 (by decide +kernel) ?_
        refine T_let 204 (by decide +kernel) ?_
        refine T_if1 (by decide +kernel) ?_
        refine T_get (by decide +kernel) (c := 205) (by decide +kernel) bdr_205 (by decide) c0 (fun x19 e20 b21 w22 => ?_)
        have l23 : z_ln 204 = 200 := by decide +kernel
        refine T_ite (fun h24 => ?_) (fun h24 => ?_)
        · exact sj_X10_markOf_191_J76 hfu r0 r0 c0 z_Fr.rf
        · exact sj_X10_markOf_191_J77 hfu r0 r0 c0 z_Fr.rf 1 (by omega)
  · refine T_bI ?_
    refine T_of (fX10_markBit.eq_1 ..) ?_
    refine T_ite (fun h25 => ?_) (fun h25 => ?_)
    · refine T_of (fX10_markBit_J9.eq_1 ..) ?_
      refine T_rI ?_
      refine T_leq (fun x26 e27 => ?_)
      have w28 : -2147483648 ≤ x26 ∧ x26 ≤ 2147483647 := by rw [← e27]; exact z_i32b _
      refine T_ite (fun h29 => ?_) (fun h29 => ?_)
      · exact sj_X10_markOf_191_J50 hfu r0 r0 c0 z_Fr.rf 0 (by omega)
      · exact sj_X10_markOf_191_J50 hfu r0 r0 c0 z_Fr.rf 1 (by omega)
    · refine T_of (fX10_markBit_J9.eq_1 ..) ?_
      refine T_rI ?_
      refine T_leq (fun x30 e31 => ?_)
      have w32 : -2147483648 ≤ x30 ∧ x30 ≤ 2147483647 := by rw [← e31]; exact z_i32b _
      refine T_ite (fun h33 => ?_) (fun h33 => ?_)
      · exact sj_X10_markOf_191_J50 hfu r0 r0 c0 z_Fr.rf 0 (by omega)
      · exact sj_X10_markOf_191_J50 hfu r0 r0 c0 z_Fr.rf 1 (by omega)
abbrev R_X10_marksOf_191 (a b : Int) : Prop := False
abbrev P_X10_marksOf_191 (r0 : z_M) : z_V → z_M → Prop := fun v s' => z_CI s' ∧ z_Fr R_X10_marksOf_191 r0 s' ∧ (∃ x, v = vI x ∧ -2147483648 ≤ x ∧ x ≤ 2147483647)
theorem sl_X10_marksOf_191_L6 {fu : Nat} (hfu : 8589934592 ≤ fu) (r0 : z_M) (a2 : Int) (a3 : Int) (b2 : (-1) ≤ a2 ∧ a2 ≤ 200) (b3 : -2147483648 ≤ a3 ∧ a3 ≤ 2147483647) {k : z_M → Int → z_O} (hk : ∀ (s' : z_M) (v4 : Int), z_CI s' → z_Fr R_X10_marksOf_191 r0 s' → (-2147483648 ≤ v4 ∧ v4 ≤ 2147483647) → z_T (k s' v4) (P_X10_marksOf_191 r0)) : ∀ (F : Nat) (s : z_M) (a4 : Int) (a5 : Int), z_CI s → z_Fr R_X10_marksOf_191 r0 s → (-2147483648 ≤ a4 ∧ a4 ≤ 2147483647) → (-2147483648 ≤ a5 ∧ a5 ≤ 2147483647) → (2147483647 - a5 < (F : Int)) → z_T (fX10_marksOf_L6 fu 191 a2 a3 F s a4 a5 k) (P_X10_marksOf_191 r0) := by
  intro F
  induction F with
  | zero =>
    intro s a4 a5 c f b4 b5 hm
    exfalso; omega
  | succ F ih =>
    intro s a4 a5 c f b4 b5 hm
    refine T_of (fX10_marksOf_L6.eq_2 ..) ?_
    refine T_ite (fun h1 => ?_) (fun h1 => ?_)
    · exact hk s a4 c f (by omega)
    · refine T_if1 (by decide +kernel) ?_
      refine T_useI (sf_X10_markOf_191 hfu s c a5 a3 (by omega) (by omega)) (fun v7 s2 hq => ?_)
      obtain ⟨c3, f4, ⟨x6, rfl, b8, b9⟩⟩ := hq
      refine T_vI ?_
      have f5 := z_Fr.tr (R := R_X10_marksOf_191) f f4 (fun a b h => absurd h not_false)
      refine T_leq (fun x10 e11 => ?_)
      have w12 := z_wr e11
      refine T_leq (fun x13 e14 => ?_)
      have w15 := z_wb e14
      exact ih s2 x10 x13 c3 f5 (by omega) (by omega) (by omega)
theorem sf_X10_marksOf_191 {fu : Nat} (hfu : 8589934592 ≤ fu) (r0 : z_M) (c0 : z_CI r0) (a1 : Int) (a2 : Int) (a3 : Int) (b1 : 0 ≤ a1 ∧ a1 ≤ 2147483647) (b2 : (-1) ≤ a2 ∧ a2 ≤ 200) (b3 : -2147483648 ≤ a3 ∧ a3 ≤ 2147483647) : z_T (fX10_marksOf fu r0 191 a1 a2 a3) (P_X10_marksOf_191 r0) := by
  refine T_of (fX10_marksOf.eq_1 ..) ?_
  refine sl_X10_marksOf_191_L6 hfu r0 a2 a3 (by omega) (by omega) (fun s1 y4 c2 f3 b5 => ?_) fu r0 0 a1 c0 z_Fr.rf (by omega) (by omega) (by omega)
  exact T_ret ⟨c2, f3, ⟨y4, rfl, by omega, by omega⟩⟩
abbrev R_X3_marksBeside_258 (a b : Int) : Prop := False
abbrev P_X3_marksBeside_258 (r0 : z_M) : z_V → z_M → Prop := fun v s' => z_CI s' ∧ z_Fr R_X3_marksBeside_258 r0 s' ∧ (∃ x, v = vI x ∧ -2147483648 ≤ x ∧ x ≤ 2147483647)
theorem sf_X3_marksBeside_258 {fu : Nat} (hfu : 8589934592 ≤ fu) (r0 : z_M) (c0 : z_CI r0) (a1 : Int) (a2 : Int) (b1 : -2147483648 ≤ a1 ∧ a1 ≤ 2147483647) (b2 : -2147483648 ≤ a2 ∧ a2 ≤ 2147483647) : z_T (fX3_marksBeside fu r0 258 a1 a2) (P_X3_marksBeside_258 r0) := by
  refine T_of (fX3_marksBeside.eq_1 ..) ?_
  refine T_if1 (by decide +kernel) ?_
  refine T_let 191 (by decide +kernel) ?_
  refine T_if1 (by decide +kernel) ?_
  refine T_useI (sf_X3_firstSign_258 hfu r0 c0 a1 (by omega)) (fun v6 s1 hq => ?_)
  obtain ⟨c2, f3, ⟨x5, rfl, b7, b8⟩⟩ := hq
  refine T_vI ?_
  have f4 := z_Fr.tr (R := R_X3_marksBeside_258) z_Fr.rf f3 (fun a b h => absurd h not_false)
  refine T_leq (fun x9 e10 => ?_)
  have w11 := z_wb e10
  refine T_if1 (by decide +kernel) ?_
  refine T_useI (sf_X3_firstSign_258 hfu s1 c2 x9 (by omega)) (fun v17 s12 hq => ?_)
  obtain ⟨c13, f14, ⟨x16, rfl, b18, b19⟩⟩ := hq
  refine T_vI ?_
  have f15 := z_Fr.tr (R := R_X3_marksBeside_258) f4 f14 (fun a b h => absurd h not_false)
  refine T_leq (fun x20 e21 => ?_)
  have w22 := z_wb e21
  refine T_if1 (by decide +kernel) ?_
  refine T_useI (sf_X10_marksOf_191 hfu s12 c13 x5 x20 a2 (by omega) (by omega) (by omega)) (fun v28 s23 hq => ?_)
  obtain ⟨c24, f25, ⟨x27, rfl, b29, b30⟩⟩ := hq
  refine T_vI ?_
  have f26 := z_Fr.tr (R := R_X3_marksBeside_258) f15 f25 (fun a b h => absurd h not_false)
  exact T_ret ⟨c24, f26, ⟨x27, rfl, by omega, by omega⟩⟩
abbrev R_X8_outerOn_296 (a b : Int) : Prop := False
abbrev P_X8_outerOn_296 (r0 : z_M) : z_V → z_M → Prop := fun v s' => z_CI s' ∧ z_Fr R_X8_outerOn_296 r0 s' ∧ (∃ x, v = vI x ∧ -2147483648 ≤ x ∧ x ≤ 2147483647)
theorem sj_X8_outerOn_296_J28 {fu : Nat} (hfu : 8589934592 ≤ fu) (r0 s : z_M) (c : z_CI s) (f : z_Fr R_X8_outerOn_296 r0 s) (t0 : Int) (d0 : 0 ≤ t0 ∧ t0 ≤ 6) : z_T (fX8_outerOn_J28 fu s t0) (P_X8_outerOn_296 r0) := by
  refine T_of (fX8_outerOn_J28.eq_1 ..) ?_
  exact T_ret ⟨c, f, ⟨t0, rfl, by omega, by omega⟩⟩
theorem sf_X8_outerOn_296 {fu : Nat} (hfu : 8589934592 ≤ fu) (r0 : z_M) (c0 : z_CI r0) (a1 : Int) (a2 : Int) (b1 : -2147483648 ≤ a1 ∧ a1 ≤ 2147483647) (b2 : -2147483648 ≤ a2 ∧ a2 ≤ 2147483647) : z_T (fX8_outerOn fu r0 296 a1 a2) (P_X8_outerOn_296 r0) := by
  refine T_of (fX8_outerOn.eq_1 ..) ?_
  refine T_if1 (by decide +kernel) ?_
  refine T_let 258 (by decide +kernel) ?_
  refine T_if1 (by decide +kernel) ?_
  refine T_useI (sf_X3_lettersBeside_258 hfu r0 c0 a1 a2 (by omega) (by omega)) (fun v6 s1 hq => ?_)
  obtain ⟨c2, f3, ⟨x5, rfl, b7, b8⟩⟩ := hq
  refine T_vI ?_
  have f4 := z_Fr.tr (R := R_X8_outerOn_296) z_Fr.rf f3 (fun a b h => absurd h not_false)
  refine T_if1 (by decide +kernel) ?_
  refine T_let 258 (by decide +kernel) ?_
  refine T_if1 (by decide +kernel) ?_
  refine T_useI (sf_X3_marksBeside_258 hfu s1 c2 a1 a2 (by omega) (by omega)) (fun v14 s9 hq => ?_)
  obtain ⟨c10, f11, ⟨x13, rfl, b15, b16⟩⟩ := hq
  refine T_vI ?_
  have f12 := z_Fr.tr (R := R_X8_outerOn_296) f4 f11 (fun a b h => absurd h not_false)
  refine T_leq (fun x17 e18 => ?_)
  have w19 := z_wr e18
  refine T_ite (fun h20 => ?_) (fun h20 => ?_)
  · exact sj_X8_outerOn_296_J28 hfu r0 s9 c10 f12 0 (by omega)
  · exact sj_X8_outerOn_296_J28 hfu r0 s9 c10 f12 6 (by omega)
abbrev R_X3_letterPlace_258 (a b : Int) : Prop := False
abbrev P_X3_letterPlace_258 (r0 : z_M) : z_V → z_M → Prop := fun v s' => z_CI s' ∧ z_Fr R_X3_letterPlace_258 r0 s' ∧ (∃ x, v = vI x ∧ -2147483648 ≤ x ∧ x ≤ 2147483647)
theorem sj_X3_letterPlace_258_J101 {fu : Nat} (hfu : 8589934592 ≤ fu) (r0 s : z_M) (c : z_CI s) (f : z_Fr R_X3_letterPlace_258 r0 s) (t0 : Int) (d0 : -2147483648 ≤ t0 ∧ t0 ≤ 2147483647) : z_T (fX3_letterPlace_J101 fu s t0) (P_X3_letterPlace_258 r0) := by
  refine T_of (fX3_letterPlace_J101.eq_1 ..) ?_
  exact T_ret ⟨c, f, ⟨t0, rfl, by omega, by omega⟩⟩
theorem sf_X3_letterPlace_258 {fu : Nat} (hfu : 8589934592 ≤ fu) (r0 : z_M) (c0 : z_CI r0) (a1 : Int) (a2 : Int) (a3 : Int) (b1 : -2147483648 ≤ a1 ∧ a1 ≤ 2147483647) (b2 : -2147483648 ≤ a2 ∧ a2 ≤ 2147483647) (b3 : -2147483648 ≤ a3 ∧ a3 ≤ 2147483647) : z_T (fX3_letterPlace fu r0 258 a1 a2 a3) (P_X3_letterPlace_258 r0) := by
  refine T_of (fX3_letterPlace.eq_1 ..) ?_
  refine T_if1 (by decide +kernel) ?_
  refine T_let 279 (by decide +kernel) ?_
  refine T_if1 (by decide +kernel) ?_
  refine T_useI (sf_X0_letters_279 hfu r0 c0 a1 a2 (by omega) (by omega)) (fun v6 s1 hq => ?_)
  obtain ⟨c2, f3, ⟨x5, rfl, b7, b8⟩⟩ := hq
  refine T_vI ?_
  have f4 := z_Fr.tr (R := R_X3_letterPlace_258) z_Fr.rf f3 (fun a b h => absurd h not_false)
  refine T_if1 (by decide +kernel) ?_
  refine T_let 279 (by decide +kernel) ?_
  refine T_if1 (by decide +kernel) ?_
  refine T_let 284 (by decide +kernel) ?_
  refine T_if1 (by decide +kernel) ?_
  refine T_get (by decide +kernel) (c := 285) (by decide +kernel) bdr_285 (by decide) c2 (fun x9 e10 b11 w12 => ?_)
  have l13 : z_ln 284 = 200 := by decide +kernel
  refine T_if1 (by decide +kernel) ?_
  refine T_let 261 (by decide +kernel) ?_
  refine T_if1 (by decide +kernel) ?_
  refine T_let 279 (by decide +kernel) ?_
  refine T_if1 (by decide +kernel) ?_
  refine T_let 280 (by decide +kernel) ?_
  refine T_if1 (by decide +kernel) ?_
  refine T_get (by decide +kernel) (c := 281) (by decide +kernel) bdr_281 (by decide) c2 (fun x14 e15 b16 w17 => ?_)
  have l18 : z_ln 280 = 200 := by decide +kernel
  refine T_if1 (by decide +kernel) ?_
  refine T_get (by decide +kernel) (c := 262) (by decide +kernel) bdr_262 (by decide) c2 (fun x19 e20 b21 w22 => ?_)
  have l23 : z_ln 261 = 200 := by decide +kernel
  refine T_leq (fun x24 e25 => ?_)
  have w26 := z_wb e25
  obtain ⟨q27, w28⟩ := z_wq e25
  refine T_ite (fun h29 => ?_) (fun h29 => ?_)
  · refine T_ite (fun h30 => ?_) (fun h30 => ?_)
    · exact sj_X3_letterPlace_258_J101 hfu r0 s1 c2 f4 x19 (by omega)
    · refine T_leq (fun x31 e32 => ?_)
      have w33 := z_wb e32
      obtain ⟨q34, w35⟩ := z_wq e32
      refine T_leq (fun x36 e37 => ?_)
      have w38 := z_wb e37
      refine T_leq (fun x39 e40 => ?_)
      have w41 := z_wb e40
      obtain ⟨q42, w43⟩ := z_wq e40
      refine T_leq (fun x44 e45 => ?_)
      have w46 := z_wb e45
      obtain ⟨q47, w48⟩ := z_wq e45
      refine T_if1 (by omega) ?_
      refine T_leq (fun x49 e50 => ?_)
      have w51 := z_wb e50
      refine T_leq (fun x52 e53 => ?_)
      have w54 := z_wb e53
      refine T_leq (fun x55 e56 => ?_)
      have w57 := z_wb e56
      exact sj_X3_letterPlace_258_J101 hfu r0 s1 c2 f4 x55 (by omega)
  · refine T_leq (fun x58 e59 => ?_)
    have w60 := z_wb e59
    obtain ⟨q61, w62⟩ := z_wq e59
    refine T_leq (fun x63 e64 => ?_)
    have w65 := z_wb e64
    refine T_if1 (by omega) ?_
    refine T_leq (fun x66 e67 => ?_)
    have w68 := z_wb e67
    have w69 := z_td2 (e := x63)
    refine T_leq (fun x70 e71 => ?_)
    have w72 := z_wb e71
    refine T_leq (fun x73 e74 => ?_)
    have w75 := z_wb e74
    obtain ⟨q76, w77⟩ := z_wq e74
    refine T_leq (fun x78 e79 => ?_)
    have w80 := z_wb e79
    exact T_ret ⟨c2, f4, ⟨x78, rfl, by omega, by omega⟩⟩
abbrev R_X8_span_296 (a b : Int) : Prop := (298 ≤ a ∧ a ≤ 298)
abbrev P_X8_span_296 (r0 : z_M) : z_V → z_M → Prop := fun v s' => z_CI s' ∧ z_Fr R_X8_span_296 r0 s' ∧ (∃ x, v = vI x ∧ -2147483648 ≤ x ∧ x ≤ 2147483647)
theorem sj_X8_span_296_J56 {fu : Nat} (hfu : 8589934592 ≤ fu) (r0 s : z_M) (c : z_CI s) (f : z_Fr R_X8_span_296 r0 s) (a1 : Int) (a2 : Int) (a3 : Int) (a4 : Int) (b1 : -2147483648 ≤ a1 ∧ a1 ≤ 2147483647) (b2 : -2147483648 ≤ a2 ∧ a2 ≤ 2147483647) (b3 : -2147483648 ≤ a3 ∧ a3 ≤ 2147483647) (b4 : -2147483648 ≤ a4 ∧ a4 ≤ 2147483646) (M : Int) (pm : 2147483647 - a4 ≤ M) {r : z_M → Int → z_O} {k : z_M → z_O} (hr : ∀ (s' : z_M) (v4 : Int), z_CI s' → z_Fr R_X8_span_296 r0 s' → (-2147483648 ≤ v4 ∧ v4 ≤ 2147483647) → (2147483647 - v4 < M) → z_T (r s' v4) (P_X8_span_296 r0)) (hk : ∀ (s' : z_M), z_CI s' → z_Fr R_X8_span_296 r0 s' → z_T (k s') (P_X8_span_296 r0)) : z_T (fX8_span_J56 fu s 296 a1 a2 a3 a4 r k) (P_X8_span_296 r0) := by
  refine T_of (fX8_span_J56.eq_1 ..) ?_
  have u1 := CI_b c (k := 296) (j := 9) bd_296_9
  refine T_leq (fun x2 e3 => ?_)
  have w4 := z_wb e3
  exact hr s x2 c f (by omega) (by omega)
theorem sl_X8_span_296_L3 {fu : Nat} (hfu : 8589934592 ≤ fu) (r0 : z_M) (a1 : Int) (a2 : Int) (a3 : Int) (b1 : -2147483648 ≤ a1 ∧ a1 ≤ 2147483647) (b2 : -2147483648 ≤ a2 ∧ a2 ≤ 2147483647) (b3 : -2147483648 ≤ a3 ∧ a3 ≤ 2147483647) {k : z_M → z_O} (hk : ∀ (s' : z_M), z_CI s' → z_Fr R_X8_span_296 r0 s' → z_T (k s') (P_X8_span_296 r0)) : ∀ (F : Nat) (s : z_M) (a4 : Int), z_CI s → z_Fr R_X8_span_296 r0 s → (-2147483648 ≤ a4 ∧ a4 ≤ 2147483647) → (2147483647 - a4 < (F : Int)) → z_T (fX8_span_L3 fu 296 a1 a2 a3 F s a4 k) (P_X8_span_296 r0) := by
  intro F
  induction F with
  | zero =>
    intro s a4 c f b4 hm
    have u31 := CI_b c (k := 296) (j := 9) bd_296_9
    exfalso; omega
  | succ F ih =>
    intro s a4 c f b4 hm
    refine T_of (fX8_span_L3.eq_2 ..) ?_
    have u1 := CI_b c (k := 296) (j := 9) bd_296_9
    refine T_leq (fun x2 e3 => ?_)
    have w4 := z_wr e3
    refine T_ite (fun h5 => ?_) (fun h5 => ?_)
    · exact hk s c f
    · refine T_ite (fun h6 => ?_) (fun h6 => ?_)
      · refine T_if1 (by decide +kernel) ?_
        refine T_let 297 (by decide +kernel) ?_
        refine T_leq (fun x7 e8 => ?_)
        have w9 := z_wr e8
        refine T_if1 (by decide +kernel) ?_
        refine T_get (by decide +kernel) (c := 298) (by decide +kernel) bdr_298 (by decide) c (fun x10 e11 b12 w13 => ?_)
        have l14 : z_ln 297 = 12000 := by decide +kernel
        refine T_if1 (by decide +kernel) ?_
        refine T_leq (fun x15 e16 => ?_)
        have u17 := CI_b c (k := 296) (j := 9) bd_296_9
        refine T_ite (fun h18 => ?_) (fun h18 => ?_)
        · exact sj_X8_span_296_J56 hfu r0 s c f a1 a2 a3 a4 (by omega) (by omega) (by omega) (by omega) (2147483647 - a4) (by omega) (fun s' v4 c' f' w4 pg => ih s' v4 c' f' w4 (by omega)) hk
        · exact T_ret ⟨c, f, ⟨a4, rfl, by omega, by omega⟩⟩
      · refine T_if1 (by decide +kernel) ?_
        refine T_let 297 (by decide +kernel) ?_
        refine T_leq (fun x19 e20 => ?_)
        have w21 := z_wr e20
        refine T_if1 (by decide +kernel) ?_
        refine T_leq (fun x22 e23 => ?_)
        have u24 := CI_b c (k := 296) (j := 9) bd_296_9
        refine T_if1 (by decide +kernel) ?_
        refine T_put (by decide +kernel) (c := 298) (by decide +kernel) bdr_298 (by omega) c (fun s25 e28 c26 g29 => ?_)
        have f27 := z_Fr.up (R := R_X8_span_296) f g29 (fun _ => (⟨by decide, by decide⟩))
        have t30 : s25 296 9 = s 296 9 := g29 296 9 (by decide)
        exact sj_X8_span_296_J56 hfu r0 s25 c26 f27 a1 a2 a3 a4 (by omega) (by omega) (by omega) (by omega) (2147483647 - a4) (by omega) (fun s' v4 c' f' w4 pg => ih s' v4 c' f' w4 (by omega)) hk
theorem sf_X8_span_296 {fu : Nat} (hfu : 8589934592 ≤ fu) (r0 : z_M) (c0 : z_CI r0) (a1 : Int) (a2 : Int) (a3 : Int) (b1 : -2147483648 ≤ a1 ∧ a1 ≤ 2147483647) (b2 : -2147483648 ≤ a2 ∧ a2 ≤ 2147483647) (b3 : -2147483648 ≤ a3 ∧ a3 ≤ 2147483647) : z_T (fX8_span fu r0 296 a1 a2 a3) (P_X8_span_296 r0) := by
  refine T_of (fX8_span.eq_1 ..) ?_
  refine sl_X8_span_296_L3 hfu r0 a1 a2 a3 (by omega) (by omega) (by omega) (fun s1 c2 f3 => ?_) fu r0 a1 c0 z_Fr.rf (by omega) (by omega)
  have u4 := CI_b c2 (k := 296) (j := 9) bd_296_9
  exact T_ret ⟨c2, f3, ⟨2147483647, rfl, by omega, by omega⟩⟩
abbrev R_X8_visit_296 (a b : Int) : Prop := (298 ≤ a ∧ a ≤ 298)
abbrev P_X8_visit_296 (r0 : z_M) : z_V → z_M → Prop := fun v s' => z_CI s' ∧ z_Fr R_X8_visit_296 r0 s' ∧ (∃ x, v = vI x ∧ -2147483648 ≤ x ∧ x ≤ 2147483647)
theorem rs_X8_span_296__X8_visit_296 (a b : Int) (h : R_X8_span_296 a b) : R_X8_visit_296 a b := (⟨by omega, by omega⟩)
theorem sl_X8_visit_296_L38 {fu : Nat} (hfu : 8589934592 ≤ fu) (r0 : z_M) (a1 : Int) (a2 : Int) (a3 : Int) (a5 : Int) (b1 : -2147483648 ≤ a1 ∧ a1 ≤ 2147483647) (b2 : -2147483648 ≤ a2 ∧ a2 ≤ 2147483647) (b3 : -2147483648 ≤ a3 ∧ a3 ≤ 2147483647) (b5 : -2147483648 ≤ a5 ∧ a5 ≤ 2147483647) {k : z_M → Int → z_O} (hk : ∀ (s' : z_M) (v4 : Int), z_CI s' → z_Fr R_X8_visit_296 r0 s' → (-2147483648 ≤ v4 ∧ v4 ≤ 2147483647) → z_T (k s' v4) (P_X8_visit_296 r0)) : ∀ (F : Nat) (s : z_M) (a4 : Int) (a6 : Int), z_CI s → z_Fr R_X8_visit_296 r0 s → (-2147483648 ≤ a4 ∧ a4 ≤ 2147483647) → (-2147483648 ≤ a6 ∧ a6 ≤ 2147483647) → (2147483647 - a6 < (F : Int)) → z_T (fX8_visit_L38 fu 296 a1 a2 a3 a5 F s a4 a6 k) (P_X8_visit_296 r0) := by
  intro F
  induction F with
  | zero =>
    intro s a4 a6 c f b4 b6 hm
    exfalso; omega
  | succ F ih =>
    intro s a4 a6 c f b4 b6 hm
    refine T_of (fX8_visit_L38.eq_2 ..) ?_
    refine T_if1 (by decide +kernel) ?_
    refine T_let 258 (by decide +kernel) ?_
    refine T_if1 (by decide +kernel) ?_
    refine T_let 279 (by decide +kernel) ?_
    refine T_if1 (by decide +kernel) ?_
    refine T_useI (sf_X0_letters_279 hfu s c a5 a2 (by omega) (by omega)) (fun v6 s1 hq => ?_)
    obtain ⟨c2, f3, ⟨x5, rfl, b7, b8⟩⟩ := hq
    refine T_vI ?_
    have f4 := z_Fr.tr (R := R_X8_visit_296) f f3 (fun a b h => absurd h not_false)
    refine T_ite (fun h9 => ?_) (fun h9 => ?_)
    · exact hk s1 a4 c2 f4 (by omega)
    · refine T_if1 (by decide +kernel) ?_
      refine T_let 258 (by decide +kernel) ?_
      refine T_if1 (by decide +kernel) ?_
      refine T_useI (sf_X3_letterPlace_258 hfu s1 c2 a5 a2 a6 (by omega) (by omega) (by omega)) (fun v15 s10 hq => ?_)
      obtain ⟨c11, f12, ⟨x14, rfl, b16, b17⟩⟩ := hq
      refine T_vI ?_
      have f13 := z_Fr.tr (R := R_X8_visit_296) f4 f12 (fun a b h => absurd h not_false)
      refine T_if1 (by decide +kernel) ?_
      refine T_useI (sf_X8_span_296 hfu s10 c11 x14 6 a3 (by omega) (by omega) (by omega)) (fun v23 s18 hq => ?_)
      obtain ⟨c19, f20, ⟨x22, rfl, b24, b25⟩⟩ := hq
      refine T_vI ?_
      have f21 := z_Fr.tr (R := R_X8_visit_296) f13 f20 rs_X8_span_296__X8_visit_296
      refine T_leq (fun x26 e27 => ?_)
      have w28 := z_minb a4 x22
      rw [e27] at w28
      refine T_leq (fun x29 e30 => ?_)
      have w31 := z_wb e30
      exact ih s18 x26 x29 c19 f21 (by omega) (by omega) (by omega)
theorem sl_X8_visit_296_L17 {fu : Nat} (hfu : 8589934592 ≤ fu) (r0 : z_M) (a1 : Int) (a2 : Int) (a3 : Int) (b1 : -2147483648 ≤ a1 ∧ a1 ≤ 2147483647) (b2 : -2147483648 ≤ a2 ∧ a2 ≤ 2147483647) (b3 : -2147483648 ≤ a3 ∧ a3 ≤ 2147483647) {k : z_M → Int → z_O} (hk : ∀ (s' : z_M) (v4 : Int), z_CI s' → z_Fr R_X8_visit_296 r0 s' → (-2147483648 ≤ v4 ∧ v4 ≤ 2147483647) → z_T (k s' v4) (P_X8_visit_296 r0)) : ∀ (F : Nat) (s : z_M) (a4 : Int) (a5 : Int), z_CI s → z_Fr R_X8_visit_296 r0 s → (-2147483648 ≤ a4 ∧ a4 ≤ 2147483647) → (-2147483648 ≤ a5 ∧ a5 ≤ 2147483647) → (2147483647 - a5 < (F : Int)) → z_T (fX8_visit_L17 fu 296 a1 a2 a3 F s a4 a5 k) (P_X8_visit_296 r0) := by
  intro F
  induction F with
  | zero =>
    intro s a4 a5 c f b4 b5 hm
    exfalso; omega
  | succ F ih =>
    intro s a4 a5 c f b4 b5 hm
    refine T_of (fX8_visit_L17.eq_2 ..) ?_
    refine T_if1 (by decide +kernel) ?_
    refine T_let 258 (by decide +kernel) ?_
    refine T_if1 (by decide +kernel) ?_
    refine T_let 277 (by decide +kernel) ?_
    refine T_leq (fun x1 e2 => ?_)
    have w3 := z_wr e2
    refine T_if1 (by decide +kernel) ?_
    refine T_get (by decide +kernel) (c := 278) (by decide +kernel) bdr_278 (by decide) c (fun x4 e5 b6 w7 => ?_)
    have l8 : z_ln 277 = 201 := by decide +kernel
    refine T_ite (fun h9 => ?_) (fun h9 => ?_)
    · exact hk s a4 c f (by omega)
    · refine sl_X8_visit_296_L38 hfu r0 a1 a2 a3 a5 (by omega) (by omega) (by omega) (by omega) (fun s10 y13 c11 f12 b14 => ?_) fu s a4 0 c f (by omega) (by omega) (by omega)
      refine T_leq (fun x15 e16 => ?_)
      have w17 := z_wb e16
      exact ih s10 y13 x15 c11 f12 (by omega) (by omega) (by omega)
theorem sj_X8_visit_296_J168 {fu : Nat} (hfu : 8589934592 ≤ fu) (r0 s : z_M) (c : z_CI s) (f : z_Fr R_X8_visit_296 r0 s) (a1 : Int) (a2 : Int) (a3 : Int) (a4 : Int) (a5 : Int) (b1 : -2147483648 ≤ a1 ∧ a1 ≤ 2147483647) (b2 : -2147483648 ≤ a2 ∧ a2 ≤ 2147483647) (b3 : -2147483648 ≤ a3 ∧ a3 ≤ 2147483647) (b4 : -2147483648 ≤ a4 ∧ a4 ≤ 2147483647) (b5 : -2147483648 ≤ a5 ∧ a5 ≤ 2147483646) (M : Int) (pm : 2147483647 - a5 ≤ M) {r : z_M → Int → Int → z_O} {k : z_M → Int → z_O} (hr : ∀ (s' : z_M) (v4 : Int) (v5 : Int), z_CI s' → z_Fr R_X8_visit_296 r0 s' → (-2147483648 ≤ v4 ∧ v4 ≤ 2147483647) → (-2147483648 ≤ v5 ∧ v5 ≤ 2147483647) → (2147483647 - v5 < M) → z_T (r s' v4 v5) (P_X8_visit_296 r0)) (hk : ∀ (s' : z_M) (v4 : Int), z_CI s' → z_Fr R_X8_visit_296 r0 s' → (-2147483648 ≤ v4 ∧ v4 ≤ 2147483647) → z_T (k s' v4) (P_X8_visit_296 r0)) : z_T (fX8_visit_J168 fu s 296 a1 a2 a3 a4 a5 r k) (P_X8_visit_296 r0) := by
  refine T_of (fX8_visit_J168.eq_1 ..) ?_
  refine T_leq (fun x1 e2 => ?_)
  have w3 := z_wb e2
  exact hr s a4 x1 c f (by omega) (by omega) (by omega)
theorem sl_X8_visit_296_L108 {fu : Nat} (hfu : 8589934592 ≤ fu) (r0 : z_M) (a1 : Int) (a2 : Int) (a3 : Int) (b1 : -2147483648 ≤ a1 ∧ a1 ≤ 2147483647) (b2 : -2147483648 ≤ a2 ∧ a2 ≤ 2147483647) (b3 : -2147483648 ≤ a3 ∧ a3 ≤ 2147483647) {k : z_M → Int → z_O} (hk : ∀ (s' : z_M) (v4 : Int), z_CI s' → z_Fr R_X8_visit_296 r0 s' → (-2147483648 ≤ v4 ∧ v4 ≤ 2147483647) → z_T (k s' v4) (P_X8_visit_296 r0)) : ∀ (F : Nat) (s : z_M) (a4 : Int) (a5 : Int), z_CI s → z_Fr R_X8_visit_296 r0 s → (-2147483648 ≤ a4 ∧ a4 ≤ 2147483647) → (-2147483648 ≤ a5 ∧ a5 ≤ 2147483647) → (2147483647 - a5 < (F : Int)) → z_T (fX8_visit_L108 fu 296 a1 a2 a3 F s a4 a5 k) (P_X8_visit_296 r0) := by
  intro F
  induction F with
  | zero =>
    intro s a4 a5 c f b4 b5 hm
    exfalso; omega
  | succ F ih =>
    intro s a4 a5 c f b4 b5 hm
    refine T_of (fX8_visit_L108.eq_2 ..) ?_
    refine T_if1 (by decide +kernel) ?_
    refine T_let 258 (by decide +kernel) ?_
    refine T_leq (fun x1 e2 => ?_)
    have w3 := z_wr e2
    refine T_if1 (by decide +kernel) ?_
    refine T_useI (sf_X3_firstSign_258 hfu s c x1 (by omega)) (fun v9 s4 hq => ?_)
    obtain ⟨c5, f6, ⟨x8, rfl, b10, b11⟩⟩ := hq
    refine T_vI ?_
    have f7 := z_Fr.tr (R := R_X8_visit_296) f f6 (fun a b h => absurd h not_false)
    refine T_ite (fun h12 => ?_) (fun h12 => ?_)
    · exact hk s4 a4 c5 f7 (by omega)
    · refine T_if1 (by decide +kernel) ?_
      refine T_let 191 (by decide +kernel) ?_
      refine T_if1 (by decide +kernel) ?_
      refine T_useI (sf_X10_markOf_191 hfu s4 c5 a5 a2 (by omega) (by omega)) (fun v18 s13 hq => ?_)
      obtain ⟨c14, f15, ⟨x17, rfl, b19, b20⟩⟩ := hq
      refine T_vI ?_
      have f16 := z_Fr.tr (R := R_X8_visit_296) f7 f15 (fun a b h => absurd h not_false)
      refine T_ite (fun h21 => ?_) (fun h21 => ?_)
      · exact sj_X8_visit_296_J168 hfu r0 s13 c14 f16 a1 a2 a3 a4 a5 (by omega) (by omega) (by omega) (by omega) (by omega) (2147483647 - a5) (by omega) (fun s' v4 v5 c' f' w4 w5 pg => ih s' v4 v5 c' f' w4 w5 (by omega)) hk
      · refine T_if1 (by decide +kernel) ?_
        refine T_let 258 (by decide +kernel) ?_
        refine T_if1 (by decide +kernel) ?_
        refine T_let 267 (by decide +kernel) ?_
        refine T_if1 (by decide +kernel) ?_
        refine T_get (by decide +kernel) (c := 268) (by decide +kernel) bdr_268 (by decide) c14 (fun x22 e23 b24 w25 => ?_)
        have l26 : z_ln 267 = 200 := by decide +kernel
        refine T_leq (fun x27 e28 => ?_)
        have w29 := z_wr e28
        refine T_if1 (by decide +kernel) ?_
        refine T_useI (sf_X8_span_296 hfu s13 c14 x27 4 a3 (by omega) (by omega) (by omega)) (fun v35 s30 hq => ?_)
        obtain ⟨c31, f32, ⟨x34, rfl, b36, b37⟩⟩ := hq
        refine T_vI ?_
        have f33 := z_Fr.tr (R := R_X8_visit_296) f16 f32 rs_X8_span_296__X8_visit_296
        refine T_leq (fun x38 e39 => ?_)
        have w40 := z_minb a4 x34
        rw [e39] at w40
        exact sj_X8_visit_296_J168 hfu r0 s30 c31 f33 a1 a2 a3 x38 a5 (by omega) (by omega) (by omega) (by omega) (by omega) (2147483647 - a5) (by omega) (fun s' v4 v5 c' f' w4 w5 pg => ih s' v4 v5 c' f' w4 w5 (by omega)) hk
theorem sf_X8_visit_296 {fu : Nat} (hfu : 8589934592 ≤ fu) (r0 : z_M) (c0 : z_CI r0) (a1 : Int) (a2 : Int) (a3 : Int) (b1 : -2147483648 ≤ a1 ∧ a1 ≤ 2147483647) (b2 : -2147483648 ≤ a2 ∧ a2 ≤ 2147483647) (b3 : -2147483648 ≤ a3 ∧ a3 ≤ 2147483647) : z_T (fX8_visit fu r0 296 a1 a2 a3) (P_X8_visit_296 r0) := by
  refine T_of (fX8_visit.eq_1 ..) ?_
  refine T_if1 (by decide +kernel) ?_
  refine T_let 258 (by decide +kernel) ?_
  refine T_if1 (by decide +kernel) ?_
  refine T_let 277 (by decide +kernel) ?_
  refine T_if1 (by decide +kernel) ?_
  refine T_get (by decide +kernel) (c := 278) (by decide +kernel) bdr_278 (by decide) c0 (fun x1 e2 b3 w4 => ?_)
  have l5 : z_ln 277 = 201 := by decide +kernel
  refine sl_X8_visit_296_L17 hfu r0 a1 a2 a3 (by omega) (by omega) (by omega) (fun s6 y9 c7 f8 b10 => ?_) fu r0 2147483647 x1 c0 z_Fr.rf (by omega) (by omega) (by omega)
  refine T_if1 (by decide +kernel) ?_
  refine T_let 258 (by decide +kernel) ?_
  refine T_if1 (by decide +kernel) ?_
  refine T_useI (sf_X3_firstSign_258 hfu s6 c7 a1 (by omega)) (fun v16 s11 hq => ?_)
  obtain ⟨c12, f13, ⟨x15, rfl, b17, b18⟩⟩ := hq
  refine T_vI ?_
  have f14 := z_Fr.tr (R := R_X8_visit_296) f8 f13 (fun a b h => absurd h not_false)
  refine sl_X8_visit_296_L108 hfu r0 a1 a2 a3 (by omega) (by omega) (by omega) (fun s19 y22 c20 f21 b23 => ?_) fu s11 y9 x15 c12 f14 (by omega) (by omega) (by omega)
  exact T_ret ⟨c20, f21, ⟨y22, rfl, by omega, by omega⟩⟩
abbrev R_X8_build_296 (a b : Int) : Prop := (298 ≤ a ∧ a ≤ 308) ∨ (a = 296 ∧ (b = 9))
abbrev P_X8_build_296 (r0 : z_M) : z_V → z_M → Prop := fun v s' => z_CI s' ∧ z_Fr R_X8_build_296 r0 s' ∧ (v = vN)
theorem sl_X8_build_296_L10 {fu : Nat} (hfu : 8589934592 ≤ fu) (r0 : z_M) (a1 : Int) (b1 : -2147483648 ≤ a1 ∧ a1 ≤ 2147483647) {k : z_M → z_O} (hk : ∀ (s' : z_M), z_CI s' → z_Fr R_X8_build_296 r0 s' → z_T (k s') (P_X8_build_296 r0)) : ∀ (F : Nat) (s : z_M) (a2 : Int), z_CI s → z_Fr R_X8_build_296 r0 s → (-2147483648 ≤ a2 ∧ a2 ≤ 2147483647) → (2147483647 - a2 < (F : Int)) → z_T (fX8_build_L10 fu 296 a1 F s a2 k) (P_X8_build_296 r0) := by
  intro F
  induction F with
  | zero =>
    intro s a2 c f b2 hm
    have u36 := CI_b c (k := 296) (j := 9) bd_296_9
    exfalso; omega
  | succ F ih =>
    intro s a2 c f b2 hm
    refine T_of (fX8_build_L10.eq_2 ..) ?_
    have u1 := CI_b c (k := 296) (j := 9) bd_296_9
    refine T_ite (fun h2 => ?_) (fun h2 => ?_)
    · exact hk s c f
    · refine T_if1 (by decide +kernel) ?_
      refine T_let 305 (by decide +kernel) ?_
      refine T_if1 (by decide +kernel) ?_
      refine T_useI (sf_X8_outerOn_296 hfu s c a2 0 (by omega) (by omega)) (fun v8 s3 hq => ?_)
      obtain ⟨c4, f5, ⟨x7, rfl, b9, b10⟩⟩ := hq
      refine T_vI ?_
      have f6 := z_Fr.tr (R := R_X8_build_296) f f5 (fun a b h => absurd h not_false)
      have t11 : s3 296 9 = s 296 9 := f5 296 9 (by decide)
      refine T_if1 (by decide +kernel) ?_
      refine T_put (by decide +kernel) (c := 306) (by decide +kernel) bdr_306 (by omega) c4 (fun s12 e15 c13 g16 => ?_)
      have f14 := z_Fr.up (R := R_X8_build_296) f6 g16 (fun _ => (Or.inl (⟨by decide, by decide⟩)))
      have t17 : s12 296 9 = s3 296 9 := g16 296 9 (by decide)
      refine T_if1 (by decide +kernel) ?_
      refine T_let 307 (by decide +kernel) ?_
      refine T_if1 (by decide +kernel) ?_
      refine T_useI (sf_X8_outerOn_296 hfu s12 c13 a2 1 (by omega) (by omega)) (fun v23 s18 hq => ?_)
      obtain ⟨c19, f20, ⟨x22, rfl, b24, b25⟩⟩ := hq
      refine T_vI ?_
      have f21 := z_Fr.tr (R := R_X8_build_296) f14 f20 (fun a b h => absurd h not_false)
      have t26 : s18 296 9 = s12 296 9 := f20 296 9 (by decide)
      refine T_if1 (by decide +kernel) ?_
      refine T_put (by decide +kernel) (c := 308) (by decide +kernel) bdr_308 (by omega) c19 (fun s27 e30 c28 g31 => ?_)
      have f29 := z_Fr.up (R := R_X8_build_296) f21 g31 (fun _ => (Or.inl (⟨by decide, by decide⟩)))
      have t32 : s27 296 9 = s18 296 9 := g31 296 9 (by decide)
      refine T_leq (fun x33 e34 => ?_)
      have w35 := z_wb e34
      exact ih s27 x33 c28 f29 (by omega) (by omega)
theorem rs_X8_visit_296__X8_build_296 (a b : Int) (h : R_X8_visit_296 a b) : R_X8_build_296 a b := (Or.inl (⟨by omega, by omega⟩))
theorem sj_X8_build_296_J167 {fu : Nat} (hfu : 8589934592 ≤ fu) (r0 s : z_M) (c : z_CI s) (f : z_Fr R_X8_build_296 r0 s) (a1 : Int) (a2 : Int) (t1 : Int) (t2 : Int) (t3 : Int) (b1 : -2147483648 ≤ a1 ∧ a1 ≤ 2147483647) (b2 : -2147483648 ≤ a2 ∧ a2 ≤ 2147483646) (d1 : -2147483648 ≤ t1 ∧ t1 ≤ 2147483647) (d2 : -2147483648 ≤ t2 ∧ t2 ≤ 2147483647) (d3 : -2147483648 ≤ t3 ∧ t3 ≤ 2147483647) (M : Int) (pm : 2147483647 - a2 ≤ M) {r : z_M → Int → z_O} {k : z_M → z_O} (hr : ∀ (s' : z_M) (v2 : Int), z_CI s' → z_Fr R_X8_build_296 r0 s' → (-2147483648 ≤ v2 ∧ v2 ≤ 2147483647) → (2147483647 - v2 < M) → z_T (r s' v2) (P_X8_build_296 r0)) (hk : ∀ (s' : z_M), z_CI s' → z_Fr R_X8_build_296 r0 s' → z_T (k s') (P_X8_build_296 r0)) : z_T (fX8_build_J167 fu s 296 a1 a2 301 t1 t2 t3 r k) (P_X8_build_296 r0) := by
  refine T_of (fX8_build_J167.eq_1 ..) ?_
  have u1 := CI_b c (k := 296) (j := 9) bd_296_9
  refine T_leq (fun x2 e3 => ?_)
  have w4 := z_wr e3
  refine T_if1 (by decide +kernel) ?_
  refine T_put (by decide +kernel) (c := 302) (by decide +kernel) bdr_302 (by omega) c (fun s5 e8 c6 g9 => ?_)
  have f7 := z_Fr.up (R := R_X8_build_296) f g9 (fun _ => (Or.inl (⟨by decide, by decide⟩)))
  have t10 : s5 296 9 = s 296 9 := g9 296 9 (by decide)
  refine T_if1 (by decide +kernel) ?_
  refine T_let 303 (by decide +kernel) ?_
  refine T_leq (fun x11 e12 => ?_)
  have w13 := z_wr e12
  refine T_if1 (by decide +kernel) ?_
  refine T_let 303 (by decide +kernel) ?_
  refine T_if1 (by decide +kernel) ?_
  refine T_get (by decide +kernel) (c := 304) (by decide +kernel) bdr_304 (by decide) c6 (fun x14 e15 b16 w17 => ?_)
  have l18 : z_ln 303 = 201 := by decide +kernel
  refine T_if1 (by decide +kernel) ?_
  refine T_let 301 (by decide +kernel) ?_
  refine T_if1 (by decide +kernel) ?_
  refine T_get (by decide +kernel) (c := 302) (by decide +kernel) bdr_302 (by decide) c6 (fun x19 e20 b21 w22 => ?_)
  have l23 : z_ln 301 = 200 := by decide +kernel
  refine T_leq (fun x24 e25 => ?_)
  have w26 := z_wr e25
  refine T_if1 (by decide +kernel) ?_
  refine T_put (by decide +kernel) (c := 304) (by decide +kernel) bdr_304 (by omega) c6 (fun s27 e30 c28 g31 => ?_)
  have f29 := z_Fr.up (R := R_X8_build_296) f7 g31 (fun _ => (Or.inl (⟨by decide, by decide⟩)))
  have t32 : s27 296 9 = s5 296 9 := g31 296 9 (by decide)
  refine T_leq (fun x33 e34 => ?_)
  have w35 := z_wb e34
  exact hr s27 x33 c28 f29 (by omega) (by omega)
theorem sj_X8_build_296_J114 {fu : Nat} (hfu : 8589934592 ≤ fu) (r0 s : z_M) (c : z_CI s) (f : z_Fr R_X8_build_296 r0 s) (a1 : Int) (a2 : Int) (a3 : Int) (t1 : Int) (t2 : Int) (b1 : -2147483648 ≤ a1 ∧ a1 ≤ 2147483647) (b2 : -2147483648 ≤ a2 ∧ a2 ≤ 2147483646) (b3 : -2147483648 ≤ a3 ∧ a3 ≤ 2147483647) (d1 : -2147483648 ≤ t1 ∧ t1 ≤ 2147483647) (d2 : -2147483648 ≤ t2 ∧ t2 ≤ 2147483647) (M : Int) (pm : 2147483647 - a2 ≤ M) {r : z_M → Int → z_O} {k : z_M → z_O} (hr : ∀ (s' : z_M) (v2 : Int), z_CI s' → z_Fr R_X8_build_296 r0 s' → (-2147483648 ≤ v2 ∧ v2 ≤ 2147483647) → (2147483647 - v2 < M) → z_T (r s' v2) (P_X8_build_296 r0)) (hk : ∀ (s' : z_M), z_CI s' → z_Fr R_X8_build_296 r0 s' → z_T (k s') (P_X8_build_296 r0)) : z_T (fX8_build_J114 fu s 296 a1 a2 a3 299 t1 t2 r k) (P_X8_build_296 r0) := by
  refine T_of (fX8_build_J114.eq_1 ..) ?_
  have u1 := CI_b c (k := 296) (j := 9) bd_296_9
  refine T_if1 (by decide +kernel) ?_
  refine T_put (by decide +kernel) (c := 300) (by decide +kernel) bdr_300 (by omega) c (fun s2 e5 c3 g6 => ?_)
  have f4 := z_Fr.up (R := R_X8_build_296) f g6 (fun _ => (Or.inl (⟨by decide, by decide⟩)))
  have t7 : s2 296 9 = s 296 9 := g6 296 9 (by decide)
  refine T_if1 (by decide +kernel) ?_
  refine T_let 307 (by decide +kernel) ?_
  refine T_if1 (by decide +kernel) ?_
  refine T_get (by decide +kernel) (c := 308) (by decide +kernel) bdr_308 (by decide) c3 (fun x8 e9 b10 w11 => ?_)
  have l12 : z_ln 307 = 200 := by decide +kernel
  refine T_if1 (by decide +kernel) ?_
  refine T_let 305 (by decide +kernel) ?_
  refine T_leq (fun x13 e14 => ?_)
  have w15 := z_wr e14
  refine T_if1 (by decide +kernel) ?_
  refine T_get (by decide +kernel) (c := 306) (by decide +kernel) bdr_306 (by decide) c3 (fun x16 e17 b18 w19 => ?_)
  have l20 : z_ln 305 = 200 := by decide +kernel
  refine T_leq (fun x21 e22 => ?_)
  have w23 := z_maxb x8 x16
  rw [e22] at w23
  refine T_if1 (by decide +kernel) ?_
  refine T_let 301 (by decide +kernel) ?_
  refine T_if1 (by decide +kernel) ?_
  refine T_let 2 (by decide +kernel) ?_
  refine T_if1 (by decide +kernel) ?_
  refine T_get (by decide +kernel) (c := 3) (by decide +kernel) bdr_3 (by decide) c3 (fun x24 e25 b26 w27 => ?_)
  have l28 : z_ln 2 = 9 := by decide +kernel
  refine T_ite (fun h29 => ?_) (fun h29 => ?_)
  · exact sj_X8_build_296_J167 hfu r0 s2 c3 f4 a1 a2 a2 x24 12 (by omega) (by omega) (by omega) (by omega) (by omega) M (by omega) (fun s' v2 c' f' w2 pg => hr s' v2 c' f' w2 (by omega)) hk
  · exact sj_X8_build_296_J167 hfu r0 s2 c3 f4 a1 a2 a2 x24 x21 (by omega) (by omega) (by omega) (by omega) (by omega) M (by omega) (fun s' v2 c' f' w2 pg => hr s' v2 c' f' w2 (by omega)) hk
theorem sj_X8_build_296_J95 {fu : Nat} (hfu : 8589934592 ≤ fu) (r0 s : z_M) (c : z_CI s) (f : z_Fr R_X8_build_296 r0 s) (a1 : Int) (a2 : Int) (t0 : Int) (b1 : -2147483648 ≤ a1 ∧ a1 ≤ 2147483647) (b2 : -2147483648 ≤ a2 ∧ a2 ≤ 2147483646) (d0 : -2147483648 ≤ t0 ∧ t0 ≤ 2147483647) (M : Int) (pm : 2147483647 - a2 ≤ M) {r : z_M → Int → z_O} {k : z_M → z_O} (hr : ∀ (s' : z_M) (v2 : Int), z_CI s' → z_Fr R_X8_build_296 r0 s' → (-2147483648 ≤ v2 ∧ v2 ≤ 2147483647) → (2147483647 - v2 < M) → z_T (r s' v2) (P_X8_build_296 r0)) (hk : ∀ (s' : z_M), z_CI s' → z_Fr R_X8_build_296 r0 s' → z_T (k s') (P_X8_build_296 r0)) : z_T (fX8_build_J95 fu s 296 a1 a2 t0 r k) (P_X8_build_296 r0) := by
  refine T_of (fX8_build_J95.eq_1 ..) ?_
  have u1 := CI_b c (k := 296) (j := 9) bd_296_9
  refine T_if1 (by decide +kernel) ?_
  refine T_let 299 (by decide +kernel) ?_
  refine T_ite (fun h2 => ?_) (fun h2 => ?_)
  · exact sj_X8_build_296_J114 hfu r0 s c f a1 a2 t0 a2 t0 (by omega) (by omega) (by omega) (by omega) (by omega) M (by omega) (fun s' v2 c' f' w2 pg => hr s' v2 c' f' w2 (by omega)) hk
  · exact sj_X8_build_296_J114 hfu r0 s c f a1 a2 t0 a2 (-1000) (by omega) (by omega) (by omega) (by omega) (by omega) M (by omega) (fun s' v2 c' f' w2 pg => hr s' v2 c' f' w2 (by omega)) hk
theorem sl_X8_build_296_L51 {fu : Nat} (hfu : 8589934592 ≤ fu) (r0 : z_M) (a1 : Int) (b1 : -2147483648 ≤ a1 ∧ a1 ≤ 2147483647) {k : z_M → z_O} (hk : ∀ (s' : z_M), z_CI s' → z_Fr R_X8_build_296 r0 s' → z_T (k s') (P_X8_build_296 r0)) : ∀ (F : Nat) (s : z_M) (a2 : Int), z_CI s → z_Fr R_X8_build_296 r0 s → (-2147483648 ≤ a2 ∧ a2 ≤ 2147483647) → (2147483647 - a2 < (F : Int)) → z_T (fX8_build_L51 fu 296 a1 F s a2 k) (P_X8_build_296 r0) := by
  intro F
  induction F with
  | zero =>
    intro s a2 c f b2 hm
    have u40 := CI_b c (k := 296) (j := 9) bd_296_9
    exfalso; omega
  | succ F ih =>
    intro s a2 c f b2 hm
    refine T_of (fX8_build_L51.eq_2 ..) ?_
    have u1 := CI_b c (k := 296) (j := 9) bd_296_9
    refine T_ite (fun h2 => ?_) (fun h2 => ?_)
    · exact hk s c f
    · refine T_if1 (by decide +kernel) ?_
      refine T_leq (fun x3 e4 => ?_)
      have u5 := CI_b c (k := 296) (j := 9) bd_296_9
      refine T_leq (fun x6 e7 => ?_)
      have w8 := z_wr e7
      refine T_if1 (by decide +kernel) ?_
      refine T_upg c bd_296_9 (by omega) (fun s9 c10 g12 g13 e14 => ?_)
      have f11 := z_Fr.upf (R := R_X8_build_296) f g12 g13 (Or.inr (⟨rfl, by decide⟩))
      refine T_if1 (by decide +kernel) ?_
      refine T_useI (sf_X8_visit_296 hfu s9 c10 a2 1 1 (by omega) (by omega) (by omega)) (fun v20 s15 hq => ?_)
      obtain ⟨c16, f17, ⟨x19, rfl, b21, b22⟩⟩ := hq
      refine T_vI ?_
      have f18 := z_Fr.tr (R := R_X8_build_296) f11 f17 rs_X8_visit_296__X8_build_296
      have t23 : s15 296 9 = s9 296 9 := f17 296 9 (by decide)
      refine T_leq (fun x24 e25 => ?_)
      have w26 := z_wr e25
      refine T_ite (fun h27 => ?_) (fun h27 => ?_)
      · exact sj_X8_build_296_J95 hfu r0 s15 c16 f18 a1 a2 2147483647 (by omega) (by omega) (by omega) (2147483647 - a2) (by omega) (fun s' v2 c' f' w2 pg => ih s' v2 c' f' w2 (by omega)) hk
      · refine T_leq (fun x28 e29 => ?_)
        have w30 := z_wr e29
        refine T_if1 (by decide +kernel) ?_
        refine T_useI (sf_X8_visit_296 hfu s15 c16 x28 0 0 (by omega) (by omega) (by omega)) (fun v36 s31 hq => ?_)
        obtain ⟨c32, f33, ⟨x35, rfl, b37, b38⟩⟩ := hq
        refine T_vI ?_
        have f34 := z_Fr.tr (R := R_X8_build_296) f18 f33 rs_X8_visit_296__X8_build_296
        have t39 : s31 296 9 = s15 296 9 := f33 296 9 (by decide)
        exact sj_X8_build_296_J95 hfu r0 s31 c32 f34 a1 a2 x35 (by omega) (by omega) (by omega) (2147483647 - a2) (by omega) (fun s' v2 c' f' w2 pg => ih s' v2 c' f' w2 (by omega)) hk
theorem sf_X8_build_296 {fu : Nat} (hfu : 8589934592 ≤ fu) (r0 : z_M) (c0 : z_CI r0) : z_T (fX8_build fu r0 296) (P_X8_build_296 r0) := by
  refine T_of (fX8_build.eq_1 ..) ?_
  refine T_if1 (by decide +kernel) ?_
  refine T_let 258 (by decide +kernel) ?_
  refine T_if1 (by decide +kernel) ?_
  refine T_useI (sf_X3_lineCount_258 hfu r0 c0) (fun v6 s1 hq => ?_)
  obtain ⟨c2, f3, ⟨x5, rfl, b7, b8⟩⟩ := hq
  refine T_vI ?_
  have f4 := z_Fr.tr (R := R_X8_build_296) z_Fr.rf f3 (fun a b h => absurd h not_false)
  have t9 : s1 296 9 = r0 296 9 := f3 296 9 (by decide)
  refine sl_X8_build_296_L10 hfu r0 x5 (by omega) (fun s10 c11 f12 => ?_) fu s1 0 c2 f4 (by omega) (by omega)
  have u13 := CI_b c11 (k := 296) (j := 9) bd_296_9
  refine sl_X8_build_296_L51 hfu r0 x5 (by omega) (fun s14 c15 f16 => ?_) fu s10 0 c11 f12 (by omega) (by omega)
  have u17 := CI_b c15 (k := 296) (j := 9) bd_296_9
  exact T_ret ⟨c15, f16, rfl⟩
abbrev R_X6_isSmall (a b : Int) : Prop := False
abbrev P_X6_isSmall (r0 : z_M) : z_V → z_M → Prop := fun v s' => z_CI s' ∧ z_Fr R_X6_isSmall r0 s' ∧ (∃ x, v = vI x ∧ 0 ≤ x ∧ x ≤ 1)
theorem sj_X6_isSmall_J17 {fu : Nat} (hfu : 8589934592 ≤ fu) (r0 s : z_M) (c : z_CI s) (f : z_Fr R_X6_isSmall r0 s) (t0 : Int) (d0 : 0 ≤ t0 ∧ t0 ≤ 1) : z_T (fX6_isSmall_J17 fu s t0) (P_X6_isSmall r0) := by
  refine T_of (fX6_isSmall_J17.eq_1 ..) ?_
  refine T_if1 (by unfold z_bl; omega) ?_
  exact T_ret ⟨c, f, ⟨t0, rfl, by omega, by omega⟩⟩
theorem sj_X6_isSmall_J16 {fu : Nat} (hfu : 8589934592 ≤ fu) (r0 s : z_M) (c : z_CI s) (f : z_Fr R_X6_isSmall r0 s) : z_T (fX6_isSmall_J16 fu s) (P_X6_isSmall r0) := by
  refine T_of (fX6_isSmall_J16.eq_1 ..) ?_
  exact sj_X6_isSmall_J17 hfu r0 s c f 0 (by omega)
theorem sf_X6_isSmall {fu : Nat} (hfu : 8589934592 ≤ fu) (r0 : z_M) (c0 : z_CI r0) (a0 : Int) (b0 : -2147483648 ≤ a0 ∧ a0 ≤ 2147483647) : z_T (fX6_isSmall fu r0 a0) (P_X6_isSmall r0) := by
  refine T_of (fX6_isSmall.eq_1 ..) ?_
  refine T_ite (fun h1 => ?_) (fun h1 => ?_)
  · exact sj_X6_isSmall_J16 hfu r0 r0 c0 z_Fr.rf
  · refine T_ite (fun h2 => ?_) (fun h2 => ?_)
    · exact sj_X6_isSmall_J16 hfu r0 r0 c0 z_Fr.rf
    · exact sj_X6_isSmall_J17 hfu r0 r0 c0 z_Fr.rf 1 (by omega)
abbrev R_X9_addLetter_19 (a b : Int) : Prop := (29 ≤ a ∧ a ≤ 31)
abbrev P_X9_addLetter_19 (r0 : z_M) : z_V → z_M → Prop := fun v s' => z_CI s' ∧ z_Fr R_X9_addLetter_19 r0 s' ∧ (v = vN)
theorem sf_X9_addLetter_19 {fu : Nat} (hfu : 8589934592 ≤ fu) (r0 : z_M) (c0 : z_CI r0) (a1 : Int) (a2 : Int) (a3 : Int) (b1 : -2147483648 ≤ a1 ∧ a1 ≤ 2147483647) (b2 : -2147483648 ≤ a2 ∧ a2 ≤ 2147483647) (b3 : -2147483648 ≤ a3 ∧ a3 ≤ 2147483647) : z_T (fX9_addLetter fu r0 19 a1 a2 a3) (P_X9_addLetter_19 r0) := by
  refine T_of (fX9_addLetter.eq_1 ..) ?_
  refine T_if1 (by decide +kernel) ?_
  refine T_bR ?_
  refine T_of (fX9_readings.eq_1 ..) ?_
  refine T_ite (fun h1 => ?_) (fun h1 => ?_)
  · refine T_if1 (by decide +kernel) ?_
    refine T_let 30 (by decide +kernel) ?_
    refine T_of (fX9_readings_J15.eq_1 ..) ?_
    refine T_rR ?_
    refine T_if1 (by decide +kernel) ?_
    refine T_lget (by decide +kernel) (c := 31) (by decide +kernel) bdr_31 (by decide) c0 (fun x2 e3 b4 => ?_)
    refine T_leq (fun x6 e7 => ?_)
    have w8 : -9223372036854775808 ≤ x6 ∧ x6 ≤ 9223372036854775807 := by rw [← e7]; exact z_i64b _
    refine T_leq (fun x9 e10 => ?_)
    have w11 := z_wr e10
    refine T_leq (fun x12 e13 => ?_)
    have w14 := z_wlr e13
    refine T_leq (fun x15 e16 => ?_)
    have w17 := z_wr e16
    refine T_leq (fun x18 e19 => ?_)
    have w20 := z_wr e19
    refine T_leq (fun x21 e22 => ?_)
    have w23 := z_wr e22
    refine T_leq (fun x24 e25 => ?_)
    have w26 : -9223372036854775808 ≤ x24 ∧ x24 ≤ 9223372036854775807 := by rw [← e25]; exact z_i64b _
    refine T_leq (fun x27 e28 => ?_)
    have w29 := z_wlr e28
    refine T_if1 (by decide +kernel) ?_
    refine T_lput (by decide +kernel) (c := 31) (by decide +kernel) bdr_31 (by omega) c0 (fun s30 e33 c31 g34 => ?_)
    have f32 := z_Fr.up (R := R_X9_addLetter_19) z_Fr.rf g34 (fun _ => (⟨by decide, by decide⟩))
    exact T_ret ⟨c31, f32, rfl⟩
  · refine T_if1 (by decide +kernel) ?_
    refine T_let 28 (by decide +kernel) ?_
    refine T_of (fX9_readings_J15.eq_1 ..) ?_
    refine T_rR ?_
    refine T_if1 (by decide +kernel) ?_
    refine T_lget (by decide +kernel) (c := 29) (by decide +kernel) bdr_29 (by decide) c0 (fun x35 e36 b37 => ?_)
    refine T_leq (fun x39 e40 => ?_)
    have w41 : -9223372036854775808 ≤ x39 ∧ x39 ≤ 9223372036854775807 := by rw [← e40]; exact z_i64b _
    refine T_leq (fun x42 e43 => ?_)
    have w44 := z_wr e43
    refine T_leq (fun x45 e46 => ?_)
    have w47 := z_wlr e46
    refine T_leq (fun x48 e49 => ?_)
    have w50 := z_wr e49
    refine T_leq (fun x51 e52 => ?_)
    have w53 := z_wr e52
    refine T_leq (fun x54 e55 => ?_)
    have w56 := z_wr e55
    refine T_leq (fun x57 e58 => ?_)
    have w59 : -9223372036854775808 ≤ x57 ∧ x57 ≤ 9223372036854775807 := by rw [← e58]; exact z_i64b _
    refine T_leq (fun x60 e61 => ?_)
    have w62 := z_wlr e61
    refine T_if1 (by decide +kernel) ?_
    refine T_lput (by decide +kernel) (c := 29) (by decide +kernel) bdr_29 (by omega) c0 (fun s63 e66 c64 g67 => ?_)
    have f65 := z_Fr.up (R := R_X9_addLetter_19) z_Fr.rf g67 (fun _ => (⟨by decide, by decide⟩))
    exact T_ret ⟨c64, f65, rfl⟩
abbrev R_X6_stepInReading_32 (a b : Int) : Prop := (29 ≤ a ∧ a ≤ 31) ∨ (a = 32 ∧ (b = 1 ∨ b = 4 ∨ b = 6))
abbrev P_X6_stepInReading_32 (r0 : z_M) : z_V → z_M → Prop := fun v s' => z_CI s' ∧ z_Fr R_X6_stepInReading_32 r0 s' ∧ (∃ x, v = vI x ∧ -2147483648 ≤ x ∧ x ≤ 2147483647)
theorem sj_X6_stepInReading_32_J58 {fu : Nat} (hfu : 8589934592 ≤ fu) (r0 s : z_M) (c : z_CI s) (f : z_Fr R_X6_stepInReading_32 r0 s) : z_T (fX6_stepInReading_J58 fu s) (P_X6_stepInReading_32 r0) := by
  refine T_of (fX6_stepInReading_J58.eq_1 ..) ?_
  have u1 := CI_b c (k := 32) (j := 4) bd_32_4
  have u2 := CI_b c (k := 32) (j := 5) bd_32_5
  have u3 := CI_b c (k := 32) (j := 6) bd_32_6
  exact T_ret ⟨c, f, ⟨1, rfl, by omega, by omega⟩⟩
theorem sj_X6_stepInReading_32_J109 {fu : Nat} (hfu : 8589934592 ≤ fu) (r0 s : z_M) (c : z_CI s) (f : z_Fr R_X6_stepInReading_32 r0 s) (t1 : Int) (d1 : 0 ≤ t1 ∧ t1 ≤ 1) : z_T (fX6_stepInReading_J109 fu s 32 t1) (P_X6_stepInReading_32 r0) := by
  refine T_of (fX6_stepInReading_J109.eq_1 ..) ?_
  have u1 := CI_b c (k := 32) (j := 4) bd_32_4
  have u2 := CI_b c (k := 32) (j := 5) bd_32_5
  have u3 := CI_b c (k := 32) (j := 6) bd_32_6
  refine T_if1 (by decide +kernel) ?_
  refine T_upg c bd_32_1 (by omega) (fun s4 c5 g7 g8 e9 => ?_)
  have f6 := z_Fr.upf (R := R_X6_stepInReading_32) f g7 g8 (Or.inr (⟨rfl, by decide⟩))
  have t10 : s4 32 4 = s 32 4 := g8 4 (by decide)
  have t11 : s4 32 5 = s 32 5 := g8 5 (by decide)
  have t12 : s4 32 6 = s 32 6 := g8 6 (by decide)
  exact T_ret ⟨c5, f6, ⟨0, rfl, by omega, by omega⟩⟩
theorem sj_X6_stepInReading_32_J97 {fu : Nat} (hfu : 8589934592 ≤ fu) (r0 s : z_M) (c : z_CI s) (f : z_Fr R_X6_stepInReading_32 r0 s) (a1 : Int) (b1 : -2147483648 ≤ a1 ∧ a1 ≤ 2147483647) : z_T (fX6_stepInReading_J97 fu s 32 a1) (P_X6_stepInReading_32 r0) := by
  refine T_of (fX6_stepInReading_J97.eq_1 ..) ?_
  have u1 := CI_b c (k := 32) (j := 4) bd_32_4
  have u2 := CI_b c (k := 32) (j := 5) bd_32_5
  have u3 := CI_b c (k := 32) (j := 6) bd_32_6
  refine T_ite (fun h4 => ?_) (fun h4 => ?_)
  · exact sj_X6_stepInReading_32_J109 hfu r0 s c f 0 (by omega)
  · exact sj_X6_stepInReading_32_J109 hfu r0 s c f 1 (by omega)
theorem sj_X6_stepInReading_32_J85 {fu : Nat} (hfu : 8589934592 ≤ fu) (r0 s : z_M) (c : z_CI s) (f : z_Fr R_X6_stepInReading_32 r0 s) (a1 : Int) (b1 : -2147483648 ≤ a1 ∧ a1 ≤ 2147483647) : z_T (fX6_stepInReading_J85 fu s 32 a1) (P_X6_stepInReading_32 r0) := by
  refine T_of (fX6_stepInReading_J85.eq_1 ..) ?_
  have u1 := CI_b c (k := 32) (j := 4) bd_32_4
  have u2 := CI_b c (k := 32) (j := 5) bd_32_5
  have u3 := CI_b c (k := 32) (j := 6) bd_32_6
  refine T_ite (fun h4 => ?_) (fun h4 => ?_)
  · exact sj_X6_stepInReading_32_J97 hfu r0 s c f a1 (by omega)
  · refine T_ite (fun h5 => ?_) (fun h5 => ?_)
    · exact T_ret ⟨c, f, ⟨1, rfl, by omega, by omega⟩⟩
    · exact sj_X6_stepInReading_32_J97 hfu r0 s c f a1 (by omega)
theorem sj_X6_stepInReading_32_J44 {fu : Nat} (hfu : 8589934592 ≤ fu) (r0 s : z_M) (c : z_CI s) (f : z_Fr R_X6_stepInReading_32 r0 s) (a1 : Int) (b1 : -2147483648 ≤ a1 ∧ a1 ≤ 2147483647) : z_T (fX6_stepInReading_J44 fu s 32 a1) (P_X6_stepInReading_32 r0) := by
  refine T_of (fX6_stepInReading_J44.eq_1 ..) ?_
  have u1 := CI_b c (k := 32) (j := 4) bd_32_4
  have u2 := CI_b c (k := 32) (j := 5) bd_32_5
  have u3 := CI_b c (k := 32) (j := 6) bd_32_6
  refine T_if1 (by decide +kernel) ?_
  refine T_leq (fun x4 e5 => ?_)
  have u6 := CI_b c (k := 32) (j := 4) bd_32_4
  refine T_ite (fun h7 => ?_) (fun h7 => ?_)
  · exact sj_X6_stepInReading_32_J58 hfu r0 s c f
  · refine T_useI (sf_X6_isSmall hfu s c a1 (by omega)) (fun v13 s8 hq => ?_)
    obtain ⟨c9, f10, ⟨x12, rfl, b14, b15⟩⟩ := hq
    refine T_vI ?_
    have f11 := z_Fr.tr (R := R_X6_stepInReading_32) f f10 (fun a b h => absurd h not_false)
    have t16 : s8 32 4 = s 32 4 := f10 32 4 (by decide)
    have t17 : s8 32 5 = s 32 5 := f10 32 5 (by decide)
    have t18 : s8 32 6 = s 32 6 := f10 32 6 (by decide)
    refine T_ite (fun h19 => ?_) (fun h19 => ?_)
    · refine T_ite (fun h20 => ?_) (fun h20 => ?_)
      · exact sj_X6_stepInReading_32_J85 hfu r0 s8 c9 f11 a1 (by omega)
      · refine T_if1 (by decide +kernel) ?_
        refine T_leq (fun x21 e22 => ?_)
        have u23 := CI_b c9 (k := 32) (j := 6) bd_32_6
        refine T_ite (fun h24 => ?_) (fun h24 => ?_)
        · exact sj_X6_stepInReading_32_J85 hfu r0 s8 c9 f11 a1 (by omega)
        · refine T_if1 (by decide +kernel) ?_
          refine T_upg c9 bd_32_6 (by omega) (fun s25 c26 g28 g29 e30 => ?_)
          have f27 := z_Fr.upf (R := R_X6_stepInReading_32) f11 g28 g29 (Or.inr (⟨rfl, by decide⟩))
          have t31 : s25 32 4 = s8 32 4 := g29 4 (by decide)
          have t32 : s25 32 5 = s8 32 5 := g29 5 (by decide)
          refine T_if1 (by decide +kernel) ?_
          refine T_upg c26 bd_32_4 (by omega) (fun s33 c34 g36 g37 e38 => ?_)
          have f35 := z_Fr.upf (R := R_X6_stepInReading_32) f27 g36 g37 (Or.inr (⟨rfl, by decide⟩))
          have t39 : s33 32 5 = s25 32 5 := g37 5 (by decide)
          have t40 : s33 32 6 = s25 32 6 := g37 6 (by decide)
          exact T_ret ⟨c34, f35, ⟨0, rfl, by omega, by omega⟩⟩
    · exact sj_X6_stepInReading_32_J58 hfu r0 s8 c9 f11
theorem rs_X9_addLetter_19__X6_stepInReading_32 (a b : Int) (h : R_X9_addLetter_19 a b) : R_X6_stepInReading_32 a b := (Or.inl (⟨by omega, by omega⟩))
theorem sf_X6_stepInReading_32 {fu : Nat} (hfu : 8589934592 ≤ fu) (r0 : z_M) (c0 : z_CI r0) (a1 : Int) (b1 : -2147483648 ≤ a1 ∧ a1 ≤ 2147483647) : z_T (fX6_stepInReading fu r0 32 a1) (P_X6_stepInReading_32 r0) := by
  refine T_of (fX6_stepInReading.eq_1 ..) ?_
  refine T_useI (sf_X6_isSmall hfu r0 c0 a1 (by omega)) (fun v6 s1 hq => ?_)
  obtain ⟨c2, f3, ⟨x5, rfl, b7, b8⟩⟩ := hq
  refine T_vI ?_
  have f4 := z_Fr.tr (R := R_X6_stepInReading_32) z_Fr.rf f3 (fun a b h => absurd h not_false)
  have t9 : s1 32 4 = r0 32 4 := f3 32 4 (by decide)
  have t10 : s1 32 5 = r0 32 5 := f3 32 5 (by decide)
  have t11 : s1 32 6 = r0 32 6 := f3 32 6 (by decide)
  refine T_ite (fun h12 => ?_) (fun h12 => ?_)
  · exact sj_X6_stepInReading_32_J44 hfu r0 s1 c2 f4 a1 (by omega)
  · refine T_if1 (by decide +kernel) ?_
    refine T_leq (fun x13 e14 => ?_)
    have u15 := CI_b c2 (k := 32) (j := 4) bd_32_4
    refine T_ite (fun h16 => ?_) (fun h16 => ?_)
    · exact sj_X6_stepInReading_32_J44 hfu r0 s1 c2 f4 a1 (by omega)
    · refine T_if1 (by decide +kernel) ?_
      refine T_leq (fun x17 e18 => ?_)
      have u19 := CI_b c2 (k := 32) (j := 4) bd_32_4
      refine T_leq (fun x20 e21 => ?_)
      have w22 := z_wr e21
      refine T_if1 (by decide +kernel) ?_
      refine T_upg c2 bd_32_4 (by omega) (fun s23 c24 g26 g27 e28 => ?_)
      have f25 := z_Fr.upf (R := R_X6_stepInReading_32) f4 g26 g27 (Or.inr (⟨rfl, by decide⟩))
      have t29 : s23 32 5 = s1 32 5 := g27 5 (by decide)
      have t30 : s23 32 6 = s1 32 6 := g27 6 (by decide)
      refine T_if1 (by decide +kernel) ?_
      refine T_let 19 (by decide +kernel) ?_
      refine T_if1 (by decide +kernel) ?_
      refine T_leq (fun x31 e32 => ?_)
      have u33 := CI_b c24 (k := 32) (j := 6) bd_32_6
      refine T_if1 (by decide +kernel) ?_
      refine T_leq (fun x34 e35 => ?_)
      have u36 := CI_b c24 (k := 32) (j := 5) bd_32_5
      refine T_if1 (by decide +kernel) ?_
      refine T_useN (sf_X9_addLetter_19 hfu s23 c24 x31 x34 a1 (by omega) (by omega) (by omega)) (fun v42 s37 hq => ?_)
      obtain ⟨c38, f39, rfl⟩ := hq
      refine T_vN ?_
      have f40 := z_Fr.tr (R := R_X6_stepInReading_32) f25 f39 rs_X9_addLetter_19__X6_stepInReading_32
      have t45 : s37 32 4 = s23 32 4 := f39 32 4 (by decide)
      have t46 : s37 32 5 = s23 32 5 := f39 32 5 (by decide)
      have t47 : s37 32 6 = s23 32 6 := f39 32 6 (by decide)
      exact T_ret ⟨c38, f40, ⟨0, rfl, by omega, by omega⟩⟩
abbrev R_X6_isBig (a b : Int) : Prop := False
abbrev P_X6_isBig (r0 : z_M) : z_V → z_M → Prop := fun v s' => z_CI s' ∧ z_Fr R_X6_isBig r0 s' ∧ (∃ x, v = vI x ∧ 0 ≤ x ∧ x ≤ 1)
theorem sj_X6_isBig_J17 {fu : Nat} (hfu : 8589934592 ≤ fu) (r0 s : z_M) (c : z_CI s) (f : z_Fr R_X6_isBig r0 s) (t0 : Int) (d0 : 0 ≤ t0 ∧ t0 ≤ 1) : z_T (fX6_isBig_J17 fu s t0) (P_X6_isBig r0) := by
  refine T_of (fX6_isBig_J17.eq_1 ..) ?_
  refine T_if1 (by unfold z_bl; omega) ?_
  exact T_ret ⟨c, f, ⟨t0, rfl, by omega, by omega⟩⟩
theorem sj_X6_isBig_J16 {fu : Nat} (hfu : 8589934592 ≤ fu) (r0 s : z_M) (c : z_CI s) (f : z_Fr R_X6_isBig r0 s) : z_T (fX6_isBig_J16 fu s) (P_X6_isBig r0) := by
  refine T_of (fX6_isBig_J16.eq_1 ..) ?_
  exact sj_X6_isBig_J17 hfu r0 s c f 0 (by omega)
theorem sf_X6_isBig {fu : Nat} (hfu : 8589934592 ≤ fu) (r0 : z_M) (c0 : z_CI r0) (a0 : Int) (b0 : -2147483648 ≤ a0 ∧ a0 ≤ 2147483647) : z_T (fX6_isBig fu r0 a0) (P_X6_isBig r0) := by
  refine T_of (fX6_isBig.eq_1 ..) ?_
  refine T_ite (fun h1 => ?_) (fun h1 => ?_)
  · exact sj_X6_isBig_J16 hfu r0 r0 c0 z_Fr.rf
  · refine T_ite (fun h2 => ?_) (fun h2 => ?_)
    · exact sj_X6_isBig_J16 hfu r0 r0 c0 z_Fr.rf
    · exact sj_X6_isBig_J17 hfu r0 r0 c0 z_Fr.rf 1 (by omega)
abbrev R_X9_add_19 (a b : Int) : Prop := (21 ≤ a ∧ a ≤ 31) ∨ (a = 19 ∧ (b = 6))
abbrev P_X9_add_19 (r0 : z_M) : z_V → z_M → Prop := fun v s' => z_CI s' ∧ z_Fr R_X9_add_19 r0 s' ∧ (v = vN)
theorem sf_X9_add_19 {fu : Nat} (hfu : 8589934592 ≤ fu) (r0 : z_M) (c0 : z_CI r0) (a1 : Int) (a2 : Int) (a3 : Int) (a4 : Int) (b1 : -2147483648 ≤ a1 ∧ a1 ≤ 2147483647) (b2 : -2147483648 ≤ a2 ∧ a2 ≤ 2147483647) (b3 : -2147483648 ≤ a3 ∧ a3 ≤ 2147483647) (b4 : -2147483648 ≤ a4 ∧ a4 ≤ 2147483647) (p0 : r0 19 6 ≤ 199) : z_T (fX9_add fu r0 19 a1 a2 a3 a4) (P_X9_add_19 r0) := by
  refine T_of (fX9_add.eq_1 ..) ?_
  refine T_if1 (by decide +kernel) ?_
  refine T_let 20 (by decide +kernel) ?_
  refine T_if1 (by decide +kernel) ?_
  refine T_leq (fun x1 e2 => ?_)
  have u3 := CI_b c0 (k := 19) (j := 6) bd_19_6
  refine T_if1 (by decide +kernel) ?_
  refine T_put (by decide +kernel) (c := 21) (by decide +kernel) bdr_21 (by omega) c0 (fun s4 e7 c5 g8 => ?_)
  have f6 := z_Fr.up (R := R_X9_add_19) z_Fr.rf g8 (fun _ => (Or.inl (⟨by decide, by decide⟩)))
  have t9 : s4 19 6 = r0 19 6 := g8 19 6 (by decide)
  refine T_if1 (by decide +kernel) ?_
  refine T_let 22 (by decide +kernel) ?_
  refine T_if1 (by decide +kernel) ?_
  refine T_leq (fun x10 e11 => ?_)
  have u12 := CI_b c5 (k := 19) (j := 6) bd_19_6
  refine T_if1 (by decide +kernel) ?_
  refine T_put (by decide +kernel) (c := 23) (by decide +kernel) bdr_23 (by omega) c5 (fun s13 e16 c14 g17 => ?_)
  have f15 := z_Fr.up (R := R_X9_add_19) f6 g17 (fun _ => (Or.inl (⟨by decide, by decide⟩)))
  have t18 : s13 19 6 = s4 19 6 := g17 19 6 (by decide)
  refine T_if1 (by decide +kernel) ?_
  refine T_let 24 (by decide +kernel) ?_
  refine T_if1 (by decide +kernel) ?_
  refine T_leq (fun x19 e20 => ?_)
  have u21 := CI_b c14 (k := 19) (j := 6) bd_19_6
  refine T_if1 (by decide +kernel) ?_
  refine T_put (by decide +kernel) (c := 25) (by decide +kernel) bdr_25 (by omega) c14 (fun s22 e25 c23 g26 => ?_)
  have f24 := z_Fr.up (R := R_X9_add_19) f15 g26 (fun _ => (Or.inl (⟨by decide, by decide⟩)))
  have t27 : s22 19 6 = s13 19 6 := g26 19 6 (by decide)
  refine T_if1 (by decide +kernel) ?_
  refine T_let 26 (by decide +kernel) ?_
  refine T_if1 (by decide +kernel) ?_
  refine T_leq (fun x28 e29 => ?_)
  have u30 := CI_b c23 (k := 19) (j := 6) bd_19_6
  refine T_if1 (by decide +kernel) ?_
  refine T_put (by decide +kernel) (c := 27) (by decide +kernel) bdr_27 (by omega) c23 (fun s31 e34 c32 g35 => ?_)
  have f33 := z_Fr.up (R := R_X9_add_19) f24 g35 (fun _ => (Or.inl (⟨by decide, by decide⟩)))
  have t36 : s31 19 6 = s22 19 6 := g35 19 6 (by decide)
  refine T_if1 (by decide +kernel) ?_
  refine T_let 28 (by decide +kernel) ?_
  refine T_if1 (by decide +kernel) ?_
  refine T_leq (fun x37 e38 => ?_)
  have u39 := CI_b c32 (k := 19) (j := 6) bd_19_6
  refine T_if1 (by decide +kernel) ?_
  refine T_lput (by decide +kernel) (c := 29) (by decide +kernel) bdr_29 (by omega) c32 (fun s40 e43 c41 g44 => ?_)
  have f42 := z_Fr.up (R := R_X9_add_19) f33 g44 (fun _ => (Or.inl (⟨by decide, by decide⟩)))
  have t45 : s40 19 6 = s31 19 6 := g44 19 6 (by decide)
  refine T_if1 (by decide +kernel) ?_
  refine T_let 30 (by decide +kernel) ?_
  refine T_if1 (by decide +kernel) ?_
  refine T_leq (fun x46 e47 => ?_)
  have u48 := CI_b c41 (k := 19) (j := 6) bd_19_6
  refine T_if1 (by decide +kernel) ?_
  refine T_lput (by decide +kernel) (c := 31) (by decide +kernel) bdr_31 (by omega) c41 (fun s49 e52 c50 g53 => ?_)
  have f51 := z_Fr.up (R := R_X9_add_19) f42 g53 (fun _ => (Or.inl (⟨by decide, by decide⟩)))
  have t54 : s49 19 6 = s40 19 6 := g53 19 6 (by decide)
  refine T_if1 (by decide +kernel) ?_
  refine T_leq (fun x55 e56 => ?_)
  have u57 := CI_b c50 (k := 19) (j := 6) bd_19_6
  refine T_leq (fun x58 e59 => ?_)
  have w60 := z_wb e59
  refine T_if1 (by decide +kernel) ?_
  refine T_upg c50 bd_19_6 (by omega) (fun s61 c62 g64 g65 e66 => ?_)
  have f63 := z_Fr.upf (R := R_X9_add_19) f51 g64 g65 (Or.inr (⟨rfl, by decide⟩))
  exact T_ret ⟨c62, f63, rfl⟩
abbrev R_X6_addSign_32 (a b : Int) : Prop := (21 ≤ a ∧ a ≤ 31) ∨ (a = 19 ∧ (b = 6))
abbrev P_X6_addSign_32 (r0 : z_M) : z_V → z_M → Prop := fun v s' => z_CI s' ∧ z_Fr R_X6_addSign_32 r0 s' ∧ (∃ x, v = vI x ∧ -2147483648 ≤ x ∧ x ≤ 2147483647)
theorem rs_X9_add_19__X6_addSign_32 (a b : Int) (h : R_X9_add_19 a b) : R_X6_addSign_32 a b := (h.elim (fun h => (Or.inl (⟨by omega, by omega⟩))) (fun h => (Or.inr (⟨h.1, by omega⟩))))
theorem sf_X6_addSign_32 {fu : Nat} (hfu : 8589934592 ≤ fu) (r0 : z_M) (c0 : z_CI r0) (a1 : Int) (a2 : Int) (a3 : Int) (a4 : Int) (b1 : -2147483648 ≤ a1 ∧ a1 ≤ 2147483647) (b2 : -2147483648 ≤ a2 ∧ a2 ≤ 2147483647) (b3 : -2147483648 ≤ a3 ∧ a3 ≤ 2147483647) (b4 : -2147483648 ≤ a4 ∧ a4 ≤ 2147483647) : z_T (fX6_addSign fu r0 32 a1 a2 a3 a4) (P_X6_addSign_32 r0) := by
  refine T_of (fX6_addSign.eq_1 ..) ?_
  refine T_if1 (by decide +kernel) ?_
  refine T_let 19 (by decide +kernel) ?_
  refine T_if1 (by decide +kernel) ?_
  refine T_leq (fun x1 e2 => ?_)
  have u3 := CI_b c0 (k := 19) (j := 6) bd_19_6
  refine T_ite (fun h4 => ?_) (fun h4 => ?_)
  · refine T_if1 (by decide +kernel) ?_
    refine T_let 19 (by decide +kernel) ?_
    refine T_if1 (by decide +kernel) ?_
    refine T_useN (sf_X9_add_19 hfu r0 c0 a1 a2 a3 a4 (by omega) (by omega) (by omega) (by omega) (by omega)) (fun v10 s5 hq => ?_)
    obtain ⟨c6, f7, rfl⟩ := hq
    refine T_vN ?_
    have f8 := z_Fr.tr (R := R_X6_addSign_32) z_Fr.rf f7 rs_X9_add_19__X6_addSign_32
    have u13 := CI_b c6 (k := 19) (j := 6) bd_19_6
    exact T_ret ⟨c6, f8, ⟨0, rfl, by omega, by omega⟩⟩
  · exact T_ret ⟨c0, z_Fr.rf, ⟨2, rfl, by omega, by omega⟩⟩
abbrev R_X6_stepInBase_32 (a b : Int) : Prop := (21 ≤ a ∧ a ≤ 31) ∨ (a = 19 ∧ (b = 6)) ∨ (a = 32 ∧ (b = 1 ∨ b = 3 ∨ b = 4 ∨ b = 6))
abbrev P_X6_stepInBase_32 (r0 : z_M) : z_V → z_M → Prop := fun v s' => z_CI s' ∧ z_Fr R_X6_stepInBase_32 r0 s' ∧ (∃ x, v = vI x ∧ -2147483648 ≤ x ∧ x ≤ 2147483647)
theorem sj_X6_stepInBase_32_J38 {fu : Nat} (hfu : 8589934592 ≤ fu) (r0 s : z_M) (c : z_CI s) (f : z_Fr R_X6_stepInBase_32 r0 s) : z_T (fX6_stepInBase_J38 fu s) (P_X6_stepInBase_32 r0) := by
  refine T_of (fX6_stepInBase_J38.eq_1 ..) ?_
  have u1 := CI_b c (k := 19) (j := 7) bd_19_7
  have u2 := CI_b c (k := 19) (j := 8) bd_19_8
  have u3 := CI_b c (k := 32) (j := 3) bd_32_3
  exact T_ret ⟨c, f, ⟨1, rfl, by omega, by omega⟩⟩
theorem rs_X6_addSign_32__X6_stepInBase_32 (a b : Int) (h : R_X6_addSign_32 a b) : R_X6_stepInBase_32 a b := (h.elim (fun h => (Or.inl (⟨by omega, by omega⟩))) (fun h => (Or.inr (Or.inl (⟨h.1, by omega⟩)))))
theorem sf_X6_stepInBase_32 {fu : Nat} (hfu : 8589934592 ≤ fu) (r0 : z_M) (c0 : z_CI r0) (a1 : Int) (b1 : -2147483648 ≤ a1 ∧ a1 ≤ 2147483647) : z_T (fX6_stepInBase fu r0 32 a1) (P_X6_stepInBase_32 r0) := by
  refine T_of (fX6_stepInBase.eq_1 ..) ?_
  refine T_ite (fun h1 => ?_) (fun h1 => ?_)
  · refine T_if1 (by decide +kernel) ?_
    refine T_leq (fun x2 e3 => ?_)
    have u4 := CI_b c0 (k := 32) (j := 3) bd_32_3
    refine T_ite (fun h5 => ?_) (fun h5 => ?_)
    · exact sj_X6_stepInBase_32_J38 hfu r0 r0 c0 z_Fr.rf
    · refine T_useI (sf_X6_isBig hfu r0 c0 a1 (by omega)) (fun v11 s6 hq => ?_)
      obtain ⟨c7, f8, ⟨x10, rfl, b12, b13⟩⟩ := hq
      refine T_vI ?_
      have f9 := z_Fr.tr (R := R_X6_stepInBase_32) z_Fr.rf f8 (fun a b h => absurd h not_false)
      have t14 : s6 19 7 = r0 19 7 := f8 19 7 (by decide)
      have t15 : s6 19 8 = r0 19 8 := f8 19 8 (by decide)
      have t16 : s6 32 3 = r0 32 3 := f8 32 3 (by decide)
      refine T_ite (fun h17 => ?_) (fun h17 => ?_)
      · refine T_if1 (by decide +kernel) ?_
        refine T_leq (fun x18 e19 => ?_)
        have u20 := CI_b c7 (k := 32) (j := 3) bd_32_3
        refine T_leq (fun x21 e22 => ?_)
        have w23 := z_wr e22
        refine T_if1 (by decide +kernel) ?_
        refine T_upg c7 bd_32_3 (by omega) (fun s24 c25 g27 g28 e29 => ?_)
        have f26 := z_Fr.upf (R := R_X6_stepInBase_32) f9 g27 g28 (Or.inr (Or.inr (⟨rfl, by decide⟩)))
        have t30 : s24 19 7 = s6 19 7 := g27 19 7 (by decide)
        have t31 : s24 19 8 = s6 19 8 := g27 19 8 (by decide)
        refine T_if1 (by decide +kernel) ?_
        refine T_let 19 (by decide +kernel) ?_
        refine T_if1 (by decide +kernel) ?_
        refine T_leq (fun x32 e33 => ?_)
        have u34 := CI_b c25 (k := 19) (j := 7) bd_19_7
        refine T_leq (fun x35 e36 => ?_)
        have w37 := z_wr e36
        refine T_if1 (by decide +kernel) ?_
        refine T_let 19 (by decide +kernel) ?_
        refine T_if1 (by decide +kernel) ?_
        refine T_leq (fun x38 e39 => ?_)
        have u40 := CI_b c25 (k := 19) (j := 8) bd_19_8
        refine T_if1 (by decide +kernel) ?_
        refine T_useI (sf_X6_addSign_32 hfu s24 c25 a1 x35 0 x38 (by omega) (by omega) (by omega) (by omega)) (fun v46 s41 hq => ?_)
        obtain ⟨c42, f43, ⟨x45, rfl, b47, b48⟩⟩ := hq
        refine T_vI ?_
        have f44 := z_Fr.tr (R := R_X6_stepInBase_32) f26 f43 rs_X6_addSign_32__X6_stepInBase_32
        have t49 : s41 19 7 = s24 19 7 := f43 19 7 (by decide)
        have t50 : s41 19 8 = s24 19 8 := f43 19 8 (by decide)
        have t51 : s41 32 3 = s24 32 3 := f43 32 3 (by decide)
        exact T_ret ⟨c42, f44, ⟨x45, rfl, by omega, by omega⟩⟩
      · exact sj_X6_stepInBase_32_J38 hfu r0 s6 c7 f9
  · refine T_if1 (by decide +kernel) ?_
    refine T_upg c0 bd_32_6 (by omega) (fun s52 c53 g55 g56 e57 => ?_)
    have f54 := z_Fr.upf (R := R_X6_stepInBase_32) z_Fr.rf g55 g56 (Or.inr (Or.inr (⟨rfl, by decide⟩)))
    have t58 : s52 19 7 = r0 19 7 := g55 19 7 (by decide)
    have t59 : s52 19 8 = r0 19 8 := g55 19 8 (by decide)
    have t60 : s52 32 3 = r0 32 3 := g56 3 (by decide)
    refine T_if1 (by decide +kernel) ?_
    refine T_upg c53 bd_32_4 (by omega) (fun s61 c62 g64 g65 e66 => ?_)
    have f63 := z_Fr.upf (R := R_X6_stepInBase_32) f54 g64 g65 (Or.inr (Or.inr (⟨rfl, by decide⟩)))
    have t67 : s61 19 7 = s52 19 7 := g64 19 7 (by decide)
    have t68 : s61 19 8 = s52 19 8 := g64 19 8 (by decide)
    have t69 : s61 32 3 = s52 32 3 := g65 3 (by decide)
    refine T_if1 (by decide +kernel) ?_
    refine T_upg c62 bd_32_1 (by omega) (fun s70 c71 g73 g74 e75 => ?_)
    have f72 := z_Fr.upf (R := R_X6_stepInBase_32) f63 g73 g74 (Or.inr (Or.inr (⟨rfl, by decide⟩)))
    have t76 : s70 19 7 = s61 19 7 := g73 19 7 (by decide)
    have t77 : s70 19 8 = s61 19 8 := g73 19 8 (by decide)
    have t78 : s70 32 3 = s61 32 3 := g74 3 (by decide)
    exact T_ret ⟨c71, f72, ⟨0, rfl, by omega, by omega⟩⟩
abbrev R_X6_stepBaseDue_32 (a b : Int) : Prop := (21 ≤ a ∧ a ≤ 31) ∨ (a = 19 ∧ (b = 6)) ∨ (a = 32 ∧ (b = 1 ∨ b = 2 ∨ b = 3 ∨ b = 5))
abbrev P_X6_stepBaseDue_32 (r0 : z_M) : z_V → z_M → Prop := fun v s' => z_CI s' ∧ z_Fr R_X6_stepBaseDue_32 r0 s' ∧ (∃ x, v = vI x ∧ -2147483648 ≤ x ∧ x ≤ 2147483647)
theorem sj_X6_stepBaseDue_32_J15 {fu : Nat} (hfu : 8589934592 ≤ fu) (r0 s : z_M) (c : z_CI s) (f : z_Fr R_X6_stepBaseDue_32 r0 s) : z_T (fX6_stepBaseDue_J15 fu s) (P_X6_stepBaseDue_32 r0) := by
  refine T_of (fX6_stepBaseDue_J15.eq_1 ..) ?_
  have u1 := CI_b c (k := 19) (j := 6) bd_19_6
  have u2 := CI_b c (k := 19) (j := 7) bd_19_7
  have u3 := CI_b c (k := 19) (j := 8) bd_19_8
  have u4 := CI_b c (k := 32) (j := 2) bd_32_2
  exact T_ret ⟨c, f, ⟨1, rfl, by omega, by omega⟩⟩
theorem rs_X6_addSign_32__X6_stepBaseDue_32 (a b : Int) (h : R_X6_addSign_32 a b) : R_X6_stepBaseDue_32 a b := (h.elim (fun h => (Or.inl (⟨by omega, by omega⟩))) (fun h => (Or.inr (Or.inl (⟨h.1, by omega⟩)))))
theorem sf_X6_stepBaseDue_32 {fu : Nat} (hfu : 8589934592 ≤ fu) (r0 : z_M) (c0 : z_CI r0) (a1 : Int) (b1 : -2147483648 ≤ a1 ∧ a1 ≤ 2147483647) : z_T (fX6_stepBaseDue fu r0 32 a1) (P_X6_stepBaseDue_32 r0) := by
  refine T_of (fX6_stepBaseDue.eq_1 ..) ?_
  refine T_if1 (by decide +kernel) ?_
  refine T_leq (fun x1 e2 => ?_)
  have u3 := CI_b c0 (k := 32) (j := 2) bd_32_2
  refine T_ite (fun h4 => ?_) (fun h4 => ?_)
  · exact sj_X6_stepBaseDue_32_J15 hfu r0 r0 c0 z_Fr.rf
  · refine T_useI (sf_X6_isBig hfu r0 c0 a1 (by omega)) (fun v10 s5 hq => ?_)
    obtain ⟨c6, f7, ⟨x9, rfl, b11, b12⟩⟩ := hq
    refine T_vI ?_
    have f8 := z_Fr.tr (R := R_X6_stepBaseDue_32) z_Fr.rf f7 (fun a b h => absurd h not_false)
    have t13 : s5 19 6 = r0 19 6 := f7 19 6 (by decide)
    have t14 : s5 19 7 = r0 19 7 := f7 19 7 (by decide)
    have t15 : s5 19 8 = r0 19 8 := f7 19 8 (by decide)
    have t16 : s5 32 2 = r0 32 2 := f7 32 2 (by decide)
    refine T_ite (fun h17 => ?_) (fun h17 => ?_)
    · refine T_if1 (by decide +kernel) ?_
      refine T_leq (fun x18 e19 => ?_)
      have u20 := CI_b c6 (k := 32) (j := 2) bd_32_2
      refine T_leq (fun x21 e22 => ?_)
      have w23 := z_wr e22
      refine T_if1 (by decide +kernel) ?_
      refine T_upg c6 bd_32_2 (by omega) (fun s24 c25 g27 g28 e29 => ?_)
      have f26 := z_Fr.upf (R := R_X6_stepBaseDue_32) f8 g27 g28 (Or.inr (Or.inr (⟨rfl, by decide⟩)))
      have t30 : s24 19 6 = s5 19 6 := g27 19 6 (by decide)
      have t31 : s24 19 7 = s5 19 7 := g27 19 7 (by decide)
      have t32 : s24 19 8 = s5 19 8 := g27 19 8 (by decide)
      refine T_if1 (by decide +kernel) ?_
      refine T_upg c25 bd_32_3 (by omega) (fun s33 c34 g36 g37 e38 => ?_)
      have f35 := z_Fr.upf (R := R_X6_stepBaseDue_32) f26 g36 g37 (Or.inr (Or.inr (⟨rfl, by decide⟩)))
      have t39 : s33 19 6 = s24 19 6 := g36 19 6 (by decide)
      have t40 : s33 19 7 = s24 19 7 := g36 19 7 (by decide)
      have t41 : s33 19 8 = s24 19 8 := g36 19 8 (by decide)
      have t42 : s33 32 2 = s24 32 2 := g37 2 (by decide)
      refine T_if1 (by decide +kernel) ?_
      refine T_let 19 (by decide +kernel) ?_
      refine T_if1 (by decide +kernel) ?_
      refine T_leq (fun x43 e44 => ?_)
      have u45 := CI_b c34 (k := 19) (j := 6) bd_19_6
      refine T_if1 (by decide +kernel) ?_
      refine T_upg c34 bd_32_5 (by omega) (fun s46 c47 g49 g50 e51 => ?_)
      have f48 := z_Fr.upf (R := R_X6_stepBaseDue_32) f35 g49 g50 (Or.inr (Or.inr (⟨rfl, by decide⟩)))
      have t52 : s46 19 6 = s33 19 6 := g49 19 6 (by decide)
      have t53 : s46 19 7 = s33 19 7 := g49 19 7 (by decide)
      have t54 : s46 19 8 = s33 19 8 := g49 19 8 (by decide)
      have t55 : s46 32 2 = s33 32 2 := g50 2 (by decide)
      refine T_if1 (by decide +kernel) ?_
      refine T_upg c47 bd_32_1 (by omega) (fun s56 c57 g59 g60 e61 => ?_)
      have f58 := z_Fr.upf (R := R_X6_stepBaseDue_32) f48 g59 g60 (Or.inr (Or.inr (⟨rfl, by decide⟩)))
      have t62 : s56 19 6 = s46 19 6 := g59 19 6 (by decide)
      have t63 : s56 19 7 = s46 19 7 := g59 19 7 (by decide)
      have t64 : s56 19 8 = s46 19 8 := g59 19 8 (by decide)
      have t65 : s56 32 2 = s46 32 2 := g60 2 (by decide)
      refine T_if1 (by decide +kernel) ?_
      refine T_let 19 (by decide +kernel) ?_
      refine T_if1 (by decide +kernel) ?_
      refine T_leq (fun x66 e67 => ?_)
      have u68 := CI_b c57 (k := 19) (j := 7) bd_19_7
      refine T_leq (fun x69 e70 => ?_)
      have w71 := z_wr e70
      refine T_if1 (by decide +kernel) ?_
      refine T_let 19 (by decide +kernel) ?_
      refine T_if1 (by decide +kernel) ?_
      refine T_leq (fun x72 e73 => ?_)
      have u74 := CI_b c57 (k := 19) (j := 8) bd_19_8
      refine T_if1 (by decide +kernel) ?_
      refine T_useI (sf_X6_addSign_32 hfu s56 c57 a1 x69 1 x72 (by omega) (by omega) (by omega) (by omega)) (fun v80 s75 hq => ?_)
      obtain ⟨c76, f77, ⟨x79, rfl, b81, b82⟩⟩ := hq
      refine T_vI ?_
      have f78 := z_Fr.tr (R := R_X6_stepBaseDue_32) f58 f77 rs_X6_addSign_32__X6_stepBaseDue_32
      have t83 : s75 19 7 = s56 19 7 := f77 19 7 (by decide)
      have t84 : s75 19 8 = s56 19 8 := f77 19 8 (by decide)
      have t85 : s75 32 2 = s56 32 2 := f77 32 2 (by decide)
      have u86 := CI_b c76 (k := 19) (j := 6) bd_19_6
      exact T_ret ⟨c76, f78, ⟨x79, rfl, by omega, by omega⟩⟩
    · exact sj_X6_stepBaseDue_32_J15 hfu r0 s5 c6 f8
abbrev R_X6_standsAlone (a b : Int) : Prop := False
abbrev P_X6_standsAlone (r0 : z_M) : z_V → z_M → Prop := fun v s' => z_CI s' ∧ z_Fr R_X6_standsAlone r0 s' ∧ (∃ x, v = vI x ∧ 0 ≤ x ∧ x ≤ 1)
theorem sj_X6_standsAlone_J54 {fu : Nat} (hfu : 8589934592 ≤ fu) (r0 s : z_M) (c : z_CI s) (f : z_Fr R_X6_standsAlone r0 s) (t0 : Int) (d0 : 0 ≤ t0 ∧ t0 ≤ 1) : z_T (fX6_standsAlone_J54 fu s t0) (P_X6_standsAlone r0) := by
  refine T_of (fX6_standsAlone_J54.eq_1 ..) ?_
  refine T_if1 (by unfold z_bl; omega) ?_
  exact T_ret ⟨c, f, ⟨t0, rfl, by omega, by omega⟩⟩
theorem sj_X6_standsAlone_J49 {fu : Nat} (hfu : 8589934592 ≤ fu) (r0 s : z_M) (c : z_CI s) (f : z_Fr R_X6_standsAlone r0 s) : z_T (fX6_standsAlone_J49 fu s) (P_X6_standsAlone r0) := by
  refine T_of (fX6_standsAlone_J49.eq_1 ..) ?_
  exact sj_X6_standsAlone_J54 hfu r0 s c f 1 (by omega)
theorem sj_X6_standsAlone_J19 {fu : Nat} (hfu : 8589934592 ≤ fu) (r0 s : z_M) (c : z_CI s) (f : z_Fr R_X6_standsAlone r0 s) (a0 : Int) (b0 : -2147483648 ≤ a0 ∧ a0 ≤ 2147483647) : z_T (fX6_standsAlone_J19 fu s a0) (P_X6_standsAlone r0) := by
  refine T_of (fX6_standsAlone_J19.eq_1 ..) ?_
  refine T_ite (fun h1 => ?_) (fun h1 => ?_)
  · exact sj_X6_standsAlone_J49 hfu r0 s c f
  · refine T_ite (fun h2 => ?_) (fun h2 => ?_)
    · exact sj_X6_standsAlone_J49 hfu r0 s c f
    · refine T_ite (fun h3 => ?_) (fun h3 => ?_)
      · exact sj_X6_standsAlone_J49 hfu r0 s c f
      · refine T_ite (fun h4 => ?_) (fun h4 => ?_)
        · exact sj_X6_standsAlone_J49 hfu r0 s c f
        · refine T_ite (fun h5 => ?_) (fun h5 => ?_)
          · exact sj_X6_standsAlone_J54 hfu r0 s c f 0 (by omega)
          · exact sj_X6_standsAlone_J49 hfu r0 s c f
theorem sf_X6_standsAlone {fu : Nat} (hfu : 8589934592 ≤ fu) (r0 : z_M) (c0 : z_CI r0) (a0 : Int) (b0 : -2147483648 ≤ a0 ∧ a0 ≤ 2147483647) : z_T (fX6_standsAlone fu r0 a0) (P_X6_standsAlone r0) := by
  refine T_of (fX6_standsAlone.eq_1 ..) ?_
  refine T_useI (sf_X6_isSmall hfu r0 c0 a0 (by omega)) (fun v6 s1 hq => ?_)
  obtain ⟨c2, f3, ⟨x5, rfl, b7, b8⟩⟩ := hq
  refine T_vI ?_
  have f4 := z_Fr.tr (R := R_X6_standsAlone) z_Fr.rf f3 (fun a b h => absurd h not_false)
  refine T_ite (fun h9 => ?_) (fun h9 => ?_)
  · exact sj_X6_standsAlone_J49 hfu r0 s1 c2 f4
  · refine T_ite (fun h10 => ?_) (fun h10 => ?_)
    · exact sj_X6_standsAlone_J19 hfu r0 s1 c2 f4 a0 (by omega)
    · refine T_ite (fun h11 => ?_) (fun h11 => ?_)
      · exact sj_X6_standsAlone_J49 hfu r0 s1 c2 f4
      · exact sj_X6_standsAlone_J19 hfu r0 s1 c2 f4 a0 (by omega)
abbrev R_X6_stepOutside_32 (a b : Int) : Prop := (21 ≤ a ∧ a ≤ 31) ∨ (a = 19 ∧ (b = 6 ∨ b = 7 ∨ b = 8)) ∨ (a = 32 ∧ (b = 1 ∨ b = 2))
abbrev P_X6_stepOutside_32 (r0 : z_M) : z_V → z_M → Prop := fun v s' => z_CI s' ∧ z_Fr R_X6_stepOutside_32 r0 s' ∧ (∃ x, v = vI x ∧ -2147483648 ≤ x ∧ x ≤ 2147483647)
theorem sj_X6_stepOutside_32_J120 {fu : Nat} (hfu : 8589934592 ≤ fu) (r0 s : z_M) (c : z_CI s) (f : z_Fr R_X6_stepOutside_32 r0 s) (t0 : Int) (d0 : -2147483648 ≤ t0 ∧ t0 ≤ 2147483647) : z_T (fX6_stepOutside_J120 fu s t0) (P_X6_stepOutside_32 r0) := by
  refine T_of (fX6_stepOutside_J120.eq_1 ..) ?_
  have u1 := CI_b c (k := 19) (j := 7) bd_19_7
  have u2 := CI_b c (k := 19) (j := 8) bd_19_8
  exact T_ret ⟨c, f, ⟨t0, rfl, by omega, by omega⟩⟩
theorem rs_X6_addSign_32__X6_stepOutside_32 (a b : Int) (h : R_X6_addSign_32 a b) : R_X6_stepOutside_32 a b := (h.elim (fun h => (Or.inl (⟨by omega, by omega⟩))) (fun h => (Or.inr (Or.inl (⟨h.1, by omega⟩)))))
theorem sf_X6_stepOutside_32 {fu : Nat} (hfu : 8589934592 ≤ fu) (r0 : z_M) (c0 : z_CI r0) (a1 : Int) (b1 : -2147483648 ≤ a1 ∧ a1 ≤ 2147483647) : z_T (fX6_stepOutside fu r0 32 a1) (P_X6_stepOutside_32 r0) := by
  refine T_of (fX6_stepOutside.eq_1 ..) ?_
  refine T_ite (fun h1 => ?_) (fun h1 => ?_)
  · refine T_ite (fun h2 => ?_) (fun h2 => ?_)
    · refine T_ite (fun h3 => ?_) (fun h3 => ?_)
      · refine T_useI (sf_X6_isBig hfu r0 c0 a1 (by omega)) (fun v9 s4 hq => ?_)
        obtain ⟨c5, f6, ⟨x8, rfl, b10, b11⟩⟩ := hq
        refine T_vI ?_
        have f7 := z_Fr.tr (R := R_X6_stepOutside_32) z_Fr.rf f6 (fun a b h => absurd h not_false)
        have t12 : s4 19 7 = r0 19 7 := f6 19 7 (by decide)
        have t13 : s4 19 8 = r0 19 8 := f6 19 8 (by decide)
        refine T_ite (fun h14 => ?_) (fun h14 => ?_)
        · refine T_useI (sf_X6_standsAlone hfu s4 c5 a1 (by omega)) (fun v20 s15 hq => ?_)
          obtain ⟨c16, f17, ⟨x19, rfl, b21, b22⟩⟩ := hq
          refine T_vI ?_
          have f18 := z_Fr.tr (R := R_X6_stepOutside_32) f7 f17 (fun a b h => absurd h not_false)
          have t23 : s15 19 7 = s4 19 7 := f17 19 7 (by decide)
          have t24 : s15 19 8 = s4 19 8 := f17 19 8 (by decide)
          refine T_ite (fun h25 => ?_) (fun h25 => ?_)
          · exact sj_X6_stepOutside_32_J120 hfu r0 s15 c16 f18 1 (by omega)
          · refine T_if1 (by decide +kernel) ?_
            refine T_useI (sf_X6_addSign_32 hfu s15 c16 a1 (-1) 0 0 (by omega) (by omega) (by omega) (by omega)) (fun v31 s26 hq => ?_)
            obtain ⟨c27, f28, ⟨x30, rfl, b32, b33⟩⟩ := hq
            refine T_vI ?_
            have f29 := z_Fr.tr (R := R_X6_stepOutside_32) f18 f28 rs_X6_addSign_32__X6_stepOutside_32
            have t34 : s26 19 7 = s15 19 7 := f28 19 7 (by decide)
            have t35 : s26 19 8 = s15 19 8 := f28 19 8 (by decide)
            exact sj_X6_stepOutside_32_J120 hfu r0 s26 c27 f29 x30 (by omega)
        · refine T_if1 (by decide +kernel) ?_
          refine T_let 19 (by decide +kernel) ?_
          refine T_if1 (by decide +kernel) ?_
          refine T_leq (fun x36 e37 => ?_)
          have u38 := CI_b c5 (k := 19) (j := 8) bd_19_8
          refine T_if1 (by decide +kernel) ?_
          refine T_useI (sf_X6_addSign_32 hfu s4 c5 a1 (-1) 0 x36 (by omega) (by omega) (by omega) (by omega)) (fun v44 s39 hq => ?_)
          obtain ⟨c40, f41, ⟨x43, rfl, b45, b46⟩⟩ := hq
          refine T_vI ?_
          have f42 := z_Fr.tr (R := R_X6_stepOutside_32) f7 f41 rs_X6_addSign_32__X6_stepOutside_32
          have t47 : s39 19 7 = s4 19 7 := f41 19 7 (by decide)
          have t48 : s39 19 8 = s4 19 8 := f41 19 8 (by decide)
          exact T_ret ⟨c40, f42, ⟨x43, rfl, by omega, by omega⟩⟩
      · refine T_if1 (by decide +kernel) ?_
        refine T_let 19 (by decide +kernel) ?_
        refine T_if1 (by decide +kernel) ?_
        refine T_leq (fun x49 e50 => ?_)
        have u51 := CI_b c0 (k := 19) (j := 7) bd_19_7
        refine T_leq (fun x52 e53 => ?_)
        have w54 := z_wr e53
        refine T_if1 (by decide +kernel) ?_
        refine T_upg c0 bd_19_7 (by omega) (fun s55 c56 g58 g59 e60 => ?_)
        have f57 := z_Fr.upf (R := R_X6_stepOutside_32) z_Fr.rf g58 g59 (Or.inr (Or.inl (⟨rfl, by decide⟩)))
        have t61 : s55 19 8 = r0 19 8 := g59 8 (by decide)
        refine T_if1 (by decide +kernel) ?_
        refine T_upg c56 bd_32_2 (by omega) (fun s62 c63 g65 g66 e67 => ?_)
        have f64 := z_Fr.upf (R := R_X6_stepOutside_32) f57 g65 g66 (Or.inr (Or.inr (⟨rfl, by decide⟩)))
        have t68 : s62 19 7 = s55 19 7 := g65 19 7 (by decide)
        have t69 : s62 19 8 = s55 19 8 := g65 19 8 (by decide)
        refine T_if1 (by decide +kernel) ?_
        refine T_upg c63 bd_32_1 (by omega) (fun s70 c71 g73 g74 e75 => ?_)
        have f72 := z_Fr.upf (R := R_X6_stepOutside_32) f64 g73 g74 (Or.inr (Or.inr (⟨rfl, by decide⟩)))
        have t76 : s70 19 7 = s62 19 7 := g73 19 7 (by decide)
        have t77 : s70 19 8 = s62 19 8 := g73 19 8 (by decide)
        exact T_ret ⟨c71, f72, ⟨0, rfl, by omega, by omega⟩⟩
    · refine T_if1 (by decide +kernel) ?_
      refine T_let 19 (by decide +kernel) ?_
      refine T_if1 (by decide +kernel) ?_
      refine T_leq (fun x78 e79 => ?_)
      have u80 := CI_b c0 (k := 19) (j := 8) bd_19_8
      refine T_bI ?_
      refine T_of (fX10_markBit.eq_1 ..) ?_
      refine T_ite (fun h81 => ?_) (fun h81 => ?_)
      · refine T_of (fX10_markBit_J9.eq_1 ..) ?_
        refine T_rI ?_
        refine T_leq (fun x82 e83 => ?_)
        have w84 : -2147483648 ≤ x82 ∧ x82 ≤ 2147483647 := by rw [← e83]; exact z_i32b _
        refine T_if1 (by decide +kernel) ?_
        refine T_upg c0 bd_19_8 (by omega) (fun s85 c86 g88 g89 e90 => ?_)
        have f87 := z_Fr.upf (R := R_X6_stepOutside_32) z_Fr.rf g88 g89 (Or.inr (Or.inl (⟨rfl, by decide⟩)))
        have t91 : s85 19 7 = r0 19 7 := g89 7 (by decide)
        exact T_ret ⟨c86, f87, ⟨0, rfl, by omega, by omega⟩⟩
      · refine T_of (fX10_markBit_J9.eq_1 ..) ?_
        refine T_rI ?_
        refine T_leq (fun x92 e93 => ?_)
        have w94 : -2147483648 ≤ x92 ∧ x92 ≤ 2147483647 := by rw [← e93]; exact z_i32b _
        refine T_if1 (by decide +kernel) ?_
        refine T_upg c0 bd_19_8 (by omega) (fun s95 c96 g98 g99 e100 => ?_)
        have f97 := z_Fr.upf (R := R_X6_stepOutside_32) z_Fr.rf g98 g99 (Or.inr (Or.inl (⟨rfl, by decide⟩)))
        have t101 : s95 19 7 = r0 19 7 := g99 7 (by decide)
        exact T_ret ⟨c96, f97, ⟨0, rfl, by omega, by omega⟩⟩
  · refine T_if1 (by decide +kernel) ?_
    refine T_let 19 (by decide +kernel) ?_
    refine T_if1 (by decide +kernel) ?_
    refine T_leq (fun x102 e103 => ?_)
    have u104 := CI_b c0 (k := 19) (j := 8) bd_19_8
    refine T_bI ?_
    refine T_of (fX10_markBit.eq_1 ..) ?_
    refine T_ite (fun h105 => ?_) (fun h105 => ?_)
    · refine T_of (fX10_markBit_J9.eq_1 ..) ?_
      refine T_rI ?_
      refine T_leq (fun x106 e107 => ?_)
      have w108 : -2147483648 ≤ x106 ∧ x106 ≤ 2147483647 := by rw [← e107]; exact z_i32b _
      refine T_if1 (by decide +kernel) ?_
      refine T_upg c0 bd_19_8 (by omega) (fun s109 c110 g112 g113 e114 => ?_)
      have f111 := z_Fr.upf (R := R_X6_stepOutside_32) z_Fr.rf g112 g113 (Or.inr (Or.inl (⟨rfl, by decide⟩)))
      have t115 : s109 19 7 = r0 19 7 := g113 7 (by decide)
      exact T_ret ⟨c110, f111, ⟨0, rfl, by omega, by omega⟩⟩
    · refine T_of (fX10_markBit_J9.eq_1 ..) ?_
      refine T_rI ?_
      refine T_leq (fun x116 e117 => ?_)
      have w118 : -2147483648 ≤ x116 ∧ x116 ≤ 2147483647 := by rw [← e117]; exact z_i32b _
      refine T_if1 (by decide +kernel) ?_
      refine T_upg c0 bd_19_8 (by omega) (fun s119 c120 g122 g123 e124 => ?_)
      have f121 := z_Fr.upf (R := R_X6_stepOutside_32) z_Fr.rf g122 g123 (Or.inr (Or.inl (⟨rfl, by decide⟩)))
      have t125 : s119 19 7 = r0 19 7 := g123 7 (by decide)
      exact T_ret ⟨c120, f121, ⟨0, rfl, by omega, by omega⟩⟩
abbrev R_X6_step_32 (a b : Int) : Prop := (21 ≤ a ∧ a ≤ 31) ∨ (a = 19 ∧ (b = 6 ∨ b = 7 ∨ b = 8)) ∨ (a = 32 ∧ (b = 1 ∨ b = 2 ∨ b = 3 ∨ b = 4 ∨ b = 5 ∨ b = 6))
abbrev P_X6_step_32 (r0 : z_M) : z_V → z_M → Prop := fun v s' => z_CI s' ∧ z_Fr R_X6_step_32 r0 s' ∧ (∃ x, v = vI x ∧ -2147483648 ≤ x ∧ x ≤ 2147483647)
theorem rs_X6_stepOutside_32__X6_step_32 (a b : Int) (h : R_X6_stepOutside_32 a b) : R_X6_step_32 a b := (h.elim (fun h => (Or.inl (⟨by omega, by omega⟩))) (fun h => (h.elim (fun h => (Or.inr (Or.inl (⟨h.1, by omega⟩)))) (fun h => (Or.inr (Or.inr (⟨h.1, by omega⟩)))))))
theorem rs_X6_stepBaseDue_32__X6_step_32 (a b : Int) (h : R_X6_stepBaseDue_32 a b) : R_X6_step_32 a b := (h.elim (fun h => (Or.inl (⟨by omega, by omega⟩))) (fun h => (h.elim (fun h => (Or.inr (Or.inl (⟨h.1, by omega⟩)))) (fun h => (Or.inr (Or.inr (⟨h.1, by omega⟩)))))))
theorem rs_X6_stepInBase_32__X6_step_32 (a b : Int) (h : R_X6_stepInBase_32 a b) : R_X6_step_32 a b := (h.elim (fun h => (Or.inl (⟨by omega, by omega⟩))) (fun h => (h.elim (fun h => (Or.inr (Or.inl (⟨h.1, by omega⟩)))) (fun h => (Or.inr (Or.inr (⟨h.1, by omega⟩)))))))
theorem rs_X6_stepInReading_32__X6_step_32 (a b : Int) (h : R_X6_stepInReading_32 a b) : R_X6_step_32 a b := (h.elim (fun h => (Or.inl (⟨by omega, by omega⟩))) (fun h => (Or.inr (Or.inr (⟨h.1, by omega⟩)))))
theorem sf_X6_step_32 {fu : Nat} (hfu : 8589934592 ≤ fu) (r0 : z_M) (c0 : z_CI r0) (a1 : Int) (b1 : -2147483648 ≤ a1 ∧ a1 ≤ 2147483647) : z_T (fX6_step fu r0 32 a1) (P_X6_step_32 r0) := by
  refine T_of (fX6_step.eq_1 ..) ?_
  refine T_if1 (by decide +kernel) ?_
  refine T_leq (fun x1 e2 => ?_)
  have u3 := CI_b c0 (k := 32) (j := 1) bd_32_1
  refine T_ite (fun h4 => ?_) (fun h4 => ?_)
  · refine T_if1 (by decide +kernel) ?_
    refine T_useI (sf_X6_stepOutside_32 hfu r0 c0 a1 (by omega)) (fun v10 s5 hq => ?_)
    obtain ⟨c6, f7, ⟨x9, rfl, b11, b12⟩⟩ := hq
    refine T_vI ?_
    have f8 := z_Fr.tr (R := R_X6_step_32) z_Fr.rf f7 rs_X6_stepOutside_32__X6_step_32
    have u13 := CI_b c6 (k := 32) (j := 1) bd_32_1
    exact T_ret ⟨c6, f8, ⟨x9, rfl, by omega, by omega⟩⟩
  · refine T_ite (fun h14 => ?_) (fun h14 => ?_)
    · refine T_if1 (by decide +kernel) ?_
      refine T_useI (sf_X6_stepBaseDue_32 hfu r0 c0 a1 (by omega)) (fun v20 s15 hq => ?_)
      obtain ⟨c16, f17, ⟨x19, rfl, b21, b22⟩⟩ := hq
      refine T_vI ?_
      have f18 := z_Fr.tr (R := R_X6_step_32) z_Fr.rf f17 rs_X6_stepBaseDue_32__X6_step_32
      have u23 := CI_b c16 (k := 32) (j := 1) bd_32_1
      exact T_ret ⟨c16, f18, ⟨x19, rfl, by omega, by omega⟩⟩
    · refine T_ite (fun h24 => ?_) (fun h24 => ?_)
      · refine T_if1 (by decide +kernel) ?_
        refine T_useI (sf_X6_stepInBase_32 hfu r0 c0 a1 (by omega)) (fun v30 s25 hq => ?_)
        obtain ⟨c26, f27, ⟨x29, rfl, b31, b32⟩⟩ := hq
        refine T_vI ?_
        have f28 := z_Fr.tr (R := R_X6_step_32) z_Fr.rf f27 rs_X6_stepInBase_32__X6_step_32
        have u33 := CI_b c26 (k := 32) (j := 1) bd_32_1
        exact T_ret ⟨c26, f28, ⟨x29, rfl, by omega, by omega⟩⟩
      · refine T_if1 (by decide +kernel) ?_
        refine T_useI (sf_X6_stepInReading_32 hfu r0 c0 a1 (by omega)) (fun v39 s34 hq => ?_)
        obtain ⟨c35, f36, ⟨x38, rfl, b40, b41⟩⟩ := hq
        refine T_vI ?_
        have f37 := z_Fr.tr (R := R_X6_step_32) z_Fr.rf f36 rs_X6_stepInReading_32__X6_step_32
        have u42 := CI_b c35 (k := 32) (j := 1) bd_32_1
        exact T_ret ⟨c35, f37, ⟨x38, rfl, by omega, by omega⟩⟩
abbrev R_X6_read_32_4 (a b : Int) : Prop := (21 ≤ a ∧ a ≤ 31) ∨ (a = 19 ∧ (b = 6 ∨ b = 7 ∨ b = 8)) ∨ (a = 32 ∧ (b = 1 ∨ b = 2 ∨ b = 3 ∨ b = 4 ∨ b = 5 ∨ b = 6 ∨ b = 7))
abbrev P_X6_read_32_4 (r0 : z_M) : z_V → z_M → Prop := fun v s' => z_CI s' ∧ z_Fr R_X6_read_32_4 r0 s' ∧ (∃ x, v = vI x ∧ -2147483648 ≤ x ∧ x ≤ 2147483647)
theorem rs_X6_step_32__X6_read_32_4 (a b : Int) (h : R_X6_step_32 a b) : R_X6_read_32_4 a b := (h.elim (fun h => (Or.inl (⟨by omega, by omega⟩))) (fun h => (h.elim (fun h => (Or.inr (Or.inl (⟨h.1, by omega⟩)))) (fun h => (Or.inr (Or.inr (⟨h.1, by omega⟩)))))))
theorem sl_X6_read_32_4_L10 {fu : Nat} (hfu : 8589934592 ≤ fu) (r0 : z_M) (a2 : Int) (b2 : -2147483648 ≤ a2 ∧ a2 ≤ 2147483647) {k : z_M → z_O} (hk : ∀ (s' : z_M), z_CI s' → z_Fr R_X6_read_32_4 r0 s' → z_T (k s') (P_X6_read_32_4 r0)) : ∀ (F : Nat) (s : z_M), z_CI s → z_Fr R_X6_read_32_4 r0 s → (2147483647 - s 32 7 < (F : Int)) → z_T (fX6_read_L10 fu 32 4 a2 F s k) (P_X6_read_32_4 r0) := by
  intro F
  induction F with
  | zero =>
    intro s c f hm
    have u39 := CI_b c (k := 32) (j := 1) bd_32_1
    have u40 := CI_b c (k := 32) (j := 7) bd_32_7
    exfalso; omega
  | succ F ih =>
    intro s c f hm
    refine T_of (fX6_read_L10.eq_2 ..) ?_
    have u1 := CI_b c (k := 32) (j := 1) bd_32_1
    have u2 := CI_b c (k := 32) (j := 7) bd_32_7
    refine T_if1 (by decide +kernel) ?_
    refine T_leq (fun x3 e4 => ?_)
    have u5 := CI_b c (k := 32) (j := 7) bd_32_7
    refine T_ite (fun h6 => ?_) (fun h6 => ?_)
    · exact hk s c f
    · refine T_if1 (by decide +kernel) ?_
      refine T_leq (fun x7 e8 => ?_)
      have u9 := CI_b c (k := 32) (j := 7) bd_32_7
      refine T_if1 (by decide +kernel) ?_
      refine T_get (by decide +kernel) (c := 5) (by decide +kernel) bdr_5 (by decide) c (fun x10 e11 b12 w13 => ?_)
      have l14 : z_ln 4 = 300 := by decide +kernel
      refine T_if1 (by decide +kernel) ?_
      refine T_useI (sf_X6_step_32 hfu s c x10 (by omega)) (fun v20 s15 hq => ?_)
      obtain ⟨c16, f17, ⟨x19, rfl, b21, b22⟩⟩ := hq
      refine T_vI ?_
      have f18 := z_Fr.tr (R := R_X6_read_32_4) f f17 rs_X6_step_32__X6_read_32_4
      have t23 : s15 32 7 = s 32 7 := f17 32 7 (by decide)
      have u24 := CI_b c16 (k := 32) (j := 1) bd_32_1
      refine T_ite (fun h25 => ?_) (fun h25 => ?_)
      · refine T_if1 (by decide +kernel) ?_
        refine T_leq (fun x26 e27 => ?_)
        have u28 := CI_b c16 (k := 32) (j := 7) bd_32_7
        refine T_leq (fun x29 e30 => ?_)
        have w31 := z_wb e30
        refine T_if1 (by decide +kernel) ?_
        refine T_upg c16 bd_32_7 (by omega) (fun s32 c33 g35 g36 e37 => ?_)
        have f34 := z_Fr.upf (R := R_X6_read_32_4) f18 g35 g36 (Or.inr (Or.inr (⟨rfl, by decide⟩)))
        have t38 : s32 32 1 = s15 32 1 := g36 1 (by decide)
        exact ih s32 c33 f34 (by omega)
      · exact T_ret ⟨c16, f18, ⟨x19, rfl, by omega, by omega⟩⟩
theorem sj_X6_read_32_4_J62 {fu : Nat} (hfu : 8589934592 ≤ fu) (r0 s : z_M) (c : z_CI s) (f : z_Fr R_X6_read_32_4 r0 s) (t0 : Int) (d0 : 0 ≤ t0 ∧ t0 ≤ 1) : z_T (fX6_read_J62 fu s t0) (P_X6_read_32_4 r0) := by
  refine T_of (fX6_read_J62.eq_1 ..) ?_
  have u1 := CI_b c (k := 32) (j := 1) bd_32_1
  have u2 := CI_b c (k := 32) (j := 7) bd_32_7
  exact T_ret ⟨c, f, ⟨t0, rfl, by omega, by omega⟩⟩
theorem sf_X6_read_32_4 {fu : Nat} (hfu : 8589934592 ≤ fu) (r0 : z_M) (c0 : z_CI r0) (a2 : Int) (b2 : -2147483648 ≤ a2 ∧ a2 ≤ 2147483647) : z_T (fX6_read fu r0 32 4 a2) (P_X6_read_32_4 r0) := by
  refine T_of (fX6_read.eq_1 ..) ?_
  refine T_if1 (by decide +kernel) ?_
  refine T_upg c0 bd_32_1 (by omega) (fun s1 c2 g4 g5 e6 => ?_)
  have f3 := z_Fr.upf (R := R_X6_read_32_4) z_Fr.rf g4 g5 (Or.inr (Or.inr (⟨rfl, by decide⟩)))
  have t7 : s1 32 7 = r0 32 7 := g5 7 (by decide)
  refine T_if1 (by decide +kernel) ?_
  refine T_upg c2 bd_32_7 (by omega) (fun s8 c9 g11 g12 e13 => ?_)
  have f10 := z_Fr.upf (R := R_X6_read_32_4) f3 g11 g12 (Or.inr (Or.inr (⟨rfl, by decide⟩)))
  have t14 : s8 32 1 = s1 32 1 := g12 1 (by decide)
  refine sl_X6_read_32_4_L10 hfu r0 a2 (by omega) (fun s15 c16 f17 => ?_) fu s8 c9 f10 (by omega)
  have u18 := CI_b c16 (k := 32) (j := 1) bd_32_1
  have u19 := CI_b c16 (k := 32) (j := 7) bd_32_7
  refine T_if1 (by decide +kernel) ?_
  refine T_leq (fun x20 e21 => ?_)
  have u22 := CI_b c16 (k := 32) (j := 1) bd_32_1
  refine T_ite (fun h23 => ?_) (fun h23 => ?_)
  · exact sj_X6_read_32_4_J62 hfu r0 s15 c16 f17 1 (by omega)
  · exact sj_X6_read_32_4_J62 hfu r0 s15 c16 f17 0 (by omega)
abbrev R_X2_place_33 (a b : Int) : Prop := False
abbrev P_X2_place_33 (r0 : z_M) : z_V → z_M → Prop := fun v s' => z_CI s' ∧ z_Fr R_X2_place_33 r0 s' ∧ (False)
abbrev R_X9_copyFrom_178_6 (a b : Int) : Prop := (178 ≤ a ∧ a ≤ 190)
abbrev P_X9_copyFrom_178_6 (r0 : z_M) : z_V → z_M → Prop := fun v s' => z_CI s' ∧ z_Fr R_X9_copyFrom_178_6 r0 s' ∧ (v = vN)
theorem sf_X9_copyFrom_178_6 {fu : Nat} (hfu : 8589934592 ≤ fu) (r0 : z_M) (c0 : z_CI r0) : z_T (fX9_copyFrom fu r0 178 6) (P_X9_copyFrom_178_6 r0) := by
  refine T_of (fX9_copyFrom.eq_1 ..) ?_
  refine T_if1 (by decide +kernel) ?_
  refine T_leq (fun x1 e2 => ?_)
  have u3 := CI_b c0 (k := 6) (j := 6) bd_6_6
  refine T_if1 (by decide +kernel) ?_
  refine T_upg c0 bd_178_6 (by omega) (fun s4 c5 g7 g8 e9 => ?_)
  have f6 := z_Fr.upf (R := R_X9_copyFrom_178_6) z_Fr.rf g7 g8 (⟨by decide, by decide⟩)
  have t10 : s4 6 6 = r0 6 6 := g7 6 6 (by decide)
  have t11 : s4 6 7 = r0 6 7 := g7 6 7 (by decide)
  have t12 : s4 6 8 = r0 6 8 := g7 6 8 (by decide)
  refine T_if1 (by decide +kernel) ?_
  refine T_leq (fun x13 e14 => ?_)
  have u15 := CI_b c5 (k := 6) (j := 7) bd_6_7
  refine T_if1 (by decide +kernel) ?_
  refine T_upg c5 bd_178_7 (by omega) (fun s16 c17 g19 g20 e21 => ?_)
  have f18 := z_Fr.upf (R := R_X9_copyFrom_178_6) f6 g19 g20 (⟨by decide, by decide⟩)
  have t22 : s16 6 6 = s4 6 6 := g19 6 6 (by decide)
  have t23 : s16 6 7 = s4 6 7 := g19 6 7 (by decide)
  have t24 : s16 6 8 = s4 6 8 := g19 6 8 (by decide)
  have t25 : s16 178 6 = s4 178 6 := g20 6 (by decide)
  refine T_if1 (by decide +kernel) ?_
  refine T_leq (fun x26 e27 => ?_)
  have u28 := CI_b c17 (k := 6) (j := 8) bd_6_8
  refine T_if1 (by decide +kernel) ?_
  refine T_upg c17 bd_178_8 (by omega) (fun s29 c30 g32 g33 e34 => ?_)
  have f31 := z_Fr.upf (R := R_X9_copyFrom_178_6) f18 g32 g33 (⟨by decide, by decide⟩)
  have t35 : s29 6 6 = s16 6 6 := g32 6 6 (by decide)
  have t36 : s29 6 7 = s16 6 7 := g32 6 7 (by decide)
  have t37 : s29 6 8 = s16 6 8 := g32 6 8 (by decide)
  have t38 : s29 178 6 = s16 178 6 := g33 6 (by decide)
  refine T_if1 (by decide +kernel) ?_
  refine T_let 179 (by decide +kernel) ?_
  refine T_if1 (by decide +kernel) ?_
  refine T_let 7 (by decide +kernel) ?_
  refine T_if1 (by decide +kernel) ?_
  refine T_leq (fun x39 e40 => ?_)
  have u41 := CI_b c30 (k := 178) (j := 6) bd_178_6
  refine T_if1 (by decide +kernel) ?_
  refine T_copy hfu (by decide +kernel) (by decide +kernel) (c := 180) (c2 := 8) (by decide +kernel) (by decide +kernel) (by decide) (by omega) bdr_180 bdr_8 (by decide) (by decide) c30 (fun s42 e45 c43 g46 => ?_)
  have f44 := z_Fr.up (R := R_X9_copyFrom_178_6) f31 g46 (fun _ => (⟨by decide, by decide⟩))
  have t47 : s42 6 6 = s29 6 6 := g46 6 6 (by decide)
  have t48 : s42 6 7 = s29 6 7 := g46 6 7 (by decide)
  have t49 : s42 6 8 = s29 6 8 := g46 6 8 (by decide)
  have t50 : s42 178 6 = s29 178 6 := g46 178 6 (by decide)
  refine T_if1 (by decide +kernel) ?_
  refine T_let 181 (by decide +kernel) ?_
  refine T_if1 (by decide +kernel) ?_
  refine T_let 9 (by decide +kernel) ?_
  refine T_if1 (by decide +kernel) ?_
  refine T_leq (fun x51 e52 => ?_)
  have u53 := CI_b c43 (k := 178) (j := 6) bd_178_6
  refine T_if1 (by decide +kernel) ?_
  refine T_copy hfu (by decide +kernel) (by decide +kernel) (c := 182) (c2 := 10) (by decide +kernel) (by decide +kernel) (by decide) (by omega) bdr_182 bdr_10 (by decide) (by decide) c43 (fun s54 e57 c55 g58 => ?_)
  have f56 := z_Fr.up (R := R_X9_copyFrom_178_6) f44 g58 (fun _ => (⟨by decide, by decide⟩))
  have t59 : s54 6 6 = s42 6 6 := g58 6 6 (by decide)
  have t60 : s54 6 7 = s42 6 7 := g58 6 7 (by decide)
  have t61 : s54 6 8 = s42 6 8 := g58 6 8 (by decide)
  have t62 : s54 178 6 = s42 178 6 := g58 178 6 (by decide)
  refine T_if1 (by decide +kernel) ?_
  refine T_let 183 (by decide +kernel) ?_
  refine T_if1 (by decide +kernel) ?_
  refine T_let 11 (by decide +kernel) ?_
  refine T_if1 (by decide +kernel) ?_
  refine T_leq (fun x63 e64 => ?_)
  have u65 := CI_b c55 (k := 178) (j := 6) bd_178_6
  refine T_if1 (by decide +kernel) ?_
  refine T_copy hfu (by decide +kernel) (by decide +kernel) (c := 184) (c2 := 12) (by decide +kernel) (by decide +kernel) (by decide) (by omega) bdr_184 bdr_12 (by decide) (by decide) c55 (fun s66 e69 c67 g70 => ?_)
  have f68 := z_Fr.up (R := R_X9_copyFrom_178_6) f56 g70 (fun _ => (⟨by decide, by decide⟩))
  have t71 : s66 6 6 = s54 6 6 := g70 6 6 (by decide)
  have t72 : s66 6 7 = s54 6 7 := g70 6 7 (by decide)
  have t73 : s66 6 8 = s54 6 8 := g70 6 8 (by decide)
  have t74 : s66 178 6 = s54 178 6 := g70 178 6 (by decide)
  refine T_if1 (by decide +kernel) ?_
  refine T_let 185 (by decide +kernel) ?_
  refine T_if1 (by decide +kernel) ?_
  refine T_let 13 (by decide +kernel) ?_
  refine T_if1 (by decide +kernel) ?_
  refine T_leq (fun x75 e76 => ?_)
  have u77 := CI_b c67 (k := 178) (j := 6) bd_178_6
  refine T_if1 (by decide +kernel) ?_
  refine T_copy hfu (by decide +kernel) (by decide +kernel) (c := 186) (c2 := 14) (by decide +kernel) (by decide +kernel) (by decide) (by omega) bdr_186 bdr_14 (by decide) (by decide) c67 (fun s78 e81 c79 g82 => ?_)
  have f80 := z_Fr.up (R := R_X9_copyFrom_178_6) f68 g82 (fun _ => (⟨by decide, by decide⟩))
  have t83 : s78 6 6 = s66 6 6 := g82 6 6 (by decide)
  have t84 : s78 6 7 = s66 6 7 := g82 6 7 (by decide)
  have t85 : s78 6 8 = s66 6 8 := g82 6 8 (by decide)
  have t86 : s78 178 6 = s66 178 6 := g82 178 6 (by decide)
  refine T_if1 (by decide +kernel) ?_
  refine T_let 187 (by decide +kernel) ?_
  refine T_if1 (by decide +kernel) ?_
  refine T_let 15 (by decide +kernel) ?_
  refine T_if1 (by decide +kernel) ?_
  refine T_leq (fun x87 e88 => ?_)
  have u89 := CI_b c79 (k := 178) (j := 6) bd_178_6
  refine T_if1 (by decide +kernel) ?_
  refine T_lcopy hfu (by decide +kernel) (by decide +kernel) (c := 188) (c2 := 16) (by decide +kernel) (by decide +kernel) (by decide) (by omega) bdr_188 bdr_16 (by decide) (by decide) c79 (fun s90 e93 c91 g94 => ?_)
  have f92 := z_Fr.up (R := R_X9_copyFrom_178_6) f80 g94 (fun _ => (⟨by decide, by decide⟩))
  have t95 : s90 6 6 = s78 6 6 := g94 6 6 (by decide)
  have t96 : s90 6 7 = s78 6 7 := g94 6 7 (by decide)
  have t97 : s90 6 8 = s78 6 8 := g94 6 8 (by decide)
  have t98 : s90 178 6 = s78 178 6 := g94 178 6 (by decide)
  refine T_if1 (by decide +kernel) ?_
  refine T_let 189 (by decide +kernel) ?_
  refine T_if1 (by decide +kernel) ?_
  refine T_let 17 (by decide +kernel) ?_
  refine T_if1 (by decide +kernel) ?_
  refine T_leq (fun x99 e100 => ?_)
  have u101 := CI_b c91 (k := 178) (j := 6) bd_178_6
  refine T_if1 (by decide +kernel) ?_
  refine T_lcopy hfu (by decide +kernel) (by decide +kernel) (c := 190) (c2 := 18) (by decide +kernel) (by decide +kernel) (by decide) (by omega) bdr_190 bdr_18 (by decide) (by decide) c91 (fun s102 e105 c103 g106 => ?_)
  have f104 := z_Fr.up (R := R_X9_copyFrom_178_6) f92 g106 (fun _ => (⟨by decide, by decide⟩))
  have t107 : s102 6 6 = s90 6 6 := g106 6 6 (by decide)
  have t108 : s102 6 7 = s90 6 7 := g106 6 7 (by decide)
  have t109 : s102 6 8 = s90 6 8 := g106 6 8 (by decide)
  have t110 : s102 178 6 = s90 178 6 := g106 178 6 (by decide)
  exact T_ret ⟨c103, f104, rfl⟩
abbrev R_X9_copyFrom_165_6 (a b : Int) : Prop := (165 ≤ a ∧ a ≤ 177)
abbrev P_X9_copyFrom_165_6 (r0 : z_M) : z_V → z_M → Prop := fun v s' => z_CI s' ∧ z_Fr R_X9_copyFrom_165_6 r0 s' ∧ (v = vN)
theorem sf_X9_copyFrom_165_6 {fu : Nat} (hfu : 8589934592 ≤ fu) (r0 : z_M) (c0 : z_CI r0) : z_T (fX9_copyFrom fu r0 165 6) (P_X9_copyFrom_165_6 r0) := by
  refine T_of (fX9_copyFrom.eq_1 ..) ?_
  refine T_if1 (by decide +kernel) ?_
  refine T_leq (fun x1 e2 => ?_)
  have u3 := CI_b c0 (k := 6) (j := 6) bd_6_6
  refine T_if1 (by decide +kernel) ?_
  refine T_upg c0 bd_165_6 (by omega) (fun s4 c5 g7 g8 e9 => ?_)
  have f6 := z_Fr.upf (R := R_X9_copyFrom_165_6) z_Fr.rf g7 g8 (⟨by decide, by decide⟩)
  have t10 : s4 6 6 = r0 6 6 := g7 6 6 (by decide)
  have t11 : s4 6 7 = r0 6 7 := g7 6 7 (by decide)
  have t12 : s4 6 8 = r0 6 8 := g7 6 8 (by decide)
  refine T_if1 (by decide +kernel) ?_
  refine T_leq (fun x13 e14 => ?_)
  have u15 := CI_b c5 (k := 6) (j := 7) bd_6_7
  refine T_if1 (by decide +kernel) ?_
  refine T_upg c5 bd_165_7 (by omega) (fun s16 c17 g19 g20 e21 => ?_)
  have f18 := z_Fr.upf (R := R_X9_copyFrom_165_6) f6 g19 g20 (⟨by decide, by decide⟩)
  have t22 : s16 6 6 = s4 6 6 := g19 6 6 (by decide)
  have t23 : s16 6 7 = s4 6 7 := g19 6 7 (by decide)
  have t24 : s16 6 8 = s4 6 8 := g19 6 8 (by decide)
  have t25 : s16 165 6 = s4 165 6 := g20 6 (by decide)
  refine T_if1 (by decide +kernel) ?_
  refine T_leq (fun x26 e27 => ?_)
  have u28 := CI_b c17 (k := 6) (j := 8) bd_6_8
  refine T_if1 (by decide +kernel) ?_
  refine T_upg c17 bd_165_8 (by omega) (fun s29 c30 g32 g33 e34 => ?_)
  have f31 := z_Fr.upf (R := R_X9_copyFrom_165_6) f18 g32 g33 (⟨by decide, by decide⟩)
  have t35 : s29 6 6 = s16 6 6 := g32 6 6 (by decide)
  have t36 : s29 6 7 = s16 6 7 := g32 6 7 (by decide)
  have t37 : s29 6 8 = s16 6 8 := g32 6 8 (by decide)
  have t38 : s29 165 6 = s16 165 6 := g33 6 (by decide)
  refine T_if1 (by decide +kernel) ?_
  refine T_let 166 (by decide +kernel) ?_
  refine T_if1 (by decide +kernel) ?_
  refine T_let 7 (by decide +kernel) ?_
  refine T_if1 (by decide +kernel) ?_
  refine T_leq (fun x39 e40 => ?_)
  have u41 := CI_b c30 (k := 165) (j := 6) bd_165_6
  refine T_if1 (by decide +kernel) ?_
  refine T_copy hfu (by decide +kernel) (by decide +kernel) (c := 167) (c2 := 8) (by decide +kernel) (by decide +kernel) (by decide) (by omega) bdr_167 bdr_8 (by decide) (by decide) c30 (fun s42 e45 c43 g46 => ?_)
  have f44 := z_Fr.up (R := R_X9_copyFrom_165_6) f31 g46 (fun _ => (⟨by decide, by decide⟩))
  have t47 : s42 6 6 = s29 6 6 := g46 6 6 (by decide)
  have t48 : s42 6 7 = s29 6 7 := g46 6 7 (by decide)
  have t49 : s42 6 8 = s29 6 8 := g46 6 8 (by decide)
  have t50 : s42 165 6 = s29 165 6 := g46 165 6 (by decide)
  refine T_if1 (by decide +kernel) ?_
  refine T_let 168 (by decide +kernel) ?_
  refine T_if1 (by decide +kernel) ?_
  refine T_let 9 (by decide +kernel) ?_
  refine T_if1 (by decide +kernel) ?_
  refine T_leq (fun x51 e52 => ?_)
  have u53 := CI_b c43 (k := 165) (j := 6) bd_165_6
  refine T_if1 (by decide +kernel) ?_
  refine T_copy hfu (by decide +kernel) (by decide +kernel) (c := 169) (c2 := 10) (by decide +kernel) (by decide +kernel) (by decide) (by omega) bdr_169 bdr_10 (by decide) (by decide) c43 (fun s54 e57 c55 g58 => ?_)
  have f56 := z_Fr.up (R := R_X9_copyFrom_165_6) f44 g58 (fun _ => (⟨by decide, by decide⟩))
  have t59 : s54 6 6 = s42 6 6 := g58 6 6 (by decide)
  have t60 : s54 6 7 = s42 6 7 := g58 6 7 (by decide)
  have t61 : s54 6 8 = s42 6 8 := g58 6 8 (by decide)
  have t62 : s54 165 6 = s42 165 6 := g58 165 6 (by decide)
  refine T_if1 (by decide +kernel) ?_
  refine T_let 170 (by decide +kernel) ?_
  refine T_if1 (by decide +kernel) ?_
  refine T_let 11 (by decide +kernel) ?_
  refine T_if1 (by decide +kernel) ?_
  refine T_leq (fun x63 e64 => ?_)
  have u65 := CI_b c55 (k := 165) (j := 6) bd_165_6
  refine T_if1 (by decide +kernel) ?_
  refine T_copy hfu (by decide +kernel) (by decide +kernel) (c := 171) (c2 := 12) (by decide +kernel) (by decide +kernel) (by decide) (by omega) bdr_171 bdr_12 (by decide) (by decide) c55 (fun s66 e69 c67 g70 => ?_)
  have f68 := z_Fr.up (R := R_X9_copyFrom_165_6) f56 g70 (fun _ => (⟨by decide, by decide⟩))
  have t71 : s66 6 6 = s54 6 6 := g70 6 6 (by decide)
  have t72 : s66 6 7 = s54 6 7 := g70 6 7 (by decide)
  have t73 : s66 6 8 = s54 6 8 := g70 6 8 (by decide)
  have t74 : s66 165 6 = s54 165 6 := g70 165 6 (by decide)
  refine T_if1 (by decide +kernel) ?_
  refine T_let 172 (by decide +kernel) ?_
  refine T_if1 (by decide +kernel) ?_
  refine T_let 13 (by decide +kernel) ?_
  refine T_if1 (by decide +kernel) ?_
  refine T_leq (fun x75 e76 => ?_)
  have u77 := CI_b c67 (k := 165) (j := 6) bd_165_6
  refine T_if1 (by decide +kernel) ?_
  refine T_copy hfu (by decide +kernel) (by decide +kernel) (c := 173) (c2 := 14) (by decide +kernel) (by decide +kernel) (by decide) (by omega) bdr_173 bdr_14 (by decide) (by decide) c67 (fun s78 e81 c79 g82 => ?_)
  have f80 := z_Fr.up (R := R_X9_copyFrom_165_6) f68 g82 (fun _ => (⟨by decide, by decide⟩))
  have t83 : s78 6 6 = s66 6 6 := g82 6 6 (by decide)
  have t84 : s78 6 7 = s66 6 7 := g82 6 7 (by decide)
  have t85 : s78 6 8 = s66 6 8 := g82 6 8 (by decide)
  have t86 : s78 165 6 = s66 165 6 := g82 165 6 (by decide)
  refine T_if1 (by decide +kernel) ?_
  refine T_let 174 (by decide +kernel) ?_
  refine T_if1 (by decide +kernel) ?_
  refine T_let 15 (by decide +kernel) ?_
  refine T_if1 (by decide +kernel) ?_
  refine T_leq (fun x87 e88 => ?_)
  have u89 := CI_b c79 (k := 165) (j := 6) bd_165_6
  refine T_if1 (by decide +kernel) ?_
  refine T_lcopy hfu (by decide +kernel) (by decide +kernel) (c := 175) (c2 := 16) (by decide +kernel) (by decide +kernel) (by decide) (by omega) bdr_175 bdr_16 (by decide) (by decide) c79 (fun s90 e93 c91 g94 => ?_)
  have f92 := z_Fr.up (R := R_X9_copyFrom_165_6) f80 g94 (fun _ => (⟨by decide, by decide⟩))
  have t95 : s90 6 6 = s78 6 6 := g94 6 6 (by decide)
  have t96 : s90 6 7 = s78 6 7 := g94 6 7 (by decide)
  have t97 : s90 6 8 = s78 6 8 := g94 6 8 (by decide)
  have t98 : s90 165 6 = s78 165 6 := g94 165 6 (by decide)
  refine T_if1 (by decide +kernel) ?_
  refine T_let 176 (by decide +kernel) ?_
  refine T_if1 (by decide +kernel) ?_
  refine T_let 17 (by decide +kernel) ?_
  refine T_if1 (by decide +kernel) ?_
  refine T_leq (fun x99 e100 => ?_)
  have u101 := CI_b c91 (k := 165) (j := 6) bd_165_6
  refine T_if1 (by decide +kernel) ?_
  refine T_lcopy hfu (by decide +kernel) (by decide +kernel) (c := 177) (c2 := 18) (by decide +kernel) (by decide +kernel) (by decide) (by omega) bdr_177 bdr_18 (by decide) (by decide) c91 (fun s102 e105 c103 g106 => ?_)
  have f104 := z_Fr.up (R := R_X9_copyFrom_165_6) f92 g106 (fun _ => (⟨by decide, by decide⟩))
  have t107 : s102 6 6 = s90 6 6 := g106 6 6 (by decide)
  have t108 : s102 6 7 = s90 6 7 := g106 6 7 (by decide)
  have t109 : s102 6 8 = s90 6 8 := g106 6 8 (by decide)
  have t110 : s102 165 6 = s90 165 6 := g106 165 6 (by decide)
  exact T_ret ⟨c103, f104, rfl⟩
abbrev R_X9_copyFrom_152_6 (a b : Int) : Prop := (152 ≤ a ∧ a ≤ 164)
abbrev P_X9_copyFrom_152_6 (r0 : z_M) : z_V → z_M → Prop := fun v s' => z_CI s' ∧ z_Fr R_X9_copyFrom_152_6 r0 s' ∧ (v = vN)
theorem sf_X9_copyFrom_152_6 {fu : Nat} (hfu : 8589934592 ≤ fu) (r0 : z_M) (c0 : z_CI r0) : z_T (fX9_copyFrom fu r0 152 6) (P_X9_copyFrom_152_6 r0) := by
  refine T_of (fX9_copyFrom.eq_1 ..) ?_
  refine T_if1 (by decide +kernel) ?_
  refine T_leq (fun x1 e2 => ?_)
  have u3 := CI_b c0 (k := 6) (j := 6) bd_6_6
  refine T_if1 (by decide +kernel) ?_
  refine T_upg c0 bd_152_6 (by omega) (fun s4 c5 g7 g8 e9 => ?_)
  have f6 := z_Fr.upf (R := R_X9_copyFrom_152_6) z_Fr.rf g7 g8 (⟨by decide, by decide⟩)
  have t10 : s4 6 6 = r0 6 6 := g7 6 6 (by decide)
  have t11 : s4 6 7 = r0 6 7 := g7 6 7 (by decide)
  have t12 : s4 6 8 = r0 6 8 := g7 6 8 (by decide)
  refine T_if1 (by decide +kernel) ?_
  refine T_leq (fun x13 e14 => ?_)
  have u15 := CI_b c5 (k := 6) (j := 7) bd_6_7
  refine T_if1 (by decide +kernel) ?_
  refine T_upg c5 bd_152_7 (by omega) (fun s16 c17 g19 g20 e21 => ?_)
  have f18 := z_Fr.upf (R := R_X9_copyFrom_152_6) f6 g19 g20 (⟨by decide, by decide⟩)
  have t22 : s16 6 6 = s4 6 6 := g19 6 6 (by decide)
  have t23 : s16 6 7 = s4 6 7 := g19 6 7 (by decide)
  have t24 : s16 6 8 = s4 6 8 := g19 6 8 (by decide)
  have t25 : s16 152 6 = s4 152 6 := g20 6 (by decide)
  refine T_if1 (by decide +kernel) ?_
  refine T_leq (fun x26 e27 => ?_)
  have u28 := CI_b c17 (k := 6) (j := 8) bd_6_8
  refine T_if1 (by decide +kernel) ?_
  refine T_upg c17 bd_152_8 (by omega) (fun s29 c30 g32 g33 e34 => ?_)
  have f31 := z_Fr.upf (R := R_X9_copyFrom_152_6) f18 g32 g33 (⟨by decide, by decide⟩)
  have t35 : s29 6 6 = s16 6 6 := g32 6 6 (by decide)
  have t36 : s29 6 7 = s16 6 7 := g32 6 7 (by decide)
  have t37 : s29 6 8 = s16 6 8 := g32 6 8 (by decide)
  have t38 : s29 152 6 = s16 152 6 := g33 6 (by decide)
  refine T_if1 (by decide +kernel) ?_
  refine T_let 153 (by decide +kernel) ?_
  refine T_if1 (by decide +kernel) ?_
  refine T_let 7 (by decide +kernel) ?_
  refine T_if1 (by decide +kernel) ?_
  refine T_leq (fun x39 e40 => ?_)
  have u41 := CI_b c30 (k := 152) (j := 6) bd_152_6
  refine T_if1 (by decide +kernel) ?_
  refine T_copy hfu (by decide +kernel) (by decide +kernel) (c := 154) (c2 := 8) (by decide +kernel) (by decide +kernel) (by decide) (by omega) bdr_154 bdr_8 (by decide) (by decide) c30 (fun s42 e45 c43 g46 => ?_)
  have f44 := z_Fr.up (R := R_X9_copyFrom_152_6) f31 g46 (fun _ => (⟨by decide, by decide⟩))
  have t47 : s42 6 6 = s29 6 6 := g46 6 6 (by decide)
  have t48 : s42 6 7 = s29 6 7 := g46 6 7 (by decide)
  have t49 : s42 6 8 = s29 6 8 := g46 6 8 (by decide)
  have t50 : s42 152 6 = s29 152 6 := g46 152 6 (by decide)
  refine T_if1 (by decide +kernel) ?_
  refine T_let 155 (by decide +kernel) ?_
  refine T_if1 (by decide +kernel) ?_
  refine T_let 9 (by decide +kernel) ?_
  refine T_if1 (by decide +kernel) ?_
  refine T_leq (fun x51 e52 => ?_)
  have u53 := CI_b c43 (k := 152) (j := 6) bd_152_6
  refine T_if1 (by decide +kernel) ?_
  refine T_copy hfu (by decide +kernel) (by decide +kernel) (c := 156) (c2 := 10) (by decide +kernel) (by decide +kernel) (by decide) (by omega) bdr_156 bdr_10 (by decide) (by decide) c43 (fun s54 e57 c55 g58 => ?_)
  have f56 := z_Fr.up (R := R_X9_copyFrom_152_6) f44 g58 (fun _ => (⟨by decide, by decide⟩))
  have t59 : s54 6 6 = s42 6 6 := g58 6 6 (by decide)
  have t60 : s54 6 7 = s42 6 7 := g58 6 7 (by decide)
  have t61 : s54 6 8 = s42 6 8 := g58 6 8 (by decide)
  have t62 : s54 152 6 = s42 152 6 := g58 152 6 (by decide)
  refine T_if1 (by decide +kernel) ?_
  refine T_let 157 (by decide +kernel) ?_
  refine T_if1 (by decide +kernel) ?_
  refine T_let 11 (by decide +kernel) ?_
  refine T_if1 (by decide +kernel) ?_
  refine T_leq (fun x63 e64 => ?_)
  have u65 := CI_b c55 (k := 152) (j := 6) bd_152_6
  refine T_if1 (by decide +kernel) ?_
  refine T_copy hfu (by decide +kernel) (by decide +kernel) (c := 158) (c2 := 12) (by decide +kernel) (by decide +kernel) (by decide) (by omega) bdr_158 bdr_12 (by decide) (by decide) c55 (fun s66 e69 c67 g70 => ?_)
  have f68 := z_Fr.up (R := R_X9_copyFrom_152_6) f56 g70 (fun _ => (⟨by decide, by decide⟩))
  have t71 : s66 6 6 = s54 6 6 := g70 6 6 (by decide)
  have t72 : s66 6 7 = s54 6 7 := g70 6 7 (by decide)
  have t73 : s66 6 8 = s54 6 8 := g70 6 8 (by decide)
  have t74 : s66 152 6 = s54 152 6 := g70 152 6 (by decide)
  refine T_if1 (by decide +kernel) ?_
  refine T_let 159 (by decide +kernel) ?_
  refine T_if1 (by decide +kernel) ?_
  refine T_let 13 (by decide +kernel) ?_
  refine T_if1 (by decide +kernel) ?_
  refine T_leq (fun x75 e76 => ?_)
  have u77 := CI_b c67 (k := 152) (j := 6) bd_152_6
  refine T_if1 (by decide +kernel) ?_
  refine T_copy hfu (by decide +kernel) (by decide +kernel) (c := 160) (c2 := 14) (by decide +kernel) (by decide +kernel) (by decide) (by omega) bdr_160 bdr_14 (by decide) (by decide) c67 (fun s78 e81 c79 g82 => ?_)
  have f80 := z_Fr.up (R := R_X9_copyFrom_152_6) f68 g82 (fun _ => (⟨by decide, by decide⟩))
  have t83 : s78 6 6 = s66 6 6 := g82 6 6 (by decide)
  have t84 : s78 6 7 = s66 6 7 := g82 6 7 (by decide)
  have t85 : s78 6 8 = s66 6 8 := g82 6 8 (by decide)
  have t86 : s78 152 6 = s66 152 6 := g82 152 6 (by decide)
  refine T_if1 (by decide +kernel) ?_
  refine T_let 161 (by decide +kernel) ?_
  refine T_if1 (by decide +kernel) ?_
  refine T_let 15 (by decide +kernel) ?_
  refine T_if1 (by decide +kernel) ?_
  refine T_leq (fun x87 e88 => ?_)
  have u89 := CI_b c79 (k := 152) (j := 6) bd_152_6
  refine T_if1 (by decide +kernel) ?_
  refine T_lcopy hfu (by decide +kernel) (by decide +kernel) (c := 162) (c2 := 16) (by decide +kernel) (by decide +kernel) (by decide) (by omega) bdr_162 bdr_16 (by decide) (by decide) c79 (fun s90 e93 c91 g94 => ?_)
  have f92 := z_Fr.up (R := R_X9_copyFrom_152_6) f80 g94 (fun _ => (⟨by decide, by decide⟩))
  have t95 : s90 6 6 = s78 6 6 := g94 6 6 (by decide)
  have t96 : s90 6 7 = s78 6 7 := g94 6 7 (by decide)
  have t97 : s90 6 8 = s78 6 8 := g94 6 8 (by decide)
  have t98 : s90 152 6 = s78 152 6 := g94 152 6 (by decide)
  refine T_if1 (by decide +kernel) ?_
  refine T_let 163 (by decide +kernel) ?_
  refine T_if1 (by decide +kernel) ?_
  refine T_let 17 (by decide +kernel) ?_
  refine T_if1 (by decide +kernel) ?_
  refine T_leq (fun x99 e100 => ?_)
  have u101 := CI_b c91 (k := 152) (j := 6) bd_152_6
  refine T_if1 (by decide +kernel) ?_
  refine T_lcopy hfu (by decide +kernel) (by decide +kernel) (c := 164) (c2 := 18) (by decide +kernel) (by decide +kernel) (by decide) (by omega) bdr_164 bdr_18 (by decide) (by decide) c91 (fun s102 e105 c103 g106 => ?_)
  have f104 := z_Fr.up (R := R_X9_copyFrom_152_6) f92 g106 (fun _ => (⟨by decide, by decide⟩))
  have t107 : s102 6 6 = s90 6 6 := g106 6 6 (by decide)
  have t108 : s102 6 7 = s90 6 7 := g106 6 7 (by decide)
  have t109 : s102 6 8 = s90 6 8 := g106 6 8 (by decide)
  have t110 : s102 152 6 = s90 152 6 := g106 152 6 (by decide)
  exact T_ret ⟨c103, f104, rfl⟩
abbrev R_X9_copyFrom_139_6 (a b : Int) : Prop := (139 ≤ a ∧ a ≤ 151)
abbrev P_X9_copyFrom_139_6 (r0 : z_M) : z_V → z_M → Prop := fun v s' => z_CI s' ∧ z_Fr R_X9_copyFrom_139_6 r0 s' ∧ (v = vN)
theorem sf_X9_copyFrom_139_6 {fu : Nat} (hfu : 8589934592 ≤ fu) (r0 : z_M) (c0 : z_CI r0) : z_T (fX9_copyFrom fu r0 139 6) (P_X9_copyFrom_139_6 r0) := by
  refine T_of (fX9_copyFrom.eq_1 ..) ?_
  refine T_if1 (by decide +kernel) ?_
  refine T_leq (fun x1 e2 => ?_)
  have u3 := CI_b c0 (k := 6) (j := 6) bd_6_6
  refine T_if1 (by decide +kernel) ?_
  refine T_upg c0 bd_139_6 (by omega) (fun s4 c5 g7 g8 e9 => ?_)
  have f6 := z_Fr.upf (R := R_X9_copyFrom_139_6) z_Fr.rf g7 g8 (⟨by decide, by decide⟩)
  have t10 : s4 6 6 = r0 6 6 := g7 6 6 (by decide)
  have t11 : s4 6 7 = r0 6 7 := g7 6 7 (by decide)
  have t12 : s4 6 8 = r0 6 8 := g7 6 8 (by decide)
  refine T_if1 (by decide +kernel) ?_
  refine T_leq (fun x13 e14 => ?_)
  have u15 := CI_b c5 (k := 6) (j := 7) bd_6_7
  refine T_if1 (by decide +kernel) ?_
  refine T_upg c5 bd_139_7 (by omega) (fun s16 c17 g19 g20 e21 => ?_)
  have f18 := z_Fr.upf (R := R_X9_copyFrom_139_6) f6 g19 g20 (⟨by decide, by decide⟩)
  have t22 : s16 6 6 = s4 6 6 := g19 6 6 (by decide)
  have t23 : s16 6 7 = s4 6 7 := g19 6 7 (by decide)
  have t24 : s16 6 8 = s4 6 8 := g19 6 8 (by decide)
  have t25 : s16 139 6 = s4 139 6 := g20 6 (by decide)
  refine T_if1 (by decide +kernel) ?_
  refine T_leq (fun x26 e27 => ?_)
  have u28 := CI_b c17 (k := 6) (j := 8) bd_6_8
  refine T_if1 (by decide +kernel) ?_
  refine T_upg c17 bd_139_8 (by omega) (fun s29 c30 g32 g33 e34 => ?_)
  have f31 := z_Fr.upf (R := R_X9_copyFrom_139_6) f18 g32 g33 (⟨by decide, by decide⟩)
  have t35 : s29 6 6 = s16 6 6 := g32 6 6 (by decide)
  have t36 : s29 6 7 = s16 6 7 := g32 6 7 (by decide)
  have t37 : s29 6 8 = s16 6 8 := g32 6 8 (by decide)
  have t38 : s29 139 6 = s16 139 6 := g33 6 (by decide)
  refine T_if1 (by decide +kernel) ?_
  refine T_let 140 (by decide +kernel) ?_
  refine T_if1 (by decide +kernel) ?_
  refine T_let 7 (by decide +kernel) ?_
  refine T_if1 (by decide +kernel) ?_
  refine T_leq (fun x39 e40 => ?_)
  have u41 := CI_b c30 (k := 139) (j := 6) bd_139_6
  refine T_if1 (by decide +kernel) ?_
  refine T_copy hfu (by decide +kernel) (by decide +kernel) (c := 141) (c2 := 8) (by decide +kernel) (by decide +kernel) (by decide) (by omega) bdr_141 bdr_8 (by decide) (by decide) c30 (fun s42 e45 c43 g46 => ?_)
  have f44 := z_Fr.up (R := R_X9_copyFrom_139_6) f31 g46 (fun _ => (⟨by decide, by decide⟩))
  have t47 : s42 6 6 = s29 6 6 := g46 6 6 (by decide)
  have t48 : s42 6 7 = s29 6 7 := g46 6 7 (by decide)
  have t49 : s42 6 8 = s29 6 8 := g46 6 8 (by decide)
  have t50 : s42 139 6 = s29 139 6 := g46 139 6 (by decide)
  refine T_if1 (by decide +kernel) ?_
  refine T_let 142 (by decide +kernel) ?_
  refine T_if1 (by decide +kernel) ?_
  refine T_let 9 (by decide +kernel) ?_
  refine T_if1 (by decide +kernel) ?_
  refine T_leq (fun x51 e52 => ?_)
  have u53 := CI_b c43 (k := 139) (j := 6) bd_139_6
  refine T_if1 (by decide +kernel) ?_
  refine T_copy hfu (by decide +kernel) (by decide +kernel) (c := 143) (c2 := 10) (by decide +kernel) (by decide +kernel) (by decide) (by omega) bdr_143 bdr_10 (by decide) (by decide) c43 (fun s54 e57 c55 g58 => ?_)
  have f56 := z_Fr.up (R := R_X9_copyFrom_139_6) f44 g58 (fun _ => (⟨by decide, by decide⟩))
  have t59 : s54 6 6 = s42 6 6 := g58 6 6 (by decide)
  have t60 : s54 6 7 = s42 6 7 := g58 6 7 (by decide)
  have t61 : s54 6 8 = s42 6 8 := g58 6 8 (by decide)
  have t62 : s54 139 6 = s42 139 6 := g58 139 6 (by decide)
  refine T_if1 (by decide +kernel) ?_
  refine T_let 144 (by decide +kernel) ?_
  refine T_if1 (by decide +kernel) ?_
  refine T_let 11 (by decide +kernel) ?_
  refine T_if1 (by decide +kernel) ?_
  refine T_leq (fun x63 e64 => ?_)
  have u65 := CI_b c55 (k := 139) (j := 6) bd_139_6
  refine T_if1 (by decide +kernel) ?_
  refine T_copy hfu (by decide +kernel) (by decide +kernel) (c := 145) (c2 := 12) (by decide +kernel) (by decide +kernel) (by decide) (by omega) bdr_145 bdr_12 (by decide) (by decide) c55 (fun s66 e69 c67 g70 => ?_)
  have f68 := z_Fr.up (R := R_X9_copyFrom_139_6) f56 g70 (fun _ => (⟨by decide, by decide⟩))
  have t71 : s66 6 6 = s54 6 6 := g70 6 6 (by decide)
  have t72 : s66 6 7 = s54 6 7 := g70 6 7 (by decide)
  have t73 : s66 6 8 = s54 6 8 := g70 6 8 (by decide)
  have t74 : s66 139 6 = s54 139 6 := g70 139 6 (by decide)
  refine T_if1 (by decide +kernel) ?_
  refine T_let 146 (by decide +kernel) ?_
  refine T_if1 (by decide +kernel) ?_
  refine T_let 13 (by decide +kernel) ?_
  refine T_if1 (by decide +kernel) ?_
  refine T_leq (fun x75 e76 => ?_)
  have u77 := CI_b c67 (k := 139) (j := 6) bd_139_6
  refine T_if1 (by decide +kernel) ?_
  refine T_copy hfu (by decide +kernel) (by decide +kernel) (c := 147) (c2 := 14) (by decide +kernel) (by decide +kernel) (by decide) (by omega) bdr_147 bdr_14 (by decide) (by decide) c67 (fun s78 e81 c79 g82 => ?_)
  have f80 := z_Fr.up (R := R_X9_copyFrom_139_6) f68 g82 (fun _ => (⟨by decide, by decide⟩))
  have t83 : s78 6 6 = s66 6 6 := g82 6 6 (by decide)
  have t84 : s78 6 7 = s66 6 7 := g82 6 7 (by decide)
  have t85 : s78 6 8 = s66 6 8 := g82 6 8 (by decide)
  have t86 : s78 139 6 = s66 139 6 := g82 139 6 (by decide)
  refine T_if1 (by decide +kernel) ?_
  refine T_let 148 (by decide +kernel) ?_
  refine T_if1 (by decide +kernel) ?_
  refine T_let 15 (by decide +kernel) ?_
  refine T_if1 (by decide +kernel) ?_
  refine T_leq (fun x87 e88 => ?_)
  have u89 := CI_b c79 (k := 139) (j := 6) bd_139_6
  refine T_if1 (by decide +kernel) ?_
  refine T_lcopy hfu (by decide +kernel) (by decide +kernel) (c := 149) (c2 := 16) (by decide +kernel) (by decide +kernel) (by decide) (by omega) bdr_149 bdr_16 (by decide) (by decide) c79 (fun s90 e93 c91 g94 => ?_)
  have f92 := z_Fr.up (R := R_X9_copyFrom_139_6) f80 g94 (fun _ => (⟨by decide, by decide⟩))
  have t95 : s90 6 6 = s78 6 6 := g94 6 6 (by decide)
  have t96 : s90 6 7 = s78 6 7 := g94 6 7 (by decide)
  have t97 : s90 6 8 = s78 6 8 := g94 6 8 (by decide)
  have t98 : s90 139 6 = s78 139 6 := g94 139 6 (by decide)
  refine T_if1 (by decide +kernel) ?_
  refine T_let 150 (by decide +kernel) ?_
  refine T_if1 (by decide +kernel) ?_
  refine T_let 17 (by decide +kernel) ?_
  refine T_if1 (by decide +kernel) ?_
  refine T_leq (fun x99 e100 => ?_)
  have u101 := CI_b c91 (k := 139) (j := 6) bd_139_6
  refine T_if1 (by decide +kernel) ?_
  refine T_lcopy hfu (by decide +kernel) (by decide +kernel) (c := 151) (c2 := 18) (by decide +kernel) (by decide +kernel) (by decide) (by omega) bdr_151 bdr_18 (by decide) (by decide) c91 (fun s102 e105 c103 g106 => ?_)
  have f104 := z_Fr.up (R := R_X9_copyFrom_139_6) f92 g106 (fun _ => (⟨by decide, by decide⟩))
  have t107 : s102 6 6 = s90 6 6 := g106 6 6 (by decide)
  have t108 : s102 6 7 = s90 6 7 := g106 6 7 (by decide)
  have t109 : s102 6 8 = s90 6 8 := g106 6 8 (by decide)
  have t110 : s102 139 6 = s90 139 6 := g106 139 6 (by decide)
  exact T_ret ⟨c103, f104, rfl⟩
abbrev R_X9_copyFrom_126_6 (a b : Int) : Prop := (126 ≤ a ∧ a ≤ 138)
abbrev P_X9_copyFrom_126_6 (r0 : z_M) : z_V → z_M → Prop := fun v s' => z_CI s' ∧ z_Fr R_X9_copyFrom_126_6 r0 s' ∧ (v = vN)
theorem sf_X9_copyFrom_126_6 {fu : Nat} (hfu : 8589934592 ≤ fu) (r0 : z_M) (c0 : z_CI r0) : z_T (fX9_copyFrom fu r0 126 6) (P_X9_copyFrom_126_6 r0) := by
  refine T_of (fX9_copyFrom.eq_1 ..) ?_
  refine T_if1 (by decide +kernel) ?_
  refine T_leq (fun x1 e2 => ?_)
  have u3 := CI_b c0 (k := 6) (j := 6) bd_6_6
  refine T_if1 (by decide +kernel) ?_
  refine T_upg c0 bd_126_6 (by omega) (fun s4 c5 g7 g8 e9 => ?_)
  have f6 := z_Fr.upf (R := R_X9_copyFrom_126_6) z_Fr.rf g7 g8 (⟨by decide, by decide⟩)
  have t10 : s4 6 6 = r0 6 6 := g7 6 6 (by decide)
  have t11 : s4 6 7 = r0 6 7 := g7 6 7 (by decide)
  have t12 : s4 6 8 = r0 6 8 := g7 6 8 (by decide)
  refine T_if1 (by decide +kernel) ?_
  refine T_leq (fun x13 e14 => ?_)
  have u15 := CI_b c5 (k := 6) (j := 7) bd_6_7
  refine T_if1 (by decide +kernel) ?_
  refine T_upg c5 bd_126_7 (by omega) (fun s16 c17 g19 g20 e21 => ?_)
  have f18 := z_Fr.upf (R := R_X9_copyFrom_126_6) f6 g19 g20 (⟨by decide, by decide⟩)
  have t22 : s16 6 6 = s4 6 6 := g19 6 6 (by decide)
  have t23 : s16 6 7 = s4 6 7 := g19 6 7 (by decide)
  have t24 : s16 6 8 = s4 6 8 := g19 6 8 (by decide)
  have t25 : s16 126 6 = s4 126 6 := g20 6 (by decide)
  refine T_if1 (by decide +kernel) ?_
  refine T_leq (fun x26 e27 => ?_)
  have u28 := CI_b c17 (k := 6) (j := 8) bd_6_8
  refine T_if1 (by decide +kernel) ?_
  refine T_upg c17 bd_126_8 (by omega) (fun s29 c30 g32 g33 e34 => ?_)
  have f31 := z_Fr.upf (R := R_X9_copyFrom_126_6) f18 g32 g33 (⟨by decide, by decide⟩)
  have t35 : s29 6 6 = s16 6 6 := g32 6 6 (by decide)
  have t36 : s29 6 7 = s16 6 7 := g32 6 7 (by decide)
  have t37 : s29 6 8 = s16 6 8 := g32 6 8 (by decide)
  have t38 : s29 126 6 = s16 126 6 := g33 6 (by decide)
  refine T_if1 (by decide +kernel) ?_
  refine T_let 127 (by decide +kernel) ?_
  refine T_if1 (by decide +kernel) ?_
  refine T_let 7 (by decide +kernel) ?_
  refine T_if1 (by decide +kernel) ?_
  refine T_leq (fun x39 e40 => ?_)
  have u41 := CI_b c30 (k := 126) (j := 6) bd_126_6
  refine T_if1 (by decide +kernel) ?_
  refine T_copy hfu (by decide +kernel) (by decide +kernel) (c := 128) (c2 := 8) (by decide +kernel) (by decide +kernel) (by decide) (by omega) bdr_128 bdr_8 (by decide) (by decide) c30 (fun s42 e45 c43 g46 => ?_)
  have f44 := z_Fr.up (R := R_X9_copyFrom_126_6) f31 g46 (fun _ => (⟨by decide, by decide⟩))
  have t47 : s42 6 6 = s29 6 6 := g46 6 6 (by decide)
  have t48 : s42 6 7 = s29 6 7 := g46 6 7 (by decide)
  have t49 : s42 6 8 = s29 6 8 := g46 6 8 (by decide)
  have t50 : s42 126 6 = s29 126 6 := g46 126 6 (by decide)
  refine T_if1 (by decide +kernel) ?_
  refine T_let 129 (by decide +kernel) ?_
  refine T_if1 (by decide +kernel) ?_
  refine T_let 9 (by decide +kernel) ?_
  refine T_if1 (by decide +kernel) ?_
  refine T_leq (fun x51 e52 => ?_)
  have u53 := CI_b c43 (k := 126) (j := 6) bd_126_6
  refine T_if1 (by decide +kernel) ?_
  refine T_copy hfu (by decide +kernel) (by decide +kernel) (c := 130) (c2 := 10) (by decide +kernel) (by decide +kernel) (by decide) (by omega) bdr_130 bdr_10 (by decide) (by decide) c43 (fun s54 e57 c55 g58 => ?_)
  have f56 := z_Fr.up (R := R_X9_copyFrom_126_6) f44 g58 (fun _ => (⟨by decide, by decide⟩))
  have t59 : s54 6 6 = s42 6 6 := g58 6 6 (by decide)
  have t60 : s54 6 7 = s42 6 7 := g58 6 7 (by decide)
  have t61 : s54 6 8 = s42 6 8 := g58 6 8 (by decide)
  have t62 : s54 126 6 = s42 126 6 := g58 126 6 (by decide)
  refine T_if1 (by decide +kernel) ?_
  refine T_let 131 (by decide +kernel) ?_
  refine T_if1 (by decide +kernel) ?_
  refine T_let 11 (by decide +kernel) ?_
  refine T_if1 (by decide +kernel) ?_
  refine T_leq (fun x63 e64 => ?_)
  have u65 := CI_b c55 (k := 126) (j := 6) bd_126_6
  refine T_if1 (by decide +kernel) ?_
  refine T_copy hfu (by decide +kernel) (by decide +kernel) (c := 132) (c2 := 12) (by decide +kernel) (by decide +kernel) (by decide) (by omega) bdr_132 bdr_12 (by decide) (by decide) c55 (fun s66 e69 c67 g70 => ?_)
  have f68 := z_Fr.up (R := R_X9_copyFrom_126_6) f56 g70 (fun _ => (⟨by decide, by decide⟩))
  have t71 : s66 6 6 = s54 6 6 := g70 6 6 (by decide)
  have t72 : s66 6 7 = s54 6 7 := g70 6 7 (by decide)
  have t73 : s66 6 8 = s54 6 8 := g70 6 8 (by decide)
  have t74 : s66 126 6 = s54 126 6 := g70 126 6 (by decide)
  refine T_if1 (by decide +kernel) ?_
  refine T_let 133 (by decide +kernel) ?_
  refine T_if1 (by decide +kernel) ?_
  refine T_let 13 (by decide +kernel) ?_
  refine T_if1 (by decide +kernel) ?_
  refine T_leq (fun x75 e76 => ?_)
  have u77 := CI_b c67 (k := 126) (j := 6) bd_126_6
  refine T_if1 (by decide +kernel) ?_
  refine T_copy hfu (by decide +kernel) (by decide +kernel) (c := 134) (c2 := 14) (by decide +kernel) (by decide +kernel) (by decide) (by omega) bdr_134 bdr_14 (by decide) (by decide) c67 (fun s78 e81 c79 g82 => ?_)
  have f80 := z_Fr.up (R := R_X9_copyFrom_126_6) f68 g82 (fun _ => (⟨by decide, by decide⟩))
  have t83 : s78 6 6 = s66 6 6 := g82 6 6 (by decide)
  have t84 : s78 6 7 = s66 6 7 := g82 6 7 (by decide)
  have t85 : s78 6 8 = s66 6 8 := g82 6 8 (by decide)
  have t86 : s78 126 6 = s66 126 6 := g82 126 6 (by decide)
  refine T_if1 (by decide +kernel) ?_
  refine T_let 135 (by decide +kernel) ?_
  refine T_if1 (by decide +kernel) ?_
  refine T_let 15 (by decide +kernel) ?_
  refine T_if1 (by decide +kernel) ?_
  refine T_leq (fun x87 e88 => ?_)
  have u89 := CI_b c79 (k := 126) (j := 6) bd_126_6
  refine T_if1 (by decide +kernel) ?_
  refine T_lcopy hfu (by decide +kernel) (by decide +kernel) (c := 136) (c2 := 16) (by decide +kernel) (by decide +kernel) (by decide) (by omega) bdr_136 bdr_16 (by decide) (by decide) c79 (fun s90 e93 c91 g94 => ?_)
  have f92 := z_Fr.up (R := R_X9_copyFrom_126_6) f80 g94 (fun _ => (⟨by decide, by decide⟩))
  have t95 : s90 6 6 = s78 6 6 := g94 6 6 (by decide)
  have t96 : s90 6 7 = s78 6 7 := g94 6 7 (by decide)
  have t97 : s90 6 8 = s78 6 8 := g94 6 8 (by decide)
  have t98 : s90 126 6 = s78 126 6 := g94 126 6 (by decide)
  refine T_if1 (by decide +kernel) ?_
  refine T_let 137 (by decide +kernel) ?_
  refine T_if1 (by decide +kernel) ?_
  refine T_let 17 (by decide +kernel) ?_
  refine T_if1 (by decide +kernel) ?_
  refine T_leq (fun x99 e100 => ?_)
  have u101 := CI_b c91 (k := 126) (j := 6) bd_126_6
  refine T_if1 (by decide +kernel) ?_
  refine T_lcopy hfu (by decide +kernel) (by decide +kernel) (c := 138) (c2 := 18) (by decide +kernel) (by decide +kernel) (by decide) (by omega) bdr_138 bdr_18 (by decide) (by decide) c91 (fun s102 e105 c103 g106 => ?_)
  have f104 := z_Fr.up (R := R_X9_copyFrom_126_6) f92 g106 (fun _ => (⟨by decide, by decide⟩))
  have t107 : s102 6 6 = s90 6 6 := g106 6 6 (by decide)
  have t108 : s102 6 7 = s90 6 7 := g106 6 7 (by decide)
  have t109 : s102 6 8 = s90 6 8 := g106 6 8 (by decide)
  have t110 : s102 126 6 = s90 126 6 := g106 126 6 (by decide)
  exact T_ret ⟨c103, f104, rfl⟩
abbrev R_X9_copyFrom_113_6 (a b : Int) : Prop := (113 ≤ a ∧ a ≤ 125)
abbrev P_X9_copyFrom_113_6 (r0 : z_M) : z_V → z_M → Prop := fun v s' => z_CI s' ∧ z_Fr R_X9_copyFrom_113_6 r0 s' ∧ (v = vN)
theorem sf_X9_copyFrom_113_6 {fu : Nat} (hfu : 8589934592 ≤ fu) (r0 : z_M) (c0 : z_CI r0) : z_T (fX9_copyFrom fu r0 113 6) (P_X9_copyFrom_113_6 r0) := by
  refine T_of (fX9_copyFrom.eq_1 ..) ?_
  refine T_if1 (by decide +kernel) ?_
  refine T_leq (fun x1 e2 => ?_)
  have u3 := CI_b c0 (k := 6) (j := 6) bd_6_6
  refine T_if1 (by decide +kernel) ?_
  refine T_upg c0 bd_113_6 (by omega) (fun s4 c5 g7 g8 e9 => ?_)
  have f6 := z_Fr.upf (R := R_X9_copyFrom_113_6) z_Fr.rf g7 g8 (⟨by decide, by decide⟩)
  have t10 : s4 6 6 = r0 6 6 := g7 6 6 (by decide)
  have t11 : s4 6 7 = r0 6 7 := g7 6 7 (by decide)
  have t12 : s4 6 8 = r0 6 8 := g7 6 8 (by decide)
  refine T_if1 (by decide +kernel) ?_
  refine T_leq (fun x13 e14 => ?_)
  have u15 := CI_b c5 (k := 6) (j := 7) bd_6_7
  refine T_if1 (by decide +kernel) ?_
  refine T_upg c5 bd_113_7 (by omega) (fun s16 c17 g19 g20 e21 => ?_)
  have f18 := z_Fr.upf (R := R_X9_copyFrom_113_6) f6 g19 g20 (⟨by decide, by decide⟩)
  have t22 : s16 6 6 = s4 6 6 := g19 6 6 (by decide)
  have t23 : s16 6 7 = s4 6 7 := g19 6 7 (by decide)
  have t24 : s16 6 8 = s4 6 8 := g19 6 8 (by decide)
  have t25 : s16 113 6 = s4 113 6 := g20 6 (by decide)
  refine T_if1 (by decide +kernel) ?_
  refine T_leq (fun x26 e27 => ?_)
  have u28 := CI_b c17 (k := 6) (j := 8) bd_6_8
  refine T_if1 (by decide +kernel) ?_
  refine T_upg c17 bd_113_8 (by omega) (fun s29 c30 g32 g33 e34 => ?_)
  have f31 := z_Fr.upf (R := R_X9_copyFrom_113_6) f18 g32 g33 (⟨by decide, by decide⟩)
  have t35 : s29 6 6 = s16 6 6 := g32 6 6 (by decide)
  have t36 : s29 6 7 = s16 6 7 := g32 6 7 (by decide)
  have t37 : s29 6 8 = s16 6 8 := g32 6 8 (by decide)
  have t38 : s29 113 6 = s16 113 6 := g33 6 (by decide)
  refine T_if1 (by decide +kernel) ?_
  refine T_let 114 (by decide +kernel) ?_
  refine T_if1 (by decide +kernel) ?_
  refine T_let 7 (by decide +kernel) ?_
  refine T_if1 (by decide +kernel) ?_
  refine T_leq (fun x39 e40 => ?_)
  have u41 := CI_b c30 (k := 113) (j := 6) bd_113_6
  refine T_if1 (by decide +kernel) ?_
  refine T_copy hfu (by decide +kernel) (by decide +kernel) (c := 115) (c2 := 8) (by decide +kernel) (by decide +kernel) (by decide) (by omega) bdr_115 bdr_8 (by decide) (by decide) c30 (fun s42 e45 c43 g46 => ?_)
  have f44 := z_Fr.up (R := R_X9_copyFrom_113_6) f31 g46 (fun _ => (⟨by decide, by decide⟩))
  have t47 : s42 6 6 = s29 6 6 := g46 6 6 (by decide)
  have t48 : s42 6 7 = s29 6 7 := g46 6 7 (by decide)
  have t49 : s42 6 8 = s29 6 8 := g46 6 8 (by decide)
  have t50 : s42 113 6 = s29 113 6 := g46 113 6 (by decide)
  refine T_if1 (by decide +kernel) ?_
  refine T_let 116 (by decide +kernel) ?_
  refine T_if1 (by decide +kernel) ?_
  refine T_let 9 (by decide +kernel) ?_
  refine T_if1 (by decide +kernel) ?_
  refine T_leq (fun x51 e52 => ?_)
  have u53 := CI_b c43 (k := 113) (j := 6) bd_113_6
  refine T_if1 (by decide +kernel) ?_
  refine T_copy hfu (by decide +kernel) (by decide +kernel) (c := 117) (c2 := 10) (by decide +kernel) (by decide +kernel) (by decide) (by omega) bdr_117 bdr_10 (by decide) (by decide) c43 (fun s54 e57 c55 g58 => ?_)
  have f56 := z_Fr.up (R := R_X9_copyFrom_113_6) f44 g58 (fun _ => (⟨by decide, by decide⟩))
  have t59 : s54 6 6 = s42 6 6 := g58 6 6 (by decide)
  have t60 : s54 6 7 = s42 6 7 := g58 6 7 (by decide)
  have t61 : s54 6 8 = s42 6 8 := g58 6 8 (by decide)
  have t62 : s54 113 6 = s42 113 6 := g58 113 6 (by decide)
  refine T_if1 (by decide +kernel) ?_
  refine T_let 118 (by decide +kernel) ?_
  refine T_if1 (by decide +kernel) ?_
  refine T_let 11 (by decide +kernel) ?_
  refine T_if1 (by decide +kernel) ?_
  refine T_leq (fun x63 e64 => ?_)
  have u65 := CI_b c55 (k := 113) (j := 6) bd_113_6
  refine T_if1 (by decide +kernel) ?_
  refine T_copy hfu (by decide +kernel) (by decide +kernel) (c := 119) (c2 := 12) (by decide +kernel) (by decide +kernel) (by decide) (by omega) bdr_119 bdr_12 (by decide) (by decide) c55 (fun s66 e69 c67 g70 => ?_)
  have f68 := z_Fr.up (R := R_X9_copyFrom_113_6) f56 g70 (fun _ => (⟨by decide, by decide⟩))
  have t71 : s66 6 6 = s54 6 6 := g70 6 6 (by decide)
  have t72 : s66 6 7 = s54 6 7 := g70 6 7 (by decide)
  have t73 : s66 6 8 = s54 6 8 := g70 6 8 (by decide)
  have t74 : s66 113 6 = s54 113 6 := g70 113 6 (by decide)
  refine T_if1 (by decide +kernel) ?_
  refine T_let 120 (by decide +kernel) ?_
  refine T_if1 (by decide +kernel) ?_
  refine T_let 13 (by decide +kernel) ?_
  refine T_if1 (by decide +kernel) ?_
  refine T_leq (fun x75 e76 => ?_)
  have u77 := CI_b c67 (k := 113) (j := 6) bd_113_6
  refine T_if1 (by decide +kernel) ?_
  refine T_copy hfu (by decide +kernel) (by decide +kernel) (c := 121) (c2 := 14) (by decide +kernel) (by decide +kernel) (by decide) (by omega) bdr_121 bdr_14 (by decide) (by decide) c67 (fun s78 e81 c79 g82 => ?_)
  have f80 := z_Fr.up (R := R_X9_copyFrom_113_6) f68 g82 (fun _ => (⟨by decide, by decide⟩))
  have t83 : s78 6 6 = s66 6 6 := g82 6 6 (by decide)
  have t84 : s78 6 7 = s66 6 7 := g82 6 7 (by decide)
  have t85 : s78 6 8 = s66 6 8 := g82 6 8 (by decide)
  have t86 : s78 113 6 = s66 113 6 := g82 113 6 (by decide)
  refine T_if1 (by decide +kernel) ?_
  refine T_let 122 (by decide +kernel) ?_
  refine T_if1 (by decide +kernel) ?_
  refine T_let 15 (by decide +kernel) ?_
  refine T_if1 (by decide +kernel) ?_
  refine T_leq (fun x87 e88 => ?_)
  have u89 := CI_b c79 (k := 113) (j := 6) bd_113_6
  refine T_if1 (by decide +kernel) ?_
  refine T_lcopy hfu (by decide +kernel) (by decide +kernel) (c := 123) (c2 := 16) (by decide +kernel) (by decide +kernel) (by decide) (by omega) bdr_123 bdr_16 (by decide) (by decide) c79 (fun s90 e93 c91 g94 => ?_)
  have f92 := z_Fr.up (R := R_X9_copyFrom_113_6) f80 g94 (fun _ => (⟨by decide, by decide⟩))
  have t95 : s90 6 6 = s78 6 6 := g94 6 6 (by decide)
  have t96 : s90 6 7 = s78 6 7 := g94 6 7 (by decide)
  have t97 : s90 6 8 = s78 6 8 := g94 6 8 (by decide)
  have t98 : s90 113 6 = s78 113 6 := g94 113 6 (by decide)
  refine T_if1 (by decide +kernel) ?_
  refine T_let 124 (by decide +kernel) ?_
  refine T_if1 (by decide +kernel) ?_
  refine T_let 17 (by decide +kernel) ?_
  refine T_if1 (by decide +kernel) ?_
  refine T_leq (fun x99 e100 => ?_)
  have u101 := CI_b c91 (k := 113) (j := 6) bd_113_6
  refine T_if1 (by decide +kernel) ?_
  refine T_lcopy hfu (by decide +kernel) (by decide +kernel) (c := 125) (c2 := 18) (by decide +kernel) (by decide +kernel) (by decide) (by omega) bdr_125 bdr_18 (by decide) (by decide) c91 (fun s102 e105 c103 g106 => ?_)
  have f104 := z_Fr.up (R := R_X9_copyFrom_113_6) f92 g106 (fun _ => (⟨by decide, by decide⟩))
  have t107 : s102 6 6 = s90 6 6 := g106 6 6 (by decide)
  have t108 : s102 6 7 = s90 6 7 := g106 6 7 (by decide)
  have t109 : s102 6 8 = s90 6 8 := g106 6 8 (by decide)
  have t110 : s102 113 6 = s90 113 6 := g106 113 6 (by decide)
  exact T_ret ⟨c103, f104, rfl⟩
abbrev R_X9_copyFrom_100_6 (a b : Int) : Prop := (100 ≤ a ∧ a ≤ 112)
abbrev P_X9_copyFrom_100_6 (r0 : z_M) : z_V → z_M → Prop := fun v s' => z_CI s' ∧ z_Fr R_X9_copyFrom_100_6 r0 s' ∧ (v = vN)
theorem sf_X9_copyFrom_100_6 {fu : Nat} (hfu : 8589934592 ≤ fu) (r0 : z_M) (c0 : z_CI r0) : z_T (fX9_copyFrom fu r0 100 6) (P_X9_copyFrom_100_6 r0) := by
  refine T_of (fX9_copyFrom.eq_1 ..) ?_
  refine T_if1 (by decide +kernel) ?_
  refine T_leq (fun x1 e2 => ?_)
  have u3 := CI_b c0 (k := 6) (j := 6) bd_6_6
  refine T_if1 (by decide +kernel) ?_
  refine T_upg c0 bd_100_6 (by omega) (fun s4 c5 g7 g8 e9 => ?_)
  have f6 := z_Fr.upf (R := R_X9_copyFrom_100_6) z_Fr.rf g7 g8 (⟨by decide, by decide⟩)
  have t10 : s4 6 6 = r0 6 6 := g7 6 6 (by decide)
  have t11 : s4 6 7 = r0 6 7 := g7 6 7 (by decide)
  have t12 : s4 6 8 = r0 6 8 := g7 6 8 (by decide)
  refine T_if1 (by decide +kernel) ?_
  refine T_leq (fun x13 e14 => ?_)
  have u15 := CI_b c5 (k := 6) (j := 7) bd_6_7
  refine T_if1 (by decide +kernel) ?_
  refine T_upg c5 bd_100_7 (by omega) (fun s16 c17 g19 g20 e21 => ?_)
  have f18 := z_Fr.upf (R := R_X9_copyFrom_100_6) f6 g19 g20 (⟨by decide, by decide⟩)
  have t22 : s16 6 6 = s4 6 6 := g19 6 6 (by decide)
  have t23 : s16 6 7 = s4 6 7 := g19 6 7 (by decide)
  have t24 : s16 6 8 = s4 6 8 := g19 6 8 (by decide)
  have t25 : s16 100 6 = s4 100 6 := g20 6 (by decide)
  refine T_if1 (by decide +kernel) ?_
  refine T_leq (fun x26 e27 => ?_)
  have u28 := CI_b c17 (k := 6) (j := 8) bd_6_8
  refine T_if1 (by decide +kernel) ?_
  refine T_upg c17 bd_100_8 (by omega) (fun s29 c30 g32 g33 e34 => ?_)
  have f31 := z_Fr.upf (R := R_X9_copyFrom_100_6) f18 g32 g33 (⟨by decide, by decide⟩)
  have t35 : s29 6 6 = s16 6 6 := g32 6 6 (by decide)
  have t36 : s29 6 7 = s16 6 7 := g32 6 7 (by decide)
  have t37 : s29 6 8 = s16 6 8 := g32 6 8 (by decide)
  have t38 : s29 100 6 = s16 100 6 := g33 6 (by decide)
  refine T_if1 (by decide +kernel) ?_
  refine T_let 101 (by decide +kernel) ?_
  refine T_if1 (by decide +kernel) ?_
  refine T_let 7 (by decide +kernel) ?_
  refine T_if1 (by decide +kernel) ?_
  refine T_leq (fun x39 e40 => ?_)
  have u41 := CI_b c30 (k := 100) (j := 6) bd_100_6
  refine T_if1 (by decide +kernel) ?_
  refine T_copy hfu (by decide +kernel) (by decide +kernel) (c := 102) (c2 := 8) (by decide +kernel) (by decide +kernel) (by decide) (by omega) bdr_102 bdr_8 (by decide) (by decide) c30 (fun s42 e45 c43 g46 => ?_)
  have f44 := z_Fr.up (R := R_X9_copyFrom_100_6) f31 g46 (fun _ => (⟨by decide, by decide⟩))
  have t47 : s42 6 6 = s29 6 6 := g46 6 6 (by decide)
  have t48 : s42 6 7 = s29 6 7 := g46 6 7 (by decide)
  have t49 : s42 6 8 = s29 6 8 := g46 6 8 (by decide)
  have t50 : s42 100 6 = s29 100 6 := g46 100 6 (by decide)
  refine T_if1 (by decide +kernel) ?_
  refine T_let 103 (by decide +kernel) ?_
  refine T_if1 (by decide +kernel) ?_
  refine T_let 9 (by decide +kernel) ?_
  refine T_if1 (by decide +kernel) ?_
  refine T_leq (fun x51 e52 => ?_)
  have u53 := CI_b c43 (k := 100) (j := 6) bd_100_6
  refine T_if1 (by decide +kernel) ?_
  refine T_copy hfu (by decide +kernel) (by decide +kernel) (c := 104) (c2 := 10) (by decide +kernel) (by decide +kernel) (by decide) (by omega) bdr_104 bdr_10 (by decide) (by decide) c43 (fun s54 e57 c55 g58 => ?_)
  have f56 := z_Fr.up (R := R_X9_copyFrom_100_6) f44 g58 (fun _ => (⟨by decide, by decide⟩))
  have t59 : s54 6 6 = s42 6 6 := g58 6 6 (by decide)
  have t60 : s54 6 7 = s42 6 7 := g58 6 7 (by decide)
  have t61 : s54 6 8 = s42 6 8 := g58 6 8 (by decide)
  have t62 : s54 100 6 = s42 100 6 := g58 100 6 (by decide)
  refine T_if1 (by decide +kernel) ?_
  refine T_let 105 (by decide +kernel) ?_
  refine T_if1 (by decide +kernel) ?_
  refine T_let 11 (by decide +kernel) ?_
  refine T_if1 (by decide +kernel) ?_
  refine T_leq (fun x63 e64 => ?_)
  have u65 := CI_b c55 (k := 100) (j := 6) bd_100_6
  refine T_if1 (by decide +kernel) ?_
  refine T_copy hfu (by decide +kernel) (by decide +kernel) (c := 106) (c2 := 12) (by decide +kernel) (by decide +kernel) (by decide) (by omega) bdr_106 bdr_12 (by decide) (by decide) c55 (fun s66 e69 c67 g70 => ?_)
  have f68 := z_Fr.up (R := R_X9_copyFrom_100_6) f56 g70 (fun _ => (⟨by decide, by decide⟩))
  have t71 : s66 6 6 = s54 6 6 := g70 6 6 (by decide)
  have t72 : s66 6 7 = s54 6 7 := g70 6 7 (by decide)
  have t73 : s66 6 8 = s54 6 8 := g70 6 8 (by decide)
  have t74 : s66 100 6 = s54 100 6 := g70 100 6 (by decide)
  refine T_if1 (by decide +kernel) ?_
  refine T_let 107 (by decide +kernel) ?_
  refine T_if1 (by decide +kernel) ?_
  refine T_let 13 (by decide +kernel) ?_
  refine T_if1 (by decide +kernel) ?_
  refine T_leq (fun x75 e76 => ?_)
  have u77 := CI_b c67 (k := 100) (j := 6) bd_100_6
  refine T_if1 (by decide +kernel) ?_
  refine T_copy hfu (by decide +kernel) (by decide +kernel) (c := 108) (c2 := 14) (by decide +kernel) (by decide +kernel) (by decide) (by omega) bdr_108 bdr_14 (by decide) (by decide) c67 (fun s78 e81 c79 g82 => ?_)
  have f80 := z_Fr.up (R := R_X9_copyFrom_100_6) f68 g82 (fun _ => (⟨by decide, by decide⟩))
  have t83 : s78 6 6 = s66 6 6 := g82 6 6 (by decide)
  have t84 : s78 6 7 = s66 6 7 := g82 6 7 (by decide)
  have t85 : s78 6 8 = s66 6 8 := g82 6 8 (by decide)
  have t86 : s78 100 6 = s66 100 6 := g82 100 6 (by decide)
  refine T_if1 (by decide +kernel) ?_
  refine T_let 109 (by decide +kernel) ?_
  refine T_if1 (by decide +kernel) ?_
  refine T_let 15 (by decide +kernel) ?_
  refine T_if1 (by decide +kernel) ?_
  refine T_leq (fun x87 e88 => ?_)
  have u89 := CI_b c79 (k := 100) (j := 6) bd_100_6
  refine T_if1 (by decide +kernel) ?_
  refine T_lcopy hfu (by decide +kernel) (by decide +kernel) (c := 110) (c2 := 16) (by decide +kernel) (by decide +kernel) (by decide) (by omega) bdr_110 bdr_16 (by decide) (by decide) c79 (fun s90 e93 c91 g94 => ?_)
  have f92 := z_Fr.up (R := R_X9_copyFrom_100_6) f80 g94 (fun _ => (⟨by decide, by decide⟩))
  have t95 : s90 6 6 = s78 6 6 := g94 6 6 (by decide)
  have t96 : s90 6 7 = s78 6 7 := g94 6 7 (by decide)
  have t97 : s90 6 8 = s78 6 8 := g94 6 8 (by decide)
  have t98 : s90 100 6 = s78 100 6 := g94 100 6 (by decide)
  refine T_if1 (by decide +kernel) ?_
  refine T_let 111 (by decide +kernel) ?_
  refine T_if1 (by decide +kernel) ?_
  refine T_let 17 (by decide +kernel) ?_
  refine T_if1 (by decide +kernel) ?_
  refine T_leq (fun x99 e100 => ?_)
  have u101 := CI_b c91 (k := 100) (j := 6) bd_100_6
  refine T_if1 (by decide +kernel) ?_
  refine T_lcopy hfu (by decide +kernel) (by decide +kernel) (c := 112) (c2 := 18) (by decide +kernel) (by decide +kernel) (by decide) (by omega) bdr_112 bdr_18 (by decide) (by decide) c91 (fun s102 e105 c103 g106 => ?_)
  have f104 := z_Fr.up (R := R_X9_copyFrom_100_6) f92 g106 (fun _ => (⟨by decide, by decide⟩))
  have t107 : s102 6 6 = s90 6 6 := g106 6 6 (by decide)
  have t108 : s102 6 7 = s90 6 7 := g106 6 7 (by decide)
  have t109 : s102 6 8 = s90 6 8 := g106 6 8 (by decide)
  have t110 : s102 100 6 = s90 100 6 := g106 100 6 (by decide)
  exact T_ret ⟨c103, f104, rfl⟩
abbrev R_X9_copyFrom_87_6 (a b : Int) : Prop := (87 ≤ a ∧ a ≤ 99)
abbrev P_X9_copyFrom_87_6 (r0 : z_M) : z_V → z_M → Prop := fun v s' => z_CI s' ∧ z_Fr R_X9_copyFrom_87_6 r0 s' ∧ (v = vN)
theorem sf_X9_copyFrom_87_6 {fu : Nat} (hfu : 8589934592 ≤ fu) (r0 : z_M) (c0 : z_CI r0) : z_T (fX9_copyFrom fu r0 87 6) (P_X9_copyFrom_87_6 r0) := by
  refine T_of (fX9_copyFrom.eq_1 ..) ?_
  refine T_if1 (by decide +kernel) ?_
  refine T_leq (fun x1 e2 => ?_)
  have u3 := CI_b c0 (k := 6) (j := 6) bd_6_6
  refine T_if1 (by decide +kernel) ?_
  refine T_upg c0 bd_87_6 (by omega) (fun s4 c5 g7 g8 e9 => ?_)
  have f6 := z_Fr.upf (R := R_X9_copyFrom_87_6) z_Fr.rf g7 g8 (⟨by decide, by decide⟩)
  have t10 : s4 6 6 = r0 6 6 := g7 6 6 (by decide)
  have t11 : s4 6 7 = r0 6 7 := g7 6 7 (by decide)
  have t12 : s4 6 8 = r0 6 8 := g7 6 8 (by decide)
  refine T_if1 (by decide +kernel) ?_
  refine T_leq (fun x13 e14 => ?_)
  have u15 := CI_b c5 (k := 6) (j := 7) bd_6_7
  refine T_if1 (by decide +kernel) ?_
  refine T_upg c5 bd_87_7 (by omega) (fun s16 c17 g19 g20 e21 => ?_)
  have f18 := z_Fr.upf (R := R_X9_copyFrom_87_6) f6 g19 g20 (⟨by decide, by decide⟩)
  have t22 : s16 6 6 = s4 6 6 := g19 6 6 (by decide)
  have t23 : s16 6 7 = s4 6 7 := g19 6 7 (by decide)
  have t24 : s16 6 8 = s4 6 8 := g19 6 8 (by decide)
  have t25 : s16 87 6 = s4 87 6 := g20 6 (by decide)
  refine T_if1 (by decide +kernel) ?_
  refine T_leq (fun x26 e27 => ?_)
  have u28 := CI_b c17 (k := 6) (j := 8) bd_6_8
  refine T_if1 (by decide +kernel) ?_
  refine T_upg c17 bd_87_8 (by omega) (fun s29 c30 g32 g33 e34 => ?_)
  have f31 := z_Fr.upf (R := R_X9_copyFrom_87_6) f18 g32 g33 (⟨by decide, by decide⟩)
  have t35 : s29 6 6 = s16 6 6 := g32 6 6 (by decide)
  have t36 : s29 6 7 = s16 6 7 := g32 6 7 (by decide)
  have t37 : s29 6 8 = s16 6 8 := g32 6 8 (by decide)
  have t38 : s29 87 6 = s16 87 6 := g33 6 (by decide)
  refine T_if1 (by decide +kernel) ?_
  refine T_let 88 (by decide +kernel) ?_
  refine T_if1 (by decide +kernel) ?_
  refine T_let 7 (by decide +kernel) ?_
  refine T_if1 (by decide +kernel) ?_
  refine T_leq (fun x39 e40 => ?_)
  have u41 := CI_b c30 (k := 87) (j := 6) bd_87_6
  refine T_if1 (by decide +kernel) ?_
  refine T_copy hfu (by decide +kernel) (by decide +kernel) (c := 89) (c2 := 8) (by decide +kernel) (by decide +kernel) (by decide) (by omega) bdr_89 bdr_8 (by decide) (by decide) c30 (fun s42 e45 c43 g46 => ?_)
  have f44 := z_Fr.up (R := R_X9_copyFrom_87_6) f31 g46 (fun _ => (⟨by decide, by decide⟩))
  have t47 : s42 6 6 = s29 6 6 := g46 6 6 (by decide)
  have t48 : s42 6 7 = s29 6 7 := g46 6 7 (by decide)
  have t49 : s42 6 8 = s29 6 8 := g46 6 8 (by decide)
  have t50 : s42 87 6 = s29 87 6 := g46 87 6 (by decide)
  refine T_if1 (by decide +kernel) ?_
  refine T_let 90 (by decide +kernel) ?_
  refine T_if1 (by decide +kernel) ?_
  refine T_let 9 (by decide +kernel) ?_
  refine T_if1 (by decide +kernel) ?_
  refine T_leq (fun x51 e52 => ?_)
  have u53 := CI_b c43 (k := 87) (j := 6) bd_87_6
  refine T_if1 (by decide +kernel) ?_
  refine T_copy hfu (by decide +kernel) (by decide +kernel) (c := 91) (c2 := 10) (by decide +kernel) (by decide +kernel) (by decide) (by omega) bdr_91 bdr_10 (by decide) (by decide) c43 (fun s54 e57 c55 g58 => ?_)
  have f56 := z_Fr.up (R := R_X9_copyFrom_87_6) f44 g58 (fun _ => (⟨by decide, by decide⟩))
  have t59 : s54 6 6 = s42 6 6 := g58 6 6 (by decide)
  have t60 : s54 6 7 = s42 6 7 := g58 6 7 (by decide)
  have t61 : s54 6 8 = s42 6 8 := g58 6 8 (by decide)
  have t62 : s54 87 6 = s42 87 6 := g58 87 6 (by decide)
  refine T_if1 (by decide +kernel) ?_
  refine T_let 92 (by decide +kernel) ?_
  refine T_if1 (by decide +kernel) ?_
  refine T_let 11 (by decide +kernel) ?_
  refine T_if1 (by decide +kernel) ?_
  refine T_leq (fun x63 e64 => ?_)
  have u65 := CI_b c55 (k := 87) (j := 6) bd_87_6
  refine T_if1 (by decide +kernel) ?_
  refine T_copy hfu (by decide +kernel) (by decide +kernel) (c := 93) (c2 := 12) (by decide +kernel) (by decide +kernel) (by decide) (by omega) bdr_93 bdr_12 (by decide) (by decide) c55 (fun s66 e69 c67 g70 => ?_)
  have f68 := z_Fr.up (R := R_X9_copyFrom_87_6) f56 g70 (fun _ => (⟨by decide, by decide⟩))
  have t71 : s66 6 6 = s54 6 6 := g70 6 6 (by decide)
  have t72 : s66 6 7 = s54 6 7 := g70 6 7 (by decide)
  have t73 : s66 6 8 = s54 6 8 := g70 6 8 (by decide)
  have t74 : s66 87 6 = s54 87 6 := g70 87 6 (by decide)
  refine T_if1 (by decide +kernel) ?_
  refine T_let 94 (by decide +kernel) ?_
  refine T_if1 (by decide +kernel) ?_
  refine T_let 13 (by decide +kernel) ?_
  refine T_if1 (by decide +kernel) ?_
  refine T_leq (fun x75 e76 => ?_)
  have u77 := CI_b c67 (k := 87) (j := 6) bd_87_6
  refine T_if1 (by decide +kernel) ?_
  refine T_copy hfu (by decide +kernel) (by decide +kernel) (c := 95) (c2 := 14) (by decide +kernel) (by decide +kernel) (by decide) (by omega) bdr_95 bdr_14 (by decide) (by decide) c67 (fun s78 e81 c79 g82 => ?_)
  have f80 := z_Fr.up (R := R_X9_copyFrom_87_6) f68 g82 (fun _ => (⟨by decide, by decide⟩))
  have t83 : s78 6 6 = s66 6 6 := g82 6 6 (by decide)
  have t84 : s78 6 7 = s66 6 7 := g82 6 7 (by decide)
  have t85 : s78 6 8 = s66 6 8 := g82 6 8 (by decide)
  have t86 : s78 87 6 = s66 87 6 := g82 87 6 (by decide)
  refine T_if1 (by decide +kernel) ?_
  refine T_let 96 (by decide +kernel) ?_
  refine T_if1 (by decide +kernel) ?_
  refine T_let 15 (by decide +kernel) ?_
  refine T_if1 (by decide +kernel) ?_
  refine T_leq (fun x87 e88 => ?_)
  have u89 := CI_b c79 (k := 87) (j := 6) bd_87_6
  refine T_if1 (by decide +kernel) ?_
  refine T_lcopy hfu (by decide +kernel) (by decide +kernel) (c := 97) (c2 := 16) (by decide +kernel) (by decide +kernel) (by decide) (by omega) bdr_97 bdr_16 (by decide) (by decide) c79 (fun s90 e93 c91 g94 => ?_)
  have f92 := z_Fr.up (R := R_X9_copyFrom_87_6) f80 g94 (fun _ => (⟨by decide, by decide⟩))
  have t95 : s90 6 6 = s78 6 6 := g94 6 6 (by decide)
  have t96 : s90 6 7 = s78 6 7 := g94 6 7 (by decide)
  have t97 : s90 6 8 = s78 6 8 := g94 6 8 (by decide)
  have t98 : s90 87 6 = s78 87 6 := g94 87 6 (by decide)
  refine T_if1 (by decide +kernel) ?_
  refine T_let 98 (by decide +kernel) ?_
  refine T_if1 (by decide +kernel) ?_
  refine T_let 17 (by decide +kernel) ?_
  refine T_if1 (by decide +kernel) ?_
  refine T_leq (fun x99 e100 => ?_)
  have u101 := CI_b c91 (k := 87) (j := 6) bd_87_6
  refine T_if1 (by decide +kernel) ?_
  refine T_lcopy hfu (by decide +kernel) (by decide +kernel) (c := 99) (c2 := 18) (by decide +kernel) (by decide +kernel) (by decide) (by omega) bdr_99 bdr_18 (by decide) (by decide) c91 (fun s102 e105 c103 g106 => ?_)
  have f104 := z_Fr.up (R := R_X9_copyFrom_87_6) f92 g106 (fun _ => (⟨by decide, by decide⟩))
  have t107 : s102 6 6 = s90 6 6 := g106 6 6 (by decide)
  have t108 : s102 6 7 = s90 6 7 := g106 6 7 (by decide)
  have t109 : s102 6 8 = s90 6 8 := g106 6 8 (by decide)
  have t110 : s102 87 6 = s90 87 6 := g106 87 6 (by decide)
  exact T_ret ⟨c103, f104, rfl⟩
abbrev R_X9_copyFrom_74_6 (a b : Int) : Prop := (74 ≤ a ∧ a ≤ 86)
abbrev P_X9_copyFrom_74_6 (r0 : z_M) : z_V → z_M → Prop := fun v s' => z_CI s' ∧ z_Fr R_X9_copyFrom_74_6 r0 s' ∧ (v = vN)
theorem sf_X9_copyFrom_74_6 {fu : Nat} (hfu : 8589934592 ≤ fu) (r0 : z_M) (c0 : z_CI r0) : z_T (fX9_copyFrom fu r0 74 6) (P_X9_copyFrom_74_6 r0) := by
  refine T_of (fX9_copyFrom.eq_1 ..) ?_
  refine T_if1 (by decide +kernel) ?_
  refine T_leq (fun x1 e2 => ?_)
  have u3 := CI_b c0 (k := 6) (j := 6) bd_6_6
  refine T_if1 (by decide +kernel) ?_
  refine T_upg c0 bd_74_6 (by omega) (fun s4 c5 g7 g8 e9 => ?_)
  have f6 := z_Fr.upf (R := R_X9_copyFrom_74_6) z_Fr.rf g7 g8 (⟨by decide, by decide⟩)
  have t10 : s4 6 6 = r0 6 6 := g7 6 6 (by decide)
  have t11 : s4 6 7 = r0 6 7 := g7 6 7 (by decide)
  have t12 : s4 6 8 = r0 6 8 := g7 6 8 (by decide)
  refine T_if1 (by decide +kernel) ?_
  refine T_leq (fun x13 e14 => ?_)
  have u15 := CI_b c5 (k := 6) (j := 7) bd_6_7
  refine T_if1 (by decide +kernel) ?_
  refine T_upg c5 bd_74_7 (by omega) (fun s16 c17 g19 g20 e21 => ?_)
  have f18 := z_Fr.upf (R := R_X9_copyFrom_74_6) f6 g19 g20 (⟨by decide, by decide⟩)
  have t22 : s16 6 6 = s4 6 6 := g19 6 6 (by decide)
  have t23 : s16 6 7 = s4 6 7 := g19 6 7 (by decide)
  have t24 : s16 6 8 = s4 6 8 := g19 6 8 (by decide)
  have t25 : s16 74 6 = s4 74 6 := g20 6 (by decide)
  refine T_if1 (by decide +kernel) ?_
  refine T_leq (fun x26 e27 => ?_)
  have u28 := CI_b c17 (k := 6) (j := 8) bd_6_8
  refine T_if1 (by decide +kernel) ?_
  refine T_upg c17 bd_74_8 (by omega) (fun s29 c30 g32 g33 e34 => ?_)
  have f31 := z_Fr.upf (R := R_X9_copyFrom_74_6) f18 g32 g33 (⟨by decide, by decide⟩)
  have t35 : s29 6 6 = s16 6 6 := g32 6 6 (by decide)
  have t36 : s29 6 7 = s16 6 7 := g32 6 7 (by decide)
  have t37 : s29 6 8 = s16 6 8 := g32 6 8 (by decide)
  have t38 : s29 74 6 = s16 74 6 := g33 6 (by decide)
  refine T_if1 (by decide +kernel) ?_
  refine T_let 75 (by decide +kernel) ?_
  refine T_if1 (by decide +kernel) ?_
  refine T_let 7 (by decide +kernel) ?_
  refine T_if1 (by decide +kernel) ?_
  refine T_leq (fun x39 e40 => ?_)
  have u41 := CI_b c30 (k := 74) (j := 6) bd_74_6
  refine T_if1 (by decide +kernel) ?_
  refine T_copy hfu (by decide +kernel) (by decide +kernel) (c := 76) (c2 := 8) (by decide +kernel) (by decide +kernel) (by decide) (by omega) bdr_76 bdr_8 (by decide) (by decide) c30 (fun s42 e45 c43 g46 => ?_)
  have f44 := z_Fr.up (R := R_X9_copyFrom_74_6) f31 g46 (fun _ => (⟨by decide, by decide⟩))
  have t47 : s42 6 6 = s29 6 6 := g46 6 6 (by decide)
  have t48 : s42 6 7 = s29 6 7 := g46 6 7 (by decide)
  have t49 : s42 6 8 = s29 6 8 := g46 6 8 (by decide)
  have t50 : s42 74 6 = s29 74 6 := g46 74 6 (by decide)
  refine T_if1 (by decide +kernel) ?_
  refine T_let 77 (by decide +kernel) ?_
  refine T_if1 (by decide +kernel) ?_
  refine T_let 9 (by decide +kernel) ?_
  refine T_if1 (by decide +kernel) ?_
  refine T_leq (fun x51 e52 => ?_)
  have u53 := CI_b c43 (k := 74) (j := 6) bd_74_6
  refine T_if1 (by decide +kernel) ?_
  refine T_copy hfu (by decide +kernel) (by decide +kernel) (c := 78) (c2 := 10) (by decide +kernel) (by decide +kernel) (by decide) (by omega) bdr_78 bdr_10 (by decide) (by decide) c43 (fun s54 e57 c55 g58 => ?_)
  have f56 := z_Fr.up (R := R_X9_copyFrom_74_6) f44 g58 (fun _ => (⟨by decide, by decide⟩))
  have t59 : s54 6 6 = s42 6 6 := g58 6 6 (by decide)
  have t60 : s54 6 7 = s42 6 7 := g58 6 7 (by decide)
  have t61 : s54 6 8 = s42 6 8 := g58 6 8 (by decide)
  have t62 : s54 74 6 = s42 74 6 := g58 74 6 (by decide)
  refine T_if1 (by decide +kernel) ?_
  refine T_let 79 (by decide +kernel) ?_
  refine T_if1 (by decide +kernel) ?_
  refine T_let 11 (by decide +kernel) ?_
  refine T_if1 (by decide +kernel) ?_
  refine T_leq (fun x63 e64 => ?_)
  have u65 := CI_b c55 (k := 74) (j := 6) bd_74_6
  refine T_if1 (by decide +kernel) ?_
  refine T_copy hfu (by decide +kernel) (by decide +kernel) (c := 80) (c2 := 12) (by decide +kernel) (by decide +kernel) (by decide) (by omega) bdr_80 bdr_12 (by decide) (by decide) c55 (fun s66 e69 c67 g70 => ?_)
  have f68 := z_Fr.up (R := R_X9_copyFrom_74_6) f56 g70 (fun _ => (⟨by decide, by decide⟩))
  have t71 : s66 6 6 = s54 6 6 := g70 6 6 (by decide)
  have t72 : s66 6 7 = s54 6 7 := g70 6 7 (by decide)
  have t73 : s66 6 8 = s54 6 8 := g70 6 8 (by decide)
  have t74 : s66 74 6 = s54 74 6 := g70 74 6 (by decide)
  refine T_if1 (by decide +kernel) ?_
  refine T_let 81 (by decide +kernel) ?_
  refine T_if1 (by decide +kernel) ?_
  refine T_let 13 (by decide +kernel) ?_
  refine T_if1 (by decide +kernel) ?_
  refine T_leq (fun x75 e76 => ?_)
  have u77 := CI_b c67 (k := 74) (j := 6) bd_74_6
  refine T_if1 (by decide +kernel) ?_
  refine T_copy hfu (by decide +kernel) (by decide +kernel) (c := 82) (c2 := 14) (by decide +kernel) (by decide +kernel) (by decide) (by omega) bdr_82 bdr_14 (by decide) (by decide) c67 (fun s78 e81 c79 g82 => ?_)
  have f80 := z_Fr.up (R := R_X9_copyFrom_74_6) f68 g82 (fun _ => (⟨by decide, by decide⟩))
  have t83 : s78 6 6 = s66 6 6 := g82 6 6 (by decide)
  have t84 : s78 6 7 = s66 6 7 := g82 6 7 (by decide)
  have t85 : s78 6 8 = s66 6 8 := g82 6 8 (by decide)
  have t86 : s78 74 6 = s66 74 6 := g82 74 6 (by decide)
  refine T_if1 (by decide +kernel) ?_
  refine T_let 83 (by decide +kernel) ?_
  refine T_if1 (by decide +kernel) ?_
  refine T_let 15 (by decide +kernel) ?_
  refine T_if1 (by decide +kernel) ?_
  refine T_leq (fun x87 e88 => ?_)
  have u89 := CI_b c79 (k := 74) (j := 6) bd_74_6
  refine T_if1 (by decide +kernel) ?_
  refine T_lcopy hfu (by decide +kernel) (by decide +kernel) (c := 84) (c2 := 16) (by decide +kernel) (by decide +kernel) (by decide) (by omega) bdr_84 bdr_16 (by decide) (by decide) c79 (fun s90 e93 c91 g94 => ?_)
  have f92 := z_Fr.up (R := R_X9_copyFrom_74_6) f80 g94 (fun _ => (⟨by decide, by decide⟩))
  have t95 : s90 6 6 = s78 6 6 := g94 6 6 (by decide)
  have t96 : s90 6 7 = s78 6 7 := g94 6 7 (by decide)
  have t97 : s90 6 8 = s78 6 8 := g94 6 8 (by decide)
  have t98 : s90 74 6 = s78 74 6 := g94 74 6 (by decide)
  refine T_if1 (by decide +kernel) ?_
  refine T_let 85 (by decide +kernel) ?_
  refine T_if1 (by decide +kernel) ?_
  refine T_let 17 (by decide +kernel) ?_
  refine T_if1 (by decide +kernel) ?_
  refine T_leq (fun x99 e100 => ?_)
  have u101 := CI_b c91 (k := 74) (j := 6) bd_74_6
  refine T_if1 (by decide +kernel) ?_
  refine T_lcopy hfu (by decide +kernel) (by decide +kernel) (c := 86) (c2 := 18) (by decide +kernel) (by decide +kernel) (by decide) (by omega) bdr_86 bdr_18 (by decide) (by decide) c91 (fun s102 e105 c103 g106 => ?_)
  have f104 := z_Fr.up (R := R_X9_copyFrom_74_6) f92 g106 (fun _ => (⟨by decide, by decide⟩))
  have t107 : s102 6 6 = s90 6 6 := g106 6 6 (by decide)
  have t108 : s102 6 7 = s90 6 7 := g106 6 7 (by decide)
  have t109 : s102 6 8 = s90 6 8 := g106 6 8 (by decide)
  have t110 : s102 74 6 = s90 74 6 := g106 74 6 (by decide)
  exact T_ret ⟨c103, f104, rfl⟩
abbrev R_X9_copyFrom_61_6 (a b : Int) : Prop := (61 ≤ a ∧ a ≤ 73)
abbrev P_X9_copyFrom_61_6 (r0 : z_M) : z_V → z_M → Prop := fun v s' => z_CI s' ∧ z_Fr R_X9_copyFrom_61_6 r0 s' ∧ (v = vN)
theorem sf_X9_copyFrom_61_6 {fu : Nat} (hfu : 8589934592 ≤ fu) (r0 : z_M) (c0 : z_CI r0) : z_T (fX9_copyFrom fu r0 61 6) (P_X9_copyFrom_61_6 r0) := by
  refine T_of (fX9_copyFrom.eq_1 ..) ?_
  refine T_if1 (by decide +kernel) ?_
  refine T_leq (fun x1 e2 => ?_)
  have u3 := CI_b c0 (k := 6) (j := 6) bd_6_6
  refine T_if1 (by decide +kernel) ?_
  refine T_upg c0 bd_61_6 (by omega) (fun s4 c5 g7 g8 e9 => ?_)
  have f6 := z_Fr.upf (R := R_X9_copyFrom_61_6) z_Fr.rf g7 g8 (⟨by decide, by decide⟩)
  have t10 : s4 6 6 = r0 6 6 := g7 6 6 (by decide)
  have t11 : s4 6 7 = r0 6 7 := g7 6 7 (by decide)
  have t12 : s4 6 8 = r0 6 8 := g7 6 8 (by decide)
  refine T_if1 (by decide +kernel) ?_
  refine T_leq (fun x13 e14 => ?_)
  have u15 := CI_b c5 (k := 6) (j := 7) bd_6_7
  refine T_if1 (by decide +kernel) ?_
  refine T_upg c5 bd_61_7 (by omega) (fun s16 c17 g19 g20 e21 => ?_)
  have f18 := z_Fr.upf (R := R_X9_copyFrom_61_6) f6 g19 g20 (⟨by decide, by decide⟩)
  have t22 : s16 6 6 = s4 6 6 := g19 6 6 (by decide)
  have t23 : s16 6 7 = s4 6 7 := g19 6 7 (by decide)
  have t24 : s16 6 8 = s4 6 8 := g19 6 8 (by decide)
  have t25 : s16 61 6 = s4 61 6 := g20 6 (by decide)
  refine T_if1 (by decide +kernel) ?_
  refine T_leq (fun x26 e27 => ?_)
  have u28 := CI_b c17 (k := 6) (j := 8) bd_6_8
  refine T_if1 (by decide +kernel) ?_
  refine T_upg c17 bd_61_8 (by omega) (fun s29 c30 g32 g33 e34 => ?_)
  have f31 := z_Fr.upf (R := R_X9_copyFrom_61_6) f18 g32 g33 (⟨by decide, by decide⟩)
  have t35 : s29 6 6 = s16 6 6 := g32 6 6 (by decide)
  have t36 : s29 6 7 = s16 6 7 := g32 6 7 (by decide)
  have t37 : s29 6 8 = s16 6 8 := g32 6 8 (by decide)
  have t38 : s29 61 6 = s16 61 6 := g33 6 (by decide)
  refine T_if1 (by decide +kernel) ?_
  refine T_let 62 (by decide +kernel) ?_
  refine T_if1 (by decide +kernel) ?_
  refine T_let 7 (by decide +kernel) ?_
  refine T_if1 (by decide +kernel) ?_
  refine T_leq (fun x39 e40 => ?_)
  have u41 := CI_b c30 (k := 61) (j := 6) bd_61_6
  refine T_if1 (by decide +kernel) ?_
  refine T_copy hfu (by decide +kernel) (by decide +kernel) (c := 63) (c2 := 8) (by decide +kernel) (by decide +kernel) (by decide) (by omega) bdr_63 bdr_8 (by decide) (by decide) c30 (fun s42 e45 c43 g46 => ?_)
  have f44 := z_Fr.up (R := R_X9_copyFrom_61_6) f31 g46 (fun _ => (⟨by decide, by decide⟩))
  have t47 : s42 6 6 = s29 6 6 := g46 6 6 (by decide)
  have t48 : s42 6 7 = s29 6 7 := g46 6 7 (by decide)
  have t49 : s42 6 8 = s29 6 8 := g46 6 8 (by decide)
  have t50 : s42 61 6 = s29 61 6 := g46 61 6 (by decide)
  refine T_if1 (by decide +kernel) ?_
  refine T_let 64 (by decide +kernel) ?_
  refine T_if1 (by decide +kernel) ?_
  refine T_let 9 (by decide +kernel) ?_
  refine T_if1 (by decide +kernel) ?_
  refine T_leq (fun x51 e52 => ?_)
  have u53 := CI_b c43 (k := 61) (j := 6) bd_61_6
  refine T_if1 (by decide +kernel) ?_
  refine T_copy hfu (by decide +kernel) (by decide +kernel) (c := 65) (c2 := 10) (by decide +kernel) (by decide +kernel) (by decide) (by omega) bdr_65 bdr_10 (by decide) (by decide) c43 (fun s54 e57 c55 g58 => ?_)
  have f56 := z_Fr.up (R := R_X9_copyFrom_61_6) f44 g58 (fun _ => (⟨by decide, by decide⟩))
  have t59 : s54 6 6 = s42 6 6 := g58 6 6 (by decide)
  have t60 : s54 6 7 = s42 6 7 := g58 6 7 (by decide)
  have t61 : s54 6 8 = s42 6 8 := g58 6 8 (by decide)
  have t62 : s54 61 6 = s42 61 6 := g58 61 6 (by decide)
  refine T_if1 (by decide +kernel) ?_
  refine T_let 66 (by decide +kernel) ?_
  refine T_if1 (by decide +kernel) ?_
  refine T_let 11 (by decide +kernel) ?_
  refine T_if1 (by decide +kernel) ?_
  refine T_leq (fun x63 e64 => ?_)
  have u65 := CI_b c55 (k := 61) (j := 6) bd_61_6
  refine T_if1 (by decide +kernel) ?_
  refine T_copy hfu (by decide +kernel) (by decide +kernel) (c := 67) (c2 := 12) (by decide +kernel) (by decide +kernel) (by decide) (by omega) bdr_67 bdr_12 (by decide) (by decide) c55 (fun s66 e69 c67 g70 => ?_)
  have f68 := z_Fr.up (R := R_X9_copyFrom_61_6) f56 g70 (fun _ => (⟨by decide, by decide⟩))
  have t71 : s66 6 6 = s54 6 6 := g70 6 6 (by decide)
  have t72 : s66 6 7 = s54 6 7 := g70 6 7 (by decide)
  have t73 : s66 6 8 = s54 6 8 := g70 6 8 (by decide)
  have t74 : s66 61 6 = s54 61 6 := g70 61 6 (by decide)
  refine T_if1 (by decide +kernel) ?_
  refine T_let 68 (by decide +kernel) ?_
  refine T_if1 (by decide +kernel) ?_
  refine T_let 13 (by decide +kernel) ?_
  refine T_if1 (by decide +kernel) ?_
  refine T_leq (fun x75 e76 => ?_)
  have u77 := CI_b c67 (k := 61) (j := 6) bd_61_6
  refine T_if1 (by decide +kernel) ?_
  refine T_copy hfu (by decide +kernel) (by decide +kernel) (c := 69) (c2 := 14) (by decide +kernel) (by decide +kernel) (by decide) (by omega) bdr_69 bdr_14 (by decide) (by decide) c67 (fun s78 e81 c79 g82 => ?_)
  have f80 := z_Fr.up (R := R_X9_copyFrom_61_6) f68 g82 (fun _ => (⟨by decide, by decide⟩))
  have t83 : s78 6 6 = s66 6 6 := g82 6 6 (by decide)
  have t84 : s78 6 7 = s66 6 7 := g82 6 7 (by decide)
  have t85 : s78 6 8 = s66 6 8 := g82 6 8 (by decide)
  have t86 : s78 61 6 = s66 61 6 := g82 61 6 (by decide)
  refine T_if1 (by decide +kernel) ?_
  refine T_let 70 (by decide +kernel) ?_
  refine T_if1 (by decide +kernel) ?_
  refine T_let 15 (by decide +kernel) ?_
  refine T_if1 (by decide +kernel) ?_
  refine T_leq (fun x87 e88 => ?_)
  have u89 := CI_b c79 (k := 61) (j := 6) bd_61_6
  refine T_if1 (by decide +kernel) ?_
  refine T_lcopy hfu (by decide +kernel) (by decide +kernel) (c := 71) (c2 := 16) (by decide +kernel) (by decide +kernel) (by decide) (by omega) bdr_71 bdr_16 (by decide) (by decide) c79 (fun s90 e93 c91 g94 => ?_)
  have f92 := z_Fr.up (R := R_X9_copyFrom_61_6) f80 g94 (fun _ => (⟨by decide, by decide⟩))
  have t95 : s90 6 6 = s78 6 6 := g94 6 6 (by decide)
  have t96 : s90 6 7 = s78 6 7 := g94 6 7 (by decide)
  have t97 : s90 6 8 = s78 6 8 := g94 6 8 (by decide)
  have t98 : s90 61 6 = s78 61 6 := g94 61 6 (by decide)
  refine T_if1 (by decide +kernel) ?_
  refine T_let 72 (by decide +kernel) ?_
  refine T_if1 (by decide +kernel) ?_
  refine T_let 17 (by decide +kernel) ?_
  refine T_if1 (by decide +kernel) ?_
  refine T_leq (fun x99 e100 => ?_)
  have u101 := CI_b c91 (k := 61) (j := 6) bd_61_6
  refine T_if1 (by decide +kernel) ?_
  refine T_lcopy hfu (by decide +kernel) (by decide +kernel) (c := 73) (c2 := 18) (by decide +kernel) (by decide +kernel) (by decide) (by omega) bdr_73 bdr_18 (by decide) (by decide) c91 (fun s102 e105 c103 g106 => ?_)
  have f104 := z_Fr.up (R := R_X9_copyFrom_61_6) f92 g106 (fun _ => (⟨by decide, by decide⟩))
  have t107 : s102 6 6 = s90 6 6 := g106 6 6 (by decide)
  have t108 : s102 6 7 = s90 6 7 := g106 6 7 (by decide)
  have t109 : s102 6 8 = s90 6 8 := g106 6 8 (by decide)
  have t110 : s102 61 6 = s90 61 6 := g106 61 6 (by decide)
  exact T_ret ⟨c103, f104, rfl⟩
abbrev R_X9_copyFrom_48_6 (a b : Int) : Prop := (48 ≤ a ∧ a ≤ 60)
abbrev P_X9_copyFrom_48_6 (r0 : z_M) : z_V → z_M → Prop := fun v s' => z_CI s' ∧ z_Fr R_X9_copyFrom_48_6 r0 s' ∧ (v = vN)
theorem sf_X9_copyFrom_48_6 {fu : Nat} (hfu : 8589934592 ≤ fu) (r0 : z_M) (c0 : z_CI r0) : z_T (fX9_copyFrom fu r0 48 6) (P_X9_copyFrom_48_6 r0) := by
  refine T_of (fX9_copyFrom.eq_1 ..) ?_
  refine T_if1 (by decide +kernel) ?_
  refine T_leq (fun x1 e2 => ?_)
  have u3 := CI_b c0 (k := 6) (j := 6) bd_6_6
  refine T_if1 (by decide +kernel) ?_
  refine T_upg c0 bd_48_6 (by omega) (fun s4 c5 g7 g8 e9 => ?_)
  have f6 := z_Fr.upf (R := R_X9_copyFrom_48_6) z_Fr.rf g7 g8 (⟨by decide, by decide⟩)
  have t10 : s4 6 6 = r0 6 6 := g7 6 6 (by decide)
  have t11 : s4 6 7 = r0 6 7 := g7 6 7 (by decide)
  have t12 : s4 6 8 = r0 6 8 := g7 6 8 (by decide)
  refine T_if1 (by decide +kernel) ?_
  refine T_leq (fun x13 e14 => ?_)
  have u15 := CI_b c5 (k := 6) (j := 7) bd_6_7
  refine T_if1 (by decide +kernel) ?_
  refine T_upg c5 bd_48_7 (by omega) (fun s16 c17 g19 g20 e21 => ?_)
  have f18 := z_Fr.upf (R := R_X9_copyFrom_48_6) f6 g19 g20 (⟨by decide, by decide⟩)
  have t22 : s16 6 6 = s4 6 6 := g19 6 6 (by decide)
  have t23 : s16 6 7 = s4 6 7 := g19 6 7 (by decide)
  have t24 : s16 6 8 = s4 6 8 := g19 6 8 (by decide)
  have t25 : s16 48 6 = s4 48 6 := g20 6 (by decide)
  refine T_if1 (by decide +kernel) ?_
  refine T_leq (fun x26 e27 => ?_)
  have u28 := CI_b c17 (k := 6) (j := 8) bd_6_8
  refine T_if1 (by decide +kernel) ?_
  refine T_upg c17 bd_48_8 (by omega) (fun s29 c30 g32 g33 e34 => ?_)
  have f31 := z_Fr.upf (R := R_X9_copyFrom_48_6) f18 g32 g33 (⟨by decide, by decide⟩)
  have t35 : s29 6 6 = s16 6 6 := g32 6 6 (by decide)
  have t36 : s29 6 7 = s16 6 7 := g32 6 7 (by decide)
  have t37 : s29 6 8 = s16 6 8 := g32 6 8 (by decide)
  have t38 : s29 48 6 = s16 48 6 := g33 6 (by decide)
  refine T_if1 (by decide +kernel) ?_
  refine T_let 49 (by decide +kernel) ?_
  refine T_if1 (by decide +kernel) ?_
  refine T_let 7 (by decide +kernel) ?_
  refine T_if1 (by decide +kernel) ?_
  refine T_leq (fun x39 e40 => ?_)
  have u41 := CI_b c30 (k := 48) (j := 6) bd_48_6
  refine T_if1 (by decide +kernel) ?_
  refine T_copy hfu (by decide +kernel) (by decide +kernel) (c := 50) (c2 := 8) (by decide +kernel) (by decide +kernel) (by decide) (by omega) bdr_50 bdr_8 (by decide) (by decide) c30 (fun s42 e45 c43 g46 => ?_)
  have f44 := z_Fr.up (R := R_X9_copyFrom_48_6) f31 g46 (fun _ => (⟨by decide, by decide⟩))
  have t47 : s42 6 6 = s29 6 6 := g46 6 6 (by decide)
  have t48 : s42 6 7 = s29 6 7 := g46 6 7 (by decide)
  have t49 : s42 6 8 = s29 6 8 := g46 6 8 (by decide)
  have t50 : s42 48 6 = s29 48 6 := g46 48 6 (by decide)
  refine T_if1 (by decide +kernel) ?_
  refine T_let 51 (by decide +kernel) ?_
  refine T_if1 (by decide +kernel) ?_
  refine T_let 9 (by decide +kernel) ?_
  refine T_if1 (by decide +kernel) ?_
  refine T_leq (fun x51 e52 => ?_)
  have u53 := CI_b c43 (k := 48) (j := 6) bd_48_6
  refine T_if1 (by decide +kernel) ?_
  refine T_copy hfu (by decide +kernel) (by decide +kernel) (c := 52) (c2 := 10) (by decide +kernel) (by decide +kernel) (by decide) (by omega) bdr_52 bdr_10 (by decide) (by decide) c43 (fun s54 e57 c55 g58 => ?_)
  have f56 := z_Fr.up (R := R_X9_copyFrom_48_6) f44 g58 (fun _ => (⟨by decide, by decide⟩))
  have t59 : s54 6 6 = s42 6 6 := g58 6 6 (by decide)
  have t60 : s54 6 7 = s42 6 7 := g58 6 7 (by decide)
  have t61 : s54 6 8 = s42 6 8 := g58 6 8 (by decide)
  have t62 : s54 48 6 = s42 48 6 := g58 48 6 (by decide)
  refine T_if1 (by decide +kernel) ?_
  refine T_let 53 (by decide +kernel) ?_
  refine T_if1 (by decide +kernel) ?_
  refine T_let 11 (by decide +kernel) ?_
  refine T_if1 (by decide +kernel) ?_
  refine T_leq (fun x63 e64 => ?_)
  have u65 := CI_b c55 (k := 48) (j := 6) bd_48_6
  refine T_if1 (by decide +kernel) ?_
  refine T_copy hfu (by decide +kernel) (by decide +kernel) (c := 54) (c2 := 12) (by decide +kernel) (by decide +kernel) (by decide) (by omega) bdr_54 bdr_12 (by decide) (by decide) c55 (fun s66 e69 c67 g70 => ?_)
  have f68 := z_Fr.up (R := R_X9_copyFrom_48_6) f56 g70 (fun _ => (⟨by decide, by decide⟩))
  have t71 : s66 6 6 = s54 6 6 := g70 6 6 (by decide)
  have t72 : s66 6 7 = s54 6 7 := g70 6 7 (by decide)
  have t73 : s66 6 8 = s54 6 8 := g70 6 8 (by decide)
  have t74 : s66 48 6 = s54 48 6 := g70 48 6 (by decide)
  refine T_if1 (by decide +kernel) ?_
  refine T_let 55 (by decide +kernel) ?_
  refine T_if1 (by decide +kernel) ?_
  refine T_let 13 (by decide +kernel) ?_
  refine T_if1 (by decide +kernel) ?_
  refine T_leq (fun x75 e76 => ?_)
  have u77 := CI_b c67 (k := 48) (j := 6) bd_48_6
  refine T_if1 (by decide +kernel) ?_
  refine T_copy hfu (by decide +kernel) (by decide +kernel) (c := 56) (c2 := 14) (by decide +kernel) (by decide +kernel) (by decide) (by omega) bdr_56 bdr_14 (by decide) (by decide) c67 (fun s78 e81 c79 g82 => ?_)
  have f80 := z_Fr.up (R := R_X9_copyFrom_48_6) f68 g82 (fun _ => (⟨by decide, by decide⟩))
  have t83 : s78 6 6 = s66 6 6 := g82 6 6 (by decide)
  have t84 : s78 6 7 = s66 6 7 := g82 6 7 (by decide)
  have t85 : s78 6 8 = s66 6 8 := g82 6 8 (by decide)
  have t86 : s78 48 6 = s66 48 6 := g82 48 6 (by decide)
  refine T_if1 (by decide +kernel) ?_
  refine T_let 57 (by decide +kernel) ?_
  refine T_if1 (by decide +kernel) ?_
  refine T_let 15 (by decide +kernel) ?_
  refine T_if1 (by decide +kernel) ?_
  refine T_leq (fun x87 e88 => ?_)
  have u89 := CI_b c79 (k := 48) (j := 6) bd_48_6
  refine T_if1 (by decide +kernel) ?_
  refine T_lcopy hfu (by decide +kernel) (by decide +kernel) (c := 58) (c2 := 16) (by decide +kernel) (by decide +kernel) (by decide) (by omega) bdr_58 bdr_16 (by decide) (by decide) c79 (fun s90 e93 c91 g94 => ?_)
  have f92 := z_Fr.up (R := R_X9_copyFrom_48_6) f80 g94 (fun _ => (⟨by decide, by decide⟩))
  have t95 : s90 6 6 = s78 6 6 := g94 6 6 (by decide)
  have t96 : s90 6 7 = s78 6 7 := g94 6 7 (by decide)
  have t97 : s90 6 8 = s78 6 8 := g94 6 8 (by decide)
  have t98 : s90 48 6 = s78 48 6 := g94 48 6 (by decide)
  refine T_if1 (by decide +kernel) ?_
  refine T_let 59 (by decide +kernel) ?_
  refine T_if1 (by decide +kernel) ?_
  refine T_let 17 (by decide +kernel) ?_
  refine T_if1 (by decide +kernel) ?_
  refine T_leq (fun x99 e100 => ?_)
  have u101 := CI_b c91 (k := 48) (j := 6) bd_48_6
  refine T_if1 (by decide +kernel) ?_
  refine T_lcopy hfu (by decide +kernel) (by decide +kernel) (c := 60) (c2 := 18) (by decide +kernel) (by decide +kernel) (by decide) (by omega) bdr_60 bdr_18 (by decide) (by decide) c91 (fun s102 e105 c103 g106 => ?_)
  have f104 := z_Fr.up (R := R_X9_copyFrom_48_6) f92 g106 (fun _ => (⟨by decide, by decide⟩))
  have t107 : s102 6 6 = s90 6 6 := g106 6 6 (by decide)
  have t108 : s102 6 7 = s90 6 7 := g106 6 7 (by decide)
  have t109 : s102 6 8 = s90 6 8 := g106 6 8 (by decide)
  have t110 : s102 48 6 = s90 48 6 := g106 48 6 (by decide)
  exact T_ret ⟨c103, f104, rfl⟩
abbrev R_X9_copyFrom_35_6 (a b : Int) : Prop := (35 ≤ a ∧ a ≤ 47)
abbrev P_X9_copyFrom_35_6 (r0 : z_M) : z_V → z_M → Prop := fun v s' => z_CI s' ∧ z_Fr R_X9_copyFrom_35_6 r0 s' ∧ (v = vN)
theorem sf_X9_copyFrom_35_6 {fu : Nat} (hfu : 8589934592 ≤ fu) (r0 : z_M) (c0 : z_CI r0) : z_T (fX9_copyFrom fu r0 35 6) (P_X9_copyFrom_35_6 r0) := by
  refine T_of (fX9_copyFrom.eq_1 ..) ?_
  refine T_if1 (by decide +kernel) ?_
  refine T_leq (fun x1 e2 => ?_)
  have u3 := CI_b c0 (k := 6) (j := 6) bd_6_6
  refine T_if1 (by decide +kernel) ?_
  refine T_upg c0 bd_35_6 (by omega) (fun s4 c5 g7 g8 e9 => ?_)
  have f6 := z_Fr.upf (R := R_X9_copyFrom_35_6) z_Fr.rf g7 g8 (⟨by decide, by decide⟩)
  have t10 : s4 6 6 = r0 6 6 := g7 6 6 (by decide)
  have t11 : s4 6 7 = r0 6 7 := g7 6 7 (by decide)
  have t12 : s4 6 8 = r0 6 8 := g7 6 8 (by decide)
  refine T_if1 (by decide +kernel) ?_
  refine T_leq (fun x13 e14 => ?_)
  have u15 := CI_b c5 (k := 6) (j := 7) bd_6_7
  refine T_if1 (by decide +kernel) ?_
  refine T_upg c5 bd_35_7 (by omega) (fun s16 c17 g19 g20 e21 => ?_)
  have f18 := z_Fr.upf (R := R_X9_copyFrom_35_6) f6 g19 g20 (⟨by decide, by decide⟩)
  have t22 : s16 6 6 = s4 6 6 := g19 6 6 (by decide)
  have t23 : s16 6 7 = s4 6 7 := g19 6 7 (by decide)
  have t24 : s16 6 8 = s4 6 8 := g19 6 8 (by decide)
  have t25 : s16 35 6 = s4 35 6 := g20 6 (by decide)
  refine T_if1 (by decide +kernel) ?_
  refine T_leq (fun x26 e27 => ?_)
  have u28 := CI_b c17 (k := 6) (j := 8) bd_6_8
  refine T_if1 (by decide +kernel) ?_
  refine T_upg c17 bd_35_8 (by omega) (fun s29 c30 g32 g33 e34 => ?_)
  have f31 := z_Fr.upf (R := R_X9_copyFrom_35_6) f18 g32 g33 (⟨by decide, by decide⟩)
  have t35 : s29 6 6 = s16 6 6 := g32 6 6 (by decide)
  have t36 : s29 6 7 = s16 6 7 := g32 6 7 (by decide)
  have t37 : s29 6 8 = s16 6 8 := g32 6 8 (by decide)
  have t38 : s29 35 6 = s16 35 6 := g33 6 (by decide)
  refine T_if1 (by decide +kernel) ?_
  refine T_let 36 (by decide +kernel) ?_
  refine T_if1 (by decide +kernel) ?_
  refine T_let 7 (by decide +kernel) ?_
  refine T_if1 (by decide +kernel) ?_
  refine T_leq (fun x39 e40 => ?_)
  have u41 := CI_b c30 (k := 35) (j := 6) bd_35_6
  refine T_if1 (by decide +kernel) ?_
  refine T_copy hfu (by decide +kernel) (by decide +kernel) (c := 37) (c2 := 8) (by decide +kernel) (by decide +kernel) (by decide) (by omega) bdr_37 bdr_8 (by decide) (by decide) c30 (fun s42 e45 c43 g46 => ?_)
  have f44 := z_Fr.up (R := R_X9_copyFrom_35_6) f31 g46 (fun _ => (⟨by decide, by decide⟩))
  have t47 : s42 6 6 = s29 6 6 := g46 6 6 (by decide)
  have t48 : s42 6 7 = s29 6 7 := g46 6 7 (by decide)
  have t49 : s42 6 8 = s29 6 8 := g46 6 8 (by decide)
  have t50 : s42 35 6 = s29 35 6 := g46 35 6 (by decide)
  refine T_if1 (by decide +kernel) ?_
  refine T_let 38 (by decide +kernel) ?_
  refine T_if1 (by decide +kernel) ?_
  refine T_let 9 (by decide +kernel) ?_
  refine T_if1 (by decide +kernel) ?_
  refine T_leq (fun x51 e52 => ?_)
  have u53 := CI_b c43 (k := 35) (j := 6) bd_35_6
  refine T_if1 (by decide +kernel) ?_
  refine T_copy hfu (by decide +kernel) (by decide +kernel) (c := 39) (c2 := 10) (by decide +kernel) (by decide +kernel) (by decide) (by omega) bdr_39 bdr_10 (by decide) (by decide) c43 (fun s54 e57 c55 g58 => ?_)
  have f56 := z_Fr.up (R := R_X9_copyFrom_35_6) f44 g58 (fun _ => (⟨by decide, by decide⟩))
  have t59 : s54 6 6 = s42 6 6 := g58 6 6 (by decide)
  have t60 : s54 6 7 = s42 6 7 := g58 6 7 (by decide)
  have t61 : s54 6 8 = s42 6 8 := g58 6 8 (by decide)
  have t62 : s54 35 6 = s42 35 6 := g58 35 6 (by decide)
  refine T_if1 (by decide +kernel) ?_
  refine T_let 40 (by decide +kernel) ?_
  refine T_if1 (by decide +kernel) ?_
  refine T_let 11 (by decide +kernel) ?_
  refine T_if1 (by decide +kernel) ?_
  refine T_leq (fun x63 e64 => ?_)
  have u65 := CI_b c55 (k := 35) (j := 6) bd_35_6
  refine T_if1 (by decide +kernel) ?_
  refine T_copy hfu (by decide +kernel) (by decide +kernel) (c := 41) (c2 := 12) (by decide +kernel) (by decide +kernel) (by decide) (by omega) bdr_41 bdr_12 (by decide) (by decide) c55 (fun s66 e69 c67 g70 => ?_)
  have f68 := z_Fr.up (R := R_X9_copyFrom_35_6) f56 g70 (fun _ => (⟨by decide, by decide⟩))
  have t71 : s66 6 6 = s54 6 6 := g70 6 6 (by decide)
  have t72 : s66 6 7 = s54 6 7 := g70 6 7 (by decide)
  have t73 : s66 6 8 = s54 6 8 := g70 6 8 (by decide)
  have t74 : s66 35 6 = s54 35 6 := g70 35 6 (by decide)
  refine T_if1 (by decide +kernel) ?_
  refine T_let 42 (by decide +kernel) ?_
  refine T_if1 (by decide +kernel) ?_
  refine T_let 13 (by decide +kernel) ?_
  refine T_if1 (by decide +kernel) ?_
  refine T_leq (fun x75 e76 => ?_)
  have u77 := CI_b c67 (k := 35) (j := 6) bd_35_6
  refine T_if1 (by decide +kernel) ?_
  refine T_copy hfu (by decide +kernel) (by decide +kernel) (c := 43) (c2 := 14) (by decide +kernel) (by decide +kernel) (by decide) (by omega) bdr_43 bdr_14 (by decide) (by decide) c67 (fun s78 e81 c79 g82 => ?_)
  have f80 := z_Fr.up (R := R_X9_copyFrom_35_6) f68 g82 (fun _ => (⟨by decide, by decide⟩))
  have t83 : s78 6 6 = s66 6 6 := g82 6 6 (by decide)
  have t84 : s78 6 7 = s66 6 7 := g82 6 7 (by decide)
  have t85 : s78 6 8 = s66 6 8 := g82 6 8 (by decide)
  have t86 : s78 35 6 = s66 35 6 := g82 35 6 (by decide)
  refine T_if1 (by decide +kernel) ?_
  refine T_let 44 (by decide +kernel) ?_
  refine T_if1 (by decide +kernel) ?_
  refine T_let 15 (by decide +kernel) ?_
  refine T_if1 (by decide +kernel) ?_
  refine T_leq (fun x87 e88 => ?_)
  have u89 := CI_b c79 (k := 35) (j := 6) bd_35_6
  refine T_if1 (by decide +kernel) ?_
  refine T_lcopy hfu (by decide +kernel) (by decide +kernel) (c := 45) (c2 := 16) (by decide +kernel) (by decide +kernel) (by decide) (by omega) bdr_45 bdr_16 (by decide) (by decide) c79 (fun s90 e93 c91 g94 => ?_)
  have f92 := z_Fr.up (R := R_X9_copyFrom_35_6) f80 g94 (fun _ => (⟨by decide, by decide⟩))
  have t95 : s90 6 6 = s78 6 6 := g94 6 6 (by decide)
  have t96 : s90 6 7 = s78 6 7 := g94 6 7 (by decide)
  have t97 : s90 6 8 = s78 6 8 := g94 6 8 (by decide)
  have t98 : s90 35 6 = s78 35 6 := g94 35 6 (by decide)
  refine T_if1 (by decide +kernel) ?_
  refine T_let 46 (by decide +kernel) ?_
  refine T_if1 (by decide +kernel) ?_
  refine T_let 17 (by decide +kernel) ?_
  refine T_if1 (by decide +kernel) ?_
  refine T_leq (fun x99 e100 => ?_)
  have u101 := CI_b c91 (k := 35) (j := 6) bd_35_6
  refine T_if1 (by decide +kernel) ?_
  refine T_lcopy hfu (by decide +kernel) (by decide +kernel) (c := 47) (c2 := 18) (by decide +kernel) (by decide +kernel) (by decide) (by omega) bdr_47 bdr_18 (by decide) (by decide) c91 (fun s102 e105 c103 g106 => ?_)
  have f104 := z_Fr.up (R := R_X9_copyFrom_35_6) f92 g106 (fun _ => (⟨by decide, by decide⟩))
  have t107 : s102 6 6 = s90 6 6 := g106 6 6 (by decide)
  have t108 : s102 6 7 = s90 6 7 := g106 6 7 (by decide)
  have t109 : s102 6 8 = s90 6 8 := g106 6 8 (by decide)
  have t110 : s102 35 6 = s90 35 6 := g106 35 6 (by decide)
  exact T_ret ⟨c103, f104, rfl⟩
abbrev R_X2_keep_33_6 (a b : Int) : Prop := (33 ≤ a ∧ a ≤ 190)
abbrev P_X2_keep_33_6 (r0 : z_M) : z_V → z_M → Prop := fun v s' => z_CI s' ∧ z_Fr R_X2_keep_33_6 r0 s' ∧ (v = vN)
theorem rs_X9_copyFrom_35_6__X2_keep_33_6 (a b : Int) (h : R_X9_copyFrom_35_6 a b) : R_X2_keep_33_6 a b := (⟨by omega, by omega⟩)
theorem sj_X2_keep_33_6_J36 {fu : Nat} (hfu : 8589934592 ≤ fu) (r0 s : z_M) (c : z_CI s) (f : z_Fr R_X2_keep_33_6 r0 s) (t1 : Int) (d1 : 0 ≤ t1 ∧ t1 ≤ 11) : z_T (fX2_keep_J36 fu s 33 33 t1) (P_X2_keep_33_6 r0) := by
  refine T_of (fX2_keep_J36.eq_1 ..) ?_
  have u1 := CI_b c (k := 33) (j := 1) bd_33_1
  have u2 := CI_b c (k := 33) (j := 2) bd_33_2
  refine T_if1 (by decide +kernel) ?_
  refine T_upg c bd_33_1 (by omega) (fun s3 c4 g6 g7 e8 => ?_)
  have f5 := z_Fr.upf (R := R_X2_keep_33_6) f g6 g7 (⟨by decide, by decide⟩)
  have t9 : s3 33 2 = s 33 2 := g7 2 (by decide)
  refine T_if1 (by decide +kernel) ?_
  refine T_leq (fun x10 e11 => ?_)
  have u12 := CI_b c4 (k := 33) (j := 2) bd_33_2
  refine T_leq (fun x13 e14 => ?_)
  have w15 := z_wb e14
  refine T_leq (fun x16 e17 => ?_)
  have w18 := z_minb x13 12
  rw [e17] at w18
  refine T_if1 (by decide +kernel) ?_
  refine T_upg c4 bd_33_2 (by omega) (fun s19 c20 g22 g23 e24 => ?_)
  have f21 := z_Fr.upf (R := R_X2_keep_33_6) f5 g22 g23 (⟨by decide, by decide⟩)
  have t25 : s19 33 1 = s3 33 1 := g23 1 (by decide)
  exact T_ret ⟨c20, f21, rfl⟩
theorem rs_X9_copyFrom_48_6__X2_keep_33_6 (a b : Int) (h : R_X9_copyFrom_48_6 a b) : R_X2_keep_33_6 a b := (⟨by omega, by omega⟩)
theorem rs_X9_copyFrom_61_6__X2_keep_33_6 (a b : Int) (h : R_X9_copyFrom_61_6 a b) : R_X2_keep_33_6 a b := (⟨by omega, by omega⟩)
theorem rs_X9_copyFrom_74_6__X2_keep_33_6 (a b : Int) (h : R_X9_copyFrom_74_6 a b) : R_X2_keep_33_6 a b := (⟨by omega, by omega⟩)
theorem rs_X9_copyFrom_87_6__X2_keep_33_6 (a b : Int) (h : R_X9_copyFrom_87_6 a b) : R_X2_keep_33_6 a b := (⟨by omega, by omega⟩)
theorem rs_X9_copyFrom_100_6__X2_keep_33_6 (a b : Int) (h : R_X9_copyFrom_100_6 a b) : R_X2_keep_33_6 a b := (⟨by omega, by omega⟩)
theorem rs_X9_copyFrom_113_6__X2_keep_33_6 (a b : Int) (h : R_X9_copyFrom_113_6 a b) : R_X2_keep_33_6 a b := (⟨by omega, by omega⟩)
theorem rs_X9_copyFrom_126_6__X2_keep_33_6 (a b : Int) (h : R_X9_copyFrom_126_6 a b) : R_X2_keep_33_6 a b := (⟨by omega, by omega⟩)
theorem rs_X9_copyFrom_139_6__X2_keep_33_6 (a b : Int) (h : R_X9_copyFrom_139_6 a b) : R_X2_keep_33_6 a b := (⟨by omega, by omega⟩)
theorem rs_X9_copyFrom_152_6__X2_keep_33_6 (a b : Int) (h : R_X9_copyFrom_152_6 a b) : R_X2_keep_33_6 a b := (⟨by omega, by omega⟩)
theorem rs_X9_copyFrom_165_6__X2_keep_33_6 (a b : Int) (h : R_X9_copyFrom_165_6 a b) : R_X2_keep_33_6 a b := (⟨by omega, by omega⟩)
theorem rs_X9_copyFrom_178_6__X2_keep_33_6 (a b : Int) (h : R_X9_copyFrom_178_6 a b) : R_X2_keep_33_6 a b := (⟨by omega, by omega⟩)
theorem sf_X2_keep_33_6 {fu : Nat} (hfu : 8589934592 ≤ fu) (r0 : z_M) (c0 : z_CI r0) : z_T (fX2_keep fu r0 33 6) (P_X2_keep_33_6 r0) := by
  refine T_of (fX2_keep.eq_1 ..) ?_
  refine T_if1 (by decide +kernel) ?_
  refine T_bR ?_
  refine T_of (fX2_place.eq_1 ..) ?_
  refine T_if1 (by decide +kernel) ?_
  refine T_leq (fun x1 e2 => ?_)
  have u3 := CI_b c0 (k := 33) (j := 1) bd_33_1
  refine T_ite (fun h4 => ?_) (fun h4 => ?_)
  · refine T_of (fX2_place_J31.eq_1 ..) ?_
    exfalso
    omega
  · refine T_if1 (by decide +kernel) ?_
    refine T_leq (fun x5 e6 => ?_)
    have u7 := CI_b c0 (k := 33) (j := 1) bd_33_1
    refine T_if1 (by decide +kernel) ?_
    refine T_let 34 (by decide +kernel) ?_
    refine T_if1 (by decide +kernel) ?_
    refine T_let 12 (by decide +kernel) ?_
    refine T_ite (fun h8 => ?_) (fun h8 => ?_)
    · refine T_of (fX2_place_J31.eq_1 ..) ?_
      exfalso
      omega
    · refine T_if1 (by decide +kernel) ?_
      refine T_let 34 (by decide +kernel) ?_
      refine T_if1 (by decide +kernel) ?_
      refine T_leq (fun x9 e10 => ?_)
      have u11 := CI_b c0 (k := 33) (j := 1) bd_33_1
      rcases (show x9 = 0 ∨ x9 = 1 ∨ x9 = 2 ∨ x9 = 3 ∨ x9 = 4 ∨ x9 = 5 ∨ x9 = 6 ∨ x9 = 7 ∨ x9 = 8 ∨ x9 = 9 ∨ x9 = 10 ∨ x9 = 11 by omega) with rfl | rfl | rfl | rfl | rfl | rfl | rfl | rfl | rfl | rfl | rfl | rfl
      · refine T_if1 (by decide +kernel) ?_
        refine T_let 35 (by decide +kernel) ?_
        refine T_of (fX2_place_J32.eq_1 ..) ?_
        refine T_rR ?_
        refine T_if1 (by decide) ?_
        refine T_if1 (by decide +kernel) ?_
        refine T_useN (sf_X9_copyFrom_35_6 hfu r0 c0) (fun v18 s13 hq => ?_)
        obtain ⟨c14, f15, rfl⟩ := hq
        refine T_vN ?_
        have f16 := z_Fr.tr (R := R_X2_keep_33_6) z_Fr.rf f15 rs_X9_copyFrom_35_6__X2_keep_33_6
        have t21 : s13 33 1 = r0 33 1 := f15 33 1 (by decide)
        have t22 : s13 33 2 = r0 33 2 := f15 33 2 (by decide)
        refine T_if1 (by decide +kernel) ?_
        refine T_leq (fun x23 e24 => ?_)
        have u25 := CI_b c14 (k := 33) (j := 1) bd_33_1
        refine T_leq (fun x26 e27 => ?_)
        have w28 := z_wb e27
        refine T_ite (fun h29 => ?_) (fun h29 => ?_)
        · exact sj_X2_keep_33_6_J36 hfu r0 s13 c14 f16 0 (by omega)
        · refine T_if1 (by decide +kernel) ?_
          refine T_leq (fun x30 e31 => ?_)
          have u32 := CI_b c14 (k := 33) (j := 1) bd_33_1
          refine T_leq (fun x33 e34 => ?_)
          have w35 := z_wb e34
          exact sj_X2_keep_33_6_J36 hfu r0 s13 c14 f16 x33 (by omega)
      · refine T_if1 (by decide +kernel) ?_
        refine T_let 48 (by decide +kernel) ?_
        refine T_of (fX2_place_J32.eq_1 ..) ?_
        refine T_rR ?_
        refine T_if1 (by decide) ?_
        refine T_if1 (by decide +kernel) ?_
        refine T_useN (sf_X9_copyFrom_48_6 hfu r0 c0) (fun v41 s36 hq => ?_)
        obtain ⟨c37, f38, rfl⟩ := hq
        refine T_vN ?_
        have f39 := z_Fr.tr (R := R_X2_keep_33_6) z_Fr.rf f38 rs_X9_copyFrom_48_6__X2_keep_33_6
        have t44 : s36 33 1 = r0 33 1 := f38 33 1 (by decide)
        have t45 : s36 33 2 = r0 33 2 := f38 33 2 (by decide)
        refine T_if1 (by decide +kernel) ?_
        refine T_leq (fun x46 e47 => ?_)
        have u48 := CI_b c37 (k := 33) (j := 1) bd_33_1
        refine T_leq (fun x49 e50 => ?_)
        have w51 := z_wb e50
        refine T_ite (fun h52 => ?_) (fun h52 => ?_)
        · exact sj_X2_keep_33_6_J36 hfu r0 s36 c37 f39 0 (by omega)
        · refine T_if1 (by decide +kernel) ?_
          refine T_leq (fun x53 e54 => ?_)
          have u55 := CI_b c37 (k := 33) (j := 1) bd_33_1
          refine T_leq (fun x56 e57 => ?_)
          have w58 := z_wb e57
          exact sj_X2_keep_33_6_J36 hfu r0 s36 c37 f39 x56 (by omega)
      · refine T_if1 (by decide +kernel) ?_
        refine T_let 61 (by decide +kernel) ?_
        refine T_of (fX2_place_J32.eq_1 ..) ?_
        refine T_rR ?_
        refine T_if1 (by decide) ?_
        refine T_if1 (by decide +kernel) ?_
        refine T_useN (sf_X9_copyFrom_61_6 hfu r0 c0) (fun v64 s59 hq => ?_)
        obtain ⟨c60, f61, rfl⟩ := hq
        refine T_vN ?_
        have f62 := z_Fr.tr (R := R_X2_keep_33_6) z_Fr.rf f61 rs_X9_copyFrom_61_6__X2_keep_33_6
        have t67 : s59 33 1 = r0 33 1 := f61 33 1 (by decide)
        have t68 : s59 33 2 = r0 33 2 := f61 33 2 (by decide)
        refine T_if1 (by decide +kernel) ?_
        refine T_leq (fun x69 e70 => ?_)
        have u71 := CI_b c60 (k := 33) (j := 1) bd_33_1
        refine T_leq (fun x72 e73 => ?_)
        have w74 := z_wb e73
        refine T_ite (fun h75 => ?_) (fun h75 => ?_)
        · exact sj_X2_keep_33_6_J36 hfu r0 s59 c60 f62 0 (by omega)
        · refine T_if1 (by decide +kernel) ?_
          refine T_leq (fun x76 e77 => ?_)
          have u78 := CI_b c60 (k := 33) (j := 1) bd_33_1
          refine T_leq (fun x79 e80 => ?_)
          have w81 := z_wb e80
          exact sj_X2_keep_33_6_J36 hfu r0 s59 c60 f62 x79 (by omega)
      · refine T_if1 (by decide +kernel) ?_
        refine T_let 74 (by decide +kernel) ?_
        refine T_of (fX2_place_J32.eq_1 ..) ?_
        refine T_rR ?_
        refine T_if1 (by decide) ?_
        refine T_if1 (by decide +kernel) ?_
        refine T_useN (sf_X9_copyFrom_74_6 hfu r0 c0) (fun v87 s82 hq => ?_)
        obtain ⟨c83, f84, rfl⟩ := hq
        refine T_vN ?_
        have f85 := z_Fr.tr (R := R_X2_keep_33_6) z_Fr.rf f84 rs_X9_copyFrom_74_6__X2_keep_33_6
        have t90 : s82 33 1 = r0 33 1 := f84 33 1 (by decide)
        have t91 : s82 33 2 = r0 33 2 := f84 33 2 (by decide)
        refine T_if1 (by decide +kernel) ?_
        refine T_leq (fun x92 e93 => ?_)
        have u94 := CI_b c83 (k := 33) (j := 1) bd_33_1
        refine T_leq (fun x95 e96 => ?_)
        have w97 := z_wb e96
        refine T_ite (fun h98 => ?_) (fun h98 => ?_)
        · exact sj_X2_keep_33_6_J36 hfu r0 s82 c83 f85 0 (by omega)
        · refine T_if1 (by decide +kernel) ?_
          refine T_leq (fun x99 e100 => ?_)
          have u101 := CI_b c83 (k := 33) (j := 1) bd_33_1
          refine T_leq (fun x102 e103 => ?_)
          have w104 := z_wb e103
          exact sj_X2_keep_33_6_J36 hfu r0 s82 c83 f85 x102 (by omega)
      · refine T_if1 (by decide +kernel) ?_
        refine T_let 87 (by decide +kernel) ?_
        refine T_of (fX2_place_J32.eq_1 ..) ?_
        refine T_rR ?_
        refine T_if1 (by decide) ?_
        refine T_if1 (by decide +kernel) ?_
        refine T_useN (sf_X9_copyFrom_87_6 hfu r0 c0) (fun v110 s105 hq => ?_)
        obtain ⟨c106, f107, rfl⟩ := hq
        refine T_vN ?_
        have f108 := z_Fr.tr (R := R_X2_keep_33_6) z_Fr.rf f107 rs_X9_copyFrom_87_6__X2_keep_33_6
        have t113 : s105 33 1 = r0 33 1 := f107 33 1 (by decide)
        have t114 : s105 33 2 = r0 33 2 := f107 33 2 (by decide)
        refine T_if1 (by decide +kernel) ?_
        refine T_leq (fun x115 e116 => ?_)
        have u117 := CI_b c106 (k := 33) (j := 1) bd_33_1
        refine T_leq (fun x118 e119 => ?_)
        have w120 := z_wb e119
        refine T_ite (fun h121 => ?_) (fun h121 => ?_)
        · exact sj_X2_keep_33_6_J36 hfu r0 s105 c106 f108 0 (by omega)
        · refine T_if1 (by decide +kernel) ?_
          refine T_leq (fun x122 e123 => ?_)
          have u124 := CI_b c106 (k := 33) (j := 1) bd_33_1
          refine T_leq (fun x125 e126 => ?_)
          have w127 := z_wb e126
          exact sj_X2_keep_33_6_J36 hfu r0 s105 c106 f108 x125 (by omega)
      · refine T_if1 (by decide +kernel) ?_
        refine T_let 100 (by decide +kernel) ?_
        refine T_of (fX2_place_J32.eq_1 ..) ?_
        refine T_rR ?_
        refine T_if1 (by decide) ?_
        refine T_if1 (by decide +kernel) ?_
        refine T_useN (sf_X9_copyFrom_100_6 hfu r0 c0) (fun v133 s128 hq => ?_)
        obtain ⟨c129, f130, rfl⟩ := hq
        refine T_vN ?_
        have f131 := z_Fr.tr (R := R_X2_keep_33_6) z_Fr.rf f130 rs_X9_copyFrom_100_6__X2_keep_33_6
        have t136 : s128 33 1 = r0 33 1 := f130 33 1 (by decide)
        have t137 : s128 33 2 = r0 33 2 := f130 33 2 (by decide)
        refine T_if1 (by decide +kernel) ?_
        refine T_leq (fun x138 e139 => ?_)
        have u140 := CI_b c129 (k := 33) (j := 1) bd_33_1
        refine T_leq (fun x141 e142 => ?_)
        have w143 := z_wb e142
        refine T_ite (fun h144 => ?_) (fun h144 => ?_)
        · exact sj_X2_keep_33_6_J36 hfu r0 s128 c129 f131 0 (by omega)
        · refine T_if1 (by decide +kernel) ?_
          refine T_leq (fun x145 e146 => ?_)
          have u147 := CI_b c129 (k := 33) (j := 1) bd_33_1
          refine T_leq (fun x148 e149 => ?_)
          have w150 := z_wb e149
          exact sj_X2_keep_33_6_J36 hfu r0 s128 c129 f131 x148 (by omega)
      · refine T_if1 (by decide +kernel) ?_
        refine T_let 113 (by decide +kernel) ?_
        refine T_of (fX2_place_J32.eq_1 ..) ?_
        refine T_rR ?_
        refine T_if1 (by decide) ?_
        refine T_if1 (by decide +kernel) ?_
        refine T_useN (sf_X9_copyFrom_113_6 hfu r0 c0) (fun v156 s151 hq => ?_)
        obtain ⟨c152, f153, rfl⟩ := hq
        refine T_vN ?_
        have f154 := z_Fr.tr (R := R_X2_keep_33_6) z_Fr.rf f153 rs_X9_copyFrom_113_6__X2_keep_33_6
        have t159 : s151 33 1 = r0 33 1 := f153 33 1 (by decide)
        have t160 : s151 33 2 = r0 33 2 := f153 33 2 (by decide)
        refine T_if1 (by decide +kernel) ?_
        refine T_leq (fun x161 e162 => ?_)
        have u163 := CI_b c152 (k := 33) (j := 1) bd_33_1
        refine T_leq (fun x164 e165 => ?_)
        have w166 := z_wb e165
        refine T_ite (fun h167 => ?_) (fun h167 => ?_)
        · exact sj_X2_keep_33_6_J36 hfu r0 s151 c152 f154 0 (by omega)
        · refine T_if1 (by decide +kernel) ?_
          refine T_leq (fun x168 e169 => ?_)
          have u170 := CI_b c152 (k := 33) (j := 1) bd_33_1
          refine T_leq (fun x171 e172 => ?_)
          have w173 := z_wb e172
          exact sj_X2_keep_33_6_J36 hfu r0 s151 c152 f154 x171 (by omega)
      · refine T_if1 (by decide +kernel) ?_
        refine T_let 126 (by decide +kernel) ?_
        refine T_of (fX2_place_J32.eq_1 ..) ?_
        refine T_rR ?_
        refine T_if1 (by decide) ?_
        refine T_if1 (by decide +kernel) ?_
        refine T_useN (sf_X9_copyFrom_126_6 hfu r0 c0) (fun v179 s174 hq => ?_)
        obtain ⟨c175, f176, rfl⟩ := hq
        refine T_vN ?_
        have f177 := z_Fr.tr (R := R_X2_keep_33_6) z_Fr.rf f176 rs_X9_copyFrom_126_6__X2_keep_33_6
        have t182 : s174 33 1 = r0 33 1 := f176 33 1 (by decide)
        have t183 : s174 33 2 = r0 33 2 := f176 33 2 (by decide)
        refine T_if1 (by decide +kernel) ?_
        refine T_leq (fun x184 e185 => ?_)
        have u186 := CI_b c175 (k := 33) (j := 1) bd_33_1
        refine T_leq (fun x187 e188 => ?_)
        have w189 := z_wb e188
        refine T_ite (fun h190 => ?_) (fun h190 => ?_)
        · exact sj_X2_keep_33_6_J36 hfu r0 s174 c175 f177 0 (by omega)
        · refine T_if1 (by decide +kernel) ?_
          refine T_leq (fun x191 e192 => ?_)
          have u193 := CI_b c175 (k := 33) (j := 1) bd_33_1
          refine T_leq (fun x194 e195 => ?_)
          have w196 := z_wb e195
          exact sj_X2_keep_33_6_J36 hfu r0 s174 c175 f177 x194 (by omega)
      · refine T_if1 (by decide +kernel) ?_
        refine T_let 139 (by decide +kernel) ?_
        refine T_of (fX2_place_J32.eq_1 ..) ?_
        refine T_rR ?_
        refine T_if1 (by decide) ?_
        refine T_if1 (by decide +kernel) ?_
        refine T_useN (sf_X9_copyFrom_139_6 hfu r0 c0) (fun v202 s197 hq => ?_)
        obtain ⟨c198, f199, rfl⟩ := hq
        refine T_vN ?_
        have f200 := z_Fr.tr (R := R_X2_keep_33_6) z_Fr.rf f199 rs_X9_copyFrom_139_6__X2_keep_33_6
        have t205 : s197 33 1 = r0 33 1 := f199 33 1 (by decide)
        have t206 : s197 33 2 = r0 33 2 := f199 33 2 (by decide)
        refine T_if1 (by decide +kernel) ?_
        refine T_leq (fun x207 e208 => ?_)
        have u209 := CI_b c198 (k := 33) (j := 1) bd_33_1
        refine T_leq (fun x210 e211 => ?_)
        have w212 := z_wb e211
        refine T_ite (fun h213 => ?_) (fun h213 => ?_)
        · exact sj_X2_keep_33_6_J36 hfu r0 s197 c198 f200 0 (by omega)
        · refine T_if1 (by decide +kernel) ?_
          refine T_leq (fun x214 e215 => ?_)
          have u216 := CI_b c198 (k := 33) (j := 1) bd_33_1
          refine T_leq (fun x217 e218 => ?_)
          have w219 := z_wb e218
          exact sj_X2_keep_33_6_J36 hfu r0 s197 c198 f200 x217 (by omega)
      · refine T_if1 (by decide +kernel) ?_
        refine T_let 152 (by decide +kernel) ?_
        refine T_of (fX2_place_J32.eq_1 ..) ?_
        refine T_rR ?_
        refine T_if1 (by decide) ?_
        refine T_if1 (by decide +kernel) ?_
        refine T_useN (sf_X9_copyFrom_152_6 hfu r0 c0) (fun v225 s220 hq => ?_)
        obtain ⟨c221, f222, rfl⟩ := hq
        refine T_vN ?_
        have f223 := z_Fr.tr (R := R_X2_keep_33_6) z_Fr.rf f222 rs_X9_copyFrom_152_6__X2_keep_33_6
        have t228 : s220 33 1 = r0 33 1 := f222 33 1 (by decide)
        have t229 : s220 33 2 = r0 33 2 := f222 33 2 (by decide)
        refine T_if1 (by decide +kernel) ?_
        refine T_leq (fun x230 e231 => ?_)
        have u232 := CI_b c221 (k := 33) (j := 1) bd_33_1
        refine T_leq (fun x233 e234 => ?_)
        have w235 := z_wb e234
        refine T_ite (fun h236 => ?_) (fun h236 => ?_)
        · exact sj_X2_keep_33_6_J36 hfu r0 s220 c221 f223 0 (by omega)
        · refine T_if1 (by decide +kernel) ?_
          refine T_leq (fun x237 e238 => ?_)
          have u239 := CI_b c221 (k := 33) (j := 1) bd_33_1
          refine T_leq (fun x240 e241 => ?_)
          have w242 := z_wb e241
          exact sj_X2_keep_33_6_J36 hfu r0 s220 c221 f223 x240 (by omega)
      · refine T_if1 (by decide +kernel) ?_
        refine T_let 165 (by decide +kernel) ?_
        refine T_of (fX2_place_J32.eq_1 ..) ?_
        refine T_rR ?_
        refine T_if1 (by decide) ?_
        refine T_if1 (by decide +kernel) ?_
        refine T_useN (sf_X9_copyFrom_165_6 hfu r0 c0) (fun v248 s243 hq => ?_)
        obtain ⟨c244, f245, rfl⟩ := hq
        refine T_vN ?_
        have f246 := z_Fr.tr (R := R_X2_keep_33_6) z_Fr.rf f245 rs_X9_copyFrom_165_6__X2_keep_33_6
        have t251 : s243 33 1 = r0 33 1 := f245 33 1 (by decide)
        have t252 : s243 33 2 = r0 33 2 := f245 33 2 (by decide)
        refine T_if1 (by decide +kernel) ?_
        refine T_leq (fun x253 e254 => ?_)
        have u255 := CI_b c244 (k := 33) (j := 1) bd_33_1
        refine T_leq (fun x256 e257 => ?_)
        have w258 := z_wb e257
        refine T_ite (fun h259 => ?_) (fun h259 => ?_)
        · exact sj_X2_keep_33_6_J36 hfu r0 s243 c244 f246 0 (by omega)
        · refine T_if1 (by decide +kernel) ?_
          refine T_leq (fun x260 e261 => ?_)
          have u262 := CI_b c244 (k := 33) (j := 1) bd_33_1
          refine T_leq (fun x263 e264 => ?_)
          have w265 := z_wb e264
          exact sj_X2_keep_33_6_J36 hfu r0 s243 c244 f246 x263 (by omega)
      · refine T_if1 (by decide +kernel) ?_
        refine T_let 178 (by decide +kernel) ?_
        refine T_of (fX2_place_J32.eq_1 ..) ?_
        refine T_rR ?_
        refine T_if1 (by decide) ?_
        refine T_if1 (by decide +kernel) ?_
        refine T_useN (sf_X9_copyFrom_178_6 hfu r0 c0) (fun v271 s266 hq => ?_)
        obtain ⟨c267, f268, rfl⟩ := hq
        refine T_vN ?_
        have f269 := z_Fr.tr (R := R_X2_keep_33_6) z_Fr.rf f268 rs_X9_copyFrom_178_6__X2_keep_33_6
        have t274 : s266 33 1 = r0 33 1 := f268 33 1 (by decide)
        have t275 : s266 33 2 = r0 33 2 := f268 33 2 (by decide)
        refine T_if1 (by decide +kernel) ?_
        refine T_leq (fun x276 e277 => ?_)
        have u278 := CI_b c267 (k := 33) (j := 1) bd_33_1
        refine T_leq (fun x279 e280 => ?_)
        have w281 := z_wb e280
        refine T_ite (fun h282 => ?_) (fun h282 => ?_)
        · exact sj_X2_keep_33_6_J36 hfu r0 s266 c267 f269 0 (by omega)
        · refine T_if1 (by decide +kernel) ?_
          refine T_leq (fun x283 e284 => ?_)
          have u285 := CI_b c267 (k := 33) (j := 1) bd_33_1
          refine T_leq (fun x286 e287 => ?_)
          have w288 := z_wb e287
          exact sj_X2_keep_33_6_J36 hfu r0 s266 c267 f269 x286 (by omega)
abbrev R_X9_clear_19 (a b : Int) : Prop := (a = 19 ∧ (b = 6 ∨ b = 7 ∨ b = 8))
abbrev P_X9_clear_19 (r0 : z_M) : z_V → z_M → Prop := fun v s' => z_CI s' ∧ z_Fr R_X9_clear_19 r0 s' ∧ (v = vN)
theorem sf_X9_clear_19 {fu : Nat} (hfu : 8589934592 ≤ fu) (r0 : z_M) (c0 : z_CI r0) : z_T (fX9_clear fu r0 19) (P_X9_clear_19 r0) := by
  refine T_of (fX9_clear.eq_1 ..) ?_
  refine T_if1 (by decide +kernel) ?_
  refine T_upg c0 bd_19_6 (by omega) (fun s1 c2 g4 g5 e6 => ?_)
  have f3 := z_Fr.upf (R := R_X9_clear_19) z_Fr.rf g4 g5 (⟨rfl, by decide⟩)
  refine T_if1 (by decide +kernel) ?_
  refine T_upg c2 bd_19_7 (by omega) (fun s7 c8 g10 g11 e12 => ?_)
  have f9 := z_Fr.upf (R := R_X9_clear_19) f3 g10 g11 (⟨rfl, by decide⟩)
  refine T_if1 (by decide +kernel) ?_
  refine T_upg c8 bd_19_8 (by omega) (fun s13 c14 g16 g17 e18 => ?_)
  have f15 := z_Fr.upf (R := R_X9_clear_19) f9 g16 g17 (⟨rfl, by decide⟩)
  exact T_ret ⟨c14, f15, rfl⟩
abbrev R_X9_copyFrom_19_6 (a b : Int) : Prop := (21 ≤ a ∧ a ≤ 31) ∨ (a = 19 ∧ (b = 6 ∨ b = 7 ∨ b = 8))
abbrev P_X9_copyFrom_19_6 (r0 : z_M) : z_V → z_M → Prop := fun v s' => z_CI s' ∧ z_Fr R_X9_copyFrom_19_6 r0 s' ∧ (v = vN)
theorem sf_X9_copyFrom_19_6 {fu : Nat} (hfu : 8589934592 ≤ fu) (r0 : z_M) (c0 : z_CI r0) : z_T (fX9_copyFrom fu r0 19 6) (P_X9_copyFrom_19_6 r0) := by
  refine T_of (fX9_copyFrom.eq_1 ..) ?_
  refine T_if1 (by decide +kernel) ?_
  refine T_leq (fun x1 e2 => ?_)
  have u3 := CI_b c0 (k := 6) (j := 6) bd_6_6
  refine T_if1 (by decide +kernel) ?_
  refine T_upg c0 bd_19_6 (by omega) (fun s4 c5 g7 g8 e9 => ?_)
  have f6 := z_Fr.upf (R := R_X9_copyFrom_19_6) z_Fr.rf g7 g8 (Or.inr (⟨rfl, by decide⟩))
  have t10 : s4 6 6 = r0 6 6 := g7 6 6 (by decide)
  have t11 : s4 6 7 = r0 6 7 := g7 6 7 (by decide)
  have t12 : s4 6 8 = r0 6 8 := g7 6 8 (by decide)
  refine T_if1 (by decide +kernel) ?_
  refine T_leq (fun x13 e14 => ?_)
  have u15 := CI_b c5 (k := 6) (j := 7) bd_6_7
  refine T_if1 (by decide +kernel) ?_
  refine T_upg c5 bd_19_7 (by omega) (fun s16 c17 g19 g20 e21 => ?_)
  have f18 := z_Fr.upf (R := R_X9_copyFrom_19_6) f6 g19 g20 (Or.inr (⟨rfl, by decide⟩))
  have t22 : s16 6 6 = s4 6 6 := g19 6 6 (by decide)
  have t23 : s16 6 7 = s4 6 7 := g19 6 7 (by decide)
  have t24 : s16 6 8 = s4 6 8 := g19 6 8 (by decide)
  have t25 : s16 19 6 = s4 19 6 := g20 6 (by decide)
  refine T_if1 (by decide +kernel) ?_
  refine T_leq (fun x26 e27 => ?_)
  have u28 := CI_b c17 (k := 6) (j := 8) bd_6_8
  refine T_if1 (by decide +kernel) ?_
  refine T_upg c17 bd_19_8 (by omega) (fun s29 c30 g32 g33 e34 => ?_)
  have f31 := z_Fr.upf (R := R_X9_copyFrom_19_6) f18 g32 g33 (Or.inr (⟨rfl, by decide⟩))
  have t35 : s29 6 6 = s16 6 6 := g32 6 6 (by decide)
  have t36 : s29 6 7 = s16 6 7 := g32 6 7 (by decide)
  have t37 : s29 6 8 = s16 6 8 := g32 6 8 (by decide)
  have t38 : s29 19 6 = s16 19 6 := g33 6 (by decide)
  refine T_if1 (by decide +kernel) ?_
  refine T_let 20 (by decide +kernel) ?_
  refine T_if1 (by decide +kernel) ?_
  refine T_let 7 (by decide +kernel) ?_
  refine T_if1 (by decide +kernel) ?_
  refine T_leq (fun x39 e40 => ?_)
  have u41 := CI_b c30 (k := 19) (j := 6) bd_19_6
  refine T_if1 (by decide +kernel) ?_
  refine T_copy hfu (by decide +kernel) (by decide +kernel) (c := 21) (c2 := 8) (by decide +kernel) (by decide +kernel) (by decide) (by omega) bdr_21 bdr_8 (by decide) (by decide) c30 (fun s42 e45 c43 g46 => ?_)
  have f44 := z_Fr.up (R := R_X9_copyFrom_19_6) f31 g46 (fun _ => (Or.inl (⟨by decide, by decide⟩)))
  have t47 : s42 6 6 = s29 6 6 := g46 6 6 (by decide)
  have t48 : s42 6 7 = s29 6 7 := g46 6 7 (by decide)
  have t49 : s42 6 8 = s29 6 8 := g46 6 8 (by decide)
  have t50 : s42 19 6 = s29 19 6 := g46 19 6 (by decide)
  refine T_if1 (by decide +kernel) ?_
  refine T_let 22 (by decide +kernel) ?_
  refine T_if1 (by decide +kernel) ?_
  refine T_let 9 (by decide +kernel) ?_
  refine T_if1 (by decide +kernel) ?_
  refine T_leq (fun x51 e52 => ?_)
  have u53 := CI_b c43 (k := 19) (j := 6) bd_19_6
  refine T_if1 (by decide +kernel) ?_
  refine T_copy hfu (by decide +kernel) (by decide +kernel) (c := 23) (c2 := 10) (by decide +kernel) (by decide +kernel) (by decide) (by omega) bdr_23 bdr_10 (by decide) (by decide) c43 (fun s54 e57 c55 g58 => ?_)
  have f56 := z_Fr.up (R := R_X9_copyFrom_19_6) f44 g58 (fun _ => (Or.inl (⟨by decide, by decide⟩)))
  have t59 : s54 6 6 = s42 6 6 := g58 6 6 (by decide)
  have t60 : s54 6 7 = s42 6 7 := g58 6 7 (by decide)
  have t61 : s54 6 8 = s42 6 8 := g58 6 8 (by decide)
  have t62 : s54 19 6 = s42 19 6 := g58 19 6 (by decide)
  refine T_if1 (by decide +kernel) ?_
  refine T_let 24 (by decide +kernel) ?_
  refine T_if1 (by decide +kernel) ?_
  refine T_let 11 (by decide +kernel) ?_
  refine T_if1 (by decide +kernel) ?_
  refine T_leq (fun x63 e64 => ?_)
  have u65 := CI_b c55 (k := 19) (j := 6) bd_19_6
  refine T_if1 (by decide +kernel) ?_
  refine T_copy hfu (by decide +kernel) (by decide +kernel) (c := 25) (c2 := 12) (by decide +kernel) (by decide +kernel) (by decide) (by omega) bdr_25 bdr_12 (by decide) (by decide) c55 (fun s66 e69 c67 g70 => ?_)
  have f68 := z_Fr.up (R := R_X9_copyFrom_19_6) f56 g70 (fun _ => (Or.inl (⟨by decide, by decide⟩)))
  have t71 : s66 6 6 = s54 6 6 := g70 6 6 (by decide)
  have t72 : s66 6 7 = s54 6 7 := g70 6 7 (by decide)
  have t73 : s66 6 8 = s54 6 8 := g70 6 8 (by decide)
  have t74 : s66 19 6 = s54 19 6 := g70 19 6 (by decide)
  refine T_if1 (by decide +kernel) ?_
  refine T_let 26 (by decide +kernel) ?_
  refine T_if1 (by decide +kernel) ?_
  refine T_let 13 (by decide +kernel) ?_
  refine T_if1 (by decide +kernel) ?_
  refine T_leq (fun x75 e76 => ?_)
  have u77 := CI_b c67 (k := 19) (j := 6) bd_19_6
  refine T_if1 (by decide +kernel) ?_
  refine T_copy hfu (by decide +kernel) (by decide +kernel) (c := 27) (c2 := 14) (by decide +kernel) (by decide +kernel) (by decide) (by omega) bdr_27 bdr_14 (by decide) (by decide) c67 (fun s78 e81 c79 g82 => ?_)
  have f80 := z_Fr.up (R := R_X9_copyFrom_19_6) f68 g82 (fun _ => (Or.inl (⟨by decide, by decide⟩)))
  have t83 : s78 6 6 = s66 6 6 := g82 6 6 (by decide)
  have t84 : s78 6 7 = s66 6 7 := g82 6 7 (by decide)
  have t85 : s78 6 8 = s66 6 8 := g82 6 8 (by decide)
  have t86 : s78 19 6 = s66 19 6 := g82 19 6 (by decide)
  refine T_if1 (by decide +kernel) ?_
  refine T_let 28 (by decide +kernel) ?_
  refine T_if1 (by decide +kernel) ?_
  refine T_let 15 (by decide +kernel) ?_
  refine T_if1 (by decide +kernel) ?_
  refine T_leq (fun x87 e88 => ?_)
  have u89 := CI_b c79 (k := 19) (j := 6) bd_19_6
  refine T_if1 (by decide +kernel) ?_
  refine T_lcopy hfu (by decide +kernel) (by decide +kernel) (c := 29) (c2 := 16) (by decide +kernel) (by decide +kernel) (by decide) (by omega) bdr_29 bdr_16 (by decide) (by decide) c79 (fun s90 e93 c91 g94 => ?_)
  have f92 := z_Fr.up (R := R_X9_copyFrom_19_6) f80 g94 (fun _ => (Or.inl (⟨by decide, by decide⟩)))
  have t95 : s90 6 6 = s78 6 6 := g94 6 6 (by decide)
  have t96 : s90 6 7 = s78 6 7 := g94 6 7 (by decide)
  have t97 : s90 6 8 = s78 6 8 := g94 6 8 (by decide)
  have t98 : s90 19 6 = s78 19 6 := g94 19 6 (by decide)
  refine T_if1 (by decide +kernel) ?_
  refine T_let 30 (by decide +kernel) ?_
  refine T_if1 (by decide +kernel) ?_
  refine T_let 17 (by decide +kernel) ?_
  refine T_if1 (by decide +kernel) ?_
  refine T_leq (fun x99 e100 => ?_)
  have u101 := CI_b c91 (k := 19) (j := 6) bd_19_6
  refine T_if1 (by decide +kernel) ?_
  refine T_lcopy hfu (by decide +kernel) (by decide +kernel) (c := 31) (c2 := 18) (by decide +kernel) (by decide +kernel) (by decide) (by omega) bdr_31 bdr_18 (by decide) (by decide) c91 (fun s102 e105 c103 g106 => ?_)
  have f104 := z_Fr.up (R := R_X9_copyFrom_19_6) f92 g106 (fun _ => (Or.inl (⟨by decide, by decide⟩)))
  have t107 : s102 6 6 = s90 6 6 := g106 6 6 (by decide)
  have t108 : s102 6 7 = s90 6 7 := g106 6 7 (by decide)
  have t109 : s102 6 8 = s90 6 8 := g106 6 8 (by decide)
  have t110 : s102 19 6 = s90 19 6 := g106 19 6 (by decide)
  exact T_ret ⟨c103, f104, rfl⟩
abbrev R_X9_copyFrom_6_19 (a b : Int) : Prop := (8 ≤ a ∧ a ≤ 18) ∨ (a = 6 ∧ (b = 6 ∨ b = 7 ∨ b = 8))
abbrev P_X9_copyFrom_6_19 (r0 : z_M) : z_V → z_M → Prop := fun v s' => z_CI s' ∧ z_Fr R_X9_copyFrom_6_19 r0 s' ∧ (v = vN)
theorem sf_X9_copyFrom_6_19 {fu : Nat} (hfu : 8589934592 ≤ fu) (r0 : z_M) (c0 : z_CI r0) : z_T (fX9_copyFrom fu r0 6 19) (P_X9_copyFrom_6_19 r0) := by
  refine T_of (fX9_copyFrom.eq_1 ..) ?_
  refine T_if1 (by decide +kernel) ?_
  refine T_leq (fun x1 e2 => ?_)
  have u3 := CI_b c0 (k := 19) (j := 6) bd_19_6
  refine T_if1 (by decide +kernel) ?_
  refine T_upg c0 bd_6_6 (by omega) (fun s4 c5 g7 g8 e9 => ?_)
  have f6 := z_Fr.upf (R := R_X9_copyFrom_6_19) z_Fr.rf g7 g8 (Or.inr (⟨rfl, by decide⟩))
  have t10 : s4 19 6 = r0 19 6 := g7 19 6 (by decide)
  have t11 : s4 19 7 = r0 19 7 := g7 19 7 (by decide)
  have t12 : s4 19 8 = r0 19 8 := g7 19 8 (by decide)
  refine T_if1 (by decide +kernel) ?_
  refine T_leq (fun x13 e14 => ?_)
  have u15 := CI_b c5 (k := 19) (j := 7) bd_19_7
  refine T_if1 (by decide +kernel) ?_
  refine T_upg c5 bd_6_7 (by omega) (fun s16 c17 g19 g20 e21 => ?_)
  have f18 := z_Fr.upf (R := R_X9_copyFrom_6_19) f6 g19 g20 (Or.inr (⟨rfl, by decide⟩))
  have t22 : s16 6 6 = s4 6 6 := g20 6 (by decide)
  have t23 : s16 19 6 = s4 19 6 := g19 19 6 (by decide)
  have t24 : s16 19 7 = s4 19 7 := g19 19 7 (by decide)
  have t25 : s16 19 8 = s4 19 8 := g19 19 8 (by decide)
  refine T_if1 (by decide +kernel) ?_
  refine T_leq (fun x26 e27 => ?_)
  have u28 := CI_b c17 (k := 19) (j := 8) bd_19_8
  refine T_if1 (by decide +kernel) ?_
  refine T_upg c17 bd_6_8 (by omega) (fun s29 c30 g32 g33 e34 => ?_)
  have f31 := z_Fr.upf (R := R_X9_copyFrom_6_19) f18 g32 g33 (Or.inr (⟨rfl, by decide⟩))
  have t35 : s29 6 6 = s16 6 6 := g33 6 (by decide)
  have t36 : s29 19 6 = s16 19 6 := g32 19 6 (by decide)
  have t37 : s29 19 7 = s16 19 7 := g32 19 7 (by decide)
  have t38 : s29 19 8 = s16 19 8 := g32 19 8 (by decide)
  refine T_if1 (by decide +kernel) ?_
  refine T_let 7 (by decide +kernel) ?_
  refine T_if1 (by decide +kernel) ?_
  refine T_let 20 (by decide +kernel) ?_
  refine T_if1 (by decide +kernel) ?_
  refine T_leq (fun x39 e40 => ?_)
  have u41 := CI_b c30 (k := 6) (j := 6) bd_6_6
  refine T_if1 (by decide +kernel) ?_
  refine T_copy hfu (by decide +kernel) (by decide +kernel) (c := 8) (c2 := 21) (by decide +kernel) (by decide +kernel) (by decide) (by omega) bdr_8 bdr_21 (by decide) (by decide) c30 (fun s42 e45 c43 g46 => ?_)
  have f44 := z_Fr.up (R := R_X9_copyFrom_6_19) f31 g46 (fun _ => (Or.inl (⟨by decide, by decide⟩)))
  have t47 : s42 6 6 = s29 6 6 := g46 6 6 (by decide)
  have t48 : s42 19 6 = s29 19 6 := g46 19 6 (by decide)
  have t49 : s42 19 7 = s29 19 7 := g46 19 7 (by decide)
  have t50 : s42 19 8 = s29 19 8 := g46 19 8 (by decide)
  refine T_if1 (by decide +kernel) ?_
  refine T_let 9 (by decide +kernel) ?_
  refine T_if1 (by decide +kernel) ?_
  refine T_let 22 (by decide +kernel) ?_
  refine T_if1 (by decide +kernel) ?_
  refine T_leq (fun x51 e52 => ?_)
  have u53 := CI_b c43 (k := 6) (j := 6) bd_6_6
  refine T_if1 (by decide +kernel) ?_
  refine T_copy hfu (by decide +kernel) (by decide +kernel) (c := 10) (c2 := 23) (by decide +kernel) (by decide +kernel) (by decide) (by omega) bdr_10 bdr_23 (by decide) (by decide) c43 (fun s54 e57 c55 g58 => ?_)
  have f56 := z_Fr.up (R := R_X9_copyFrom_6_19) f44 g58 (fun _ => (Or.inl (⟨by decide, by decide⟩)))
  have t59 : s54 6 6 = s42 6 6 := g58 6 6 (by decide)
  have t60 : s54 19 6 = s42 19 6 := g58 19 6 (by decide)
  have t61 : s54 19 7 = s42 19 7 := g58 19 7 (by decide)
  have t62 : s54 19 8 = s42 19 8 := g58 19 8 (by decide)
  refine T_if1 (by decide +kernel) ?_
  refine T_let 11 (by decide +kernel) ?_
  refine T_if1 (by decide +kernel) ?_
  refine T_let 24 (by decide +kernel) ?_
  refine T_if1 (by decide +kernel) ?_
  refine T_leq (fun x63 e64 => ?_)
  have u65 := CI_b c55 (k := 6) (j := 6) bd_6_6
  refine T_if1 (by decide +kernel) ?_
  refine T_copy hfu (by decide +kernel) (by decide +kernel) (c := 12) (c2 := 25) (by decide +kernel) (by decide +kernel) (by decide) (by omega) bdr_12 bdr_25 (by decide) (by decide) c55 (fun s66 e69 c67 g70 => ?_)
  have f68 := z_Fr.up (R := R_X9_copyFrom_6_19) f56 g70 (fun _ => (Or.inl (⟨by decide, by decide⟩)))
  have t71 : s66 6 6 = s54 6 6 := g70 6 6 (by decide)
  have t72 : s66 19 6 = s54 19 6 := g70 19 6 (by decide)
  have t73 : s66 19 7 = s54 19 7 := g70 19 7 (by decide)
  have t74 : s66 19 8 = s54 19 8 := g70 19 8 (by decide)
  refine T_if1 (by decide +kernel) ?_
  refine T_let 13 (by decide +kernel) ?_
  refine T_if1 (by decide +kernel) ?_
  refine T_let 26 (by decide +kernel) ?_
  refine T_if1 (by decide +kernel) ?_
  refine T_leq (fun x75 e76 => ?_)
  have u77 := CI_b c67 (k := 6) (j := 6) bd_6_6
  refine T_if1 (by decide +kernel) ?_
  refine T_copy hfu (by decide +kernel) (by decide +kernel) (c := 14) (c2 := 27) (by decide +kernel) (by decide +kernel) (by decide) (by omega) bdr_14 bdr_27 (by decide) (by decide) c67 (fun s78 e81 c79 g82 => ?_)
  have f80 := z_Fr.up (R := R_X9_copyFrom_6_19) f68 g82 (fun _ => (Or.inl (⟨by decide, by decide⟩)))
  have t83 : s78 6 6 = s66 6 6 := g82 6 6 (by decide)
  have t84 : s78 19 6 = s66 19 6 := g82 19 6 (by decide)
  have t85 : s78 19 7 = s66 19 7 := g82 19 7 (by decide)
  have t86 : s78 19 8 = s66 19 8 := g82 19 8 (by decide)
  refine T_if1 (by decide +kernel) ?_
  refine T_let 15 (by decide +kernel) ?_
  refine T_if1 (by decide +kernel) ?_
  refine T_let 28 (by decide +kernel) ?_
  refine T_if1 (by decide +kernel) ?_
  refine T_leq (fun x87 e88 => ?_)
  have u89 := CI_b c79 (k := 6) (j := 6) bd_6_6
  refine T_if1 (by decide +kernel) ?_
  refine T_lcopy hfu (by decide +kernel) (by decide +kernel) (c := 16) (c2 := 29) (by decide +kernel) (by decide +kernel) (by decide) (by omega) bdr_16 bdr_29 (by decide) (by decide) c79 (fun s90 e93 c91 g94 => ?_)
  have f92 := z_Fr.up (R := R_X9_copyFrom_6_19) f80 g94 (fun _ => (Or.inl (⟨by decide, by decide⟩)))
  have t95 : s90 6 6 = s78 6 6 := g94 6 6 (by decide)
  have t96 : s90 19 6 = s78 19 6 := g94 19 6 (by decide)
  have t97 : s90 19 7 = s78 19 7 := g94 19 7 (by decide)
  have t98 : s90 19 8 = s78 19 8 := g94 19 8 (by decide)
  refine T_if1 (by decide +kernel) ?_
  refine T_let 17 (by decide +kernel) ?_
  refine T_if1 (by decide +kernel) ?_
  refine T_let 30 (by decide +kernel) ?_
  refine T_if1 (by decide +kernel) ?_
  refine T_leq (fun x99 e100 => ?_)
  have u101 := CI_b c91 (k := 6) (j := 6) bd_6_6
  refine T_if1 (by decide +kernel) ?_
  refine T_lcopy hfu (by decide +kernel) (by decide +kernel) (c := 18) (c2 := 31) (by decide +kernel) (by decide +kernel) (by decide) (by omega) bdr_18 bdr_31 (by decide) (by decide) c91 (fun s102 e105 c103 g106 => ?_)
  have f104 := z_Fr.up (R := R_X9_copyFrom_6_19) f92 g106 (fun _ => (Or.inl (⟨by decide, by decide⟩)))
  have t107 : s102 6 6 = s90 6 6 := g106 6 6 (by decide)
  have t108 : s102 19 6 = s90 19 6 := g106 19 6 (by decide)
  have t109 : s102 19 7 = s90 19 7 := g106 19 7 (by decide)
  have t110 : s102 19 8 = s90 19 8 := g106 19 8 (by decide)
  exact T_ret ⟨c103, f104, rfl⟩
abbrev R_X9_renumber_6 (a b : Int) : Prop := (12 ≤ a ∧ a ≤ 12) ∨ (a = 6 ∧ (b = 7))
abbrev P_X9_renumber_6 (r0 : z_M) : z_V → z_M → Prop := fun v s' => z_CI s' ∧ z_Fr R_X9_renumber_6 r0 s' ∧ (v = vN)
theorem sj_X9_renumber_6_J64 {fu : Nat} (hfu : 8589934592 ≤ fu) (r0 s : z_M) (c : z_CI s) (f : z_Fr R_X9_renumber_6 r0 s) (a2 : Int) (a3 : Int) (b2 : -2147483648 ≤ a2 ∧ a2 ≤ 2147483646) (b3 : -2147483648 ≤ a3 ∧ a3 ≤ 2147483647) (M : Int) (pm : 2147483647 - a2 ≤ M) {r : z_M → Int → Int → z_O} {k : z_M → z_O} (hr : ∀ (s' : z_M) (v1 : Int) (v2 : Int), z_CI s' → z_Fr R_X9_renumber_6 r0 s' → (-2147483648 ≤ v1 ∧ v1 ≤ 2147483647) → (-2147483648 ≤ v2 ∧ v2 ≤ 2147483647) → (2147483647 - v2 < M) → z_T (r s' v1 v2) (P_X9_renumber_6 r0)) (hk : ∀ (s' : z_M), z_CI s' → z_Fr R_X9_renumber_6 r0 s' → z_T (k s') (P_X9_renumber_6 r0)) : z_T (fX9_renumber_J64 fu s 6 a2 a3 r k) (P_X9_renumber_6 r0) := by
  refine T_of (fX9_renumber_J64.eq_1 ..) ?_
  have u1 := CI_b c (k := 6) (j := 6) bd_6_6
  have u2 := CI_b c (k := 6) (j := 7) bd_6_7
  refine T_leq (fun x3 e4 => ?_)
  have w5 := z_wb e4
  exact hr s a3 x3 c f (by omega) (by omega) (by omega)
theorem sj_X9_renumber_6_J46 {fu : Nat} (hfu : 8589934592 ≤ fu) (r0 s : z_M) (c : z_CI s) (f : z_Fr R_X9_renumber_6 r0 s) (a2 : Int) (a3 : Int) (t1 : Int) (t2 : Int) (b2 : -2147483648 ≤ a2 ∧ a2 ≤ 2147483646) (b3 : -2147483648 ≤ a3 ∧ a3 ≤ 2147483647) (d1 : -2147483648 ≤ t1 ∧ t1 ≤ 2147483647) (d2 : 0 ≤ t2 ∧ t2 ≤ 1) (M : Int) (pm : 2147483647 - a2 ≤ M) {r : z_M → Int → Int → z_O} {k : z_M → z_O} (hr : ∀ (s' : z_M) (v1 : Int) (v2 : Int), z_CI s' → z_Fr R_X9_renumber_6 r0 s' → (-2147483648 ≤ v1 ∧ v1 ≤ 2147483647) → (-2147483648 ≤ v2 ∧ v2 ≤ 2147483647) → (2147483647 - v2 < M) → z_T (r s' v1 v2) (P_X9_renumber_6 r0)) (hk : ∀ (s' : z_M), z_CI s' → z_Fr R_X9_renumber_6 r0 s' → z_T (k s') (P_X9_renumber_6 r0)) : z_T (fX9_renumber_J46 fu s 6 a2 a3 6 t1 t2 r k) (P_X9_renumber_6 r0) := by
  refine T_of (fX9_renumber_J46.eq_1 ..) ?_
  have u1 := CI_b c (k := 6) (j := 6) bd_6_6
  have u2 := CI_b c (k := 6) (j := 7) bd_6_7
  refine T_leq (fun x3 e4 => ?_)
  have w5 := z_wr e4
  refine T_if1 (by decide +kernel) ?_
  refine T_upg c bd_6_7 (by omega) (fun s6 c7 g9 g10 e11 => ?_)
  have f8 := z_Fr.upf (R := R_X9_renumber_6) f g9 g10 (Or.inr (⟨rfl, by decide⟩))
  have t12 : s6 6 6 = s 6 6 := g10 6 (by decide)
  refine T_if1 (by decide +kernel) ?_
  refine T_let 11 (by decide +kernel) ?_
  refine T_if1 (by decide +kernel) ?_
  refine T_leq (fun x13 e14 => ?_)
  have u15 := CI_b c7 (k := 6) (j := 7) bd_6_7
  refine T_leq (fun x16 e17 => ?_)
  have w18 := z_wr e17
  refine T_if1 (by decide +kernel) ?_
  refine T_put (by decide +kernel) (c := 12) (by decide +kernel) bdr_12 (by omega) c7 (fun s19 e22 c20 g23 => ?_)
  have f21 := z_Fr.up (R := R_X9_renumber_6) f8 g23 (fun _ => (Or.inl (⟨by decide, by decide⟩)))
  have t24 : s19 6 6 = s6 6 6 := g23 6 6 (by decide)
  have t25 : s19 6 7 = s6 6 7 := g23 6 7 (by decide)
  exact sj_X9_renumber_6_J64 hfu r0 s19 c20 f21 a2 a3 (by omega) (by omega) M (by omega) (fun s' v1 v2 c' f' w1 w2 pg => hr s' v1 v2 c' f' w1 w2 (by omega)) hk
theorem sl_X9_renumber_6_L9 {fu : Nat} (hfu : 8589934592 ≤ fu) (r0 : z_M) {k : z_M → z_O} (hk : ∀ (s' : z_M), z_CI s' → z_Fr R_X9_renumber_6 r0 s' → z_T (k s') (P_X9_renumber_6 r0)) : ∀ (F : Nat) (s : z_M) (a1 : Int) (a2 : Int), z_CI s → z_Fr R_X9_renumber_6 r0 s → (-2147483648 ≤ a1 ∧ a1 ≤ 2147483647) → (-2147483648 ≤ a2 ∧ a2 ≤ 2147483647) → (2147483647 - a2 < (F : Int)) → z_T (fX9_renumber_L9 fu 6 F s a1 a2 k) (P_X9_renumber_6 r0) := by
  intro F
  induction F with
  | zero =>
    intro s a1 a2 c f b1 b2 hm
    have u17 := CI_b c (k := 6) (j := 6) bd_6_6
    have u18 := CI_b c (k := 6) (j := 7) bd_6_7
    exfalso; omega
  | succ F ih =>
    intro s a1 a2 c f b1 b2 hm
    refine T_of (fX9_renumber_L9.eq_2 ..) ?_
    have u1 := CI_b c (k := 6) (j := 6) bd_6_6
    have u2 := CI_b c (k := 6) (j := 7) bd_6_7
    refine T_if1 (by decide +kernel) ?_
    refine T_leq (fun x3 e4 => ?_)
    have u5 := CI_b c (k := 6) (j := 6) bd_6_6
    refine T_ite (fun h6 => ?_) (fun h6 => ?_)
    · exact hk s c f
    · refine T_if1 (by decide +kernel) ?_
      refine T_let 11 (by decide +kernel) ?_
      refine T_if1 (by decide +kernel) ?_
      refine T_get (by decide +kernel) (c := 12) (by decide +kernel) bdr_12 (by decide) c (fun x7 e8 b9 w10 => ?_)
      have l11 : z_ln 11 = 200 := by decide +kernel
      refine T_ite (fun h12 => ?_) (fun h12 => ?_)
      · exact sj_X9_renumber_6_J64 hfu r0 s c f a2 x7 (by omega) (by omega) (2147483647 - a2) (by omega) (fun s' v1 v2 c' f' w1 w2 pg => ih s' v1 v2 c' f' w1 w2 (by omega)) hk
      · refine T_if1 (by decide +kernel) ?_
        refine T_leq (fun x13 e14 => ?_)
        have u15 := CI_b c (k := 6) (j := 7) bd_6_7
        refine T_ite (fun h16 => ?_) (fun h16 => ?_)
        · exact sj_X9_renumber_6_J46 hfu r0 s c f a2 x7 x13 1 (by omega) (by omega) (by omega) (by omega) (2147483647 - a2) (by omega) (fun s' v1 v2 c' f' w1 w2 pg => ih s' v1 v2 c' f' w1 w2 (by omega)) hk
        · exact sj_X9_renumber_6_J46 hfu r0 s c f a2 x7 x13 0 (by omega) (by omega) (by omega) (by omega) (2147483647 - a2) (by omega) (fun s' v1 v2 c' f' w1 w2 pg => ih s' v1 v2 c' f' w1 w2 (by omega)) hk
theorem sf_X9_renumber_6 {fu : Nat} (hfu : 8589934592 ≤ fu) (r0 : z_M) (c0 : z_CI r0) : z_T (fX9_renumber fu r0 6) (P_X9_renumber_6 r0) := by
  refine T_of (fX9_renumber.eq_1 ..) ?_
  refine T_if1 (by decide +kernel) ?_
  refine T_upg c0 bd_6_7 (by omega) (fun s1 c2 g4 g5 e6 => ?_)
  have f3 := z_Fr.upf (R := R_X9_renumber_6) z_Fr.rf g4 g5 (Or.inr (⟨rfl, by decide⟩))
  have t7 : s1 6 6 = r0 6 6 := g5 6 (by decide)
  refine sl_X9_renumber_6_L9 hfu r0 (fun s8 c9 f10 => ?_) fu s1 (-1) 0 c2 f3 (by omega) (by omega) (by omega)
  have u11 := CI_b c9 (k := 6) (j := 6) bd_6_6
  have u12 := CI_b c9 (k := 6) (j := 7) bd_6_7
  exact T_ret ⟨c9, f10, rfl⟩
abbrev R_X9_drop_6 (a b : Int) : Prop := (8 ≤ a ∧ a ≤ 18) ∨ (a = 6 ∧ (b = 6 ∨ b = 7))
abbrev P_X9_drop_6 (r0 : z_M) : z_V → z_M → Prop := fun v s' => z_CI s' ∧ z_Fr R_X9_drop_6 r0 s' ∧ (v = vN)
theorem rs_X9_renumber_6__X9_drop_6 (a b : Int) (h : R_X9_renumber_6 a b) : R_X9_drop_6 a b := (h.elim (fun h => (Or.inl (⟨by omega, by omega⟩))) (fun h => (Or.inr (⟨h.1, by omega⟩))))
theorem sf_X9_drop_6 {fu : Nat} (hfu : 8589934592 ≤ fu) (r0 : z_M) (c0 : z_CI r0) (a1 : Int) (a2 : Int) (b1 : -2147483648 ≤ a1 ∧ a1 ≤ 2147483647) (b2 : -2147483648 ≤ a2 ∧ a2 ≤ 2147483647) (p0 : 0 ≤ a1) (p1 : a1 ≤ a2) (p2 : a2 ≤ r0 6 6) : z_T (fX9_drop fu r0 6 a1 a2) (P_X9_drop_6 r0) := by
  refine T_of (fX9_drop.eq_1 ..) ?_
  refine T_if1 (by decide +kernel) ?_
  refine T_let 7 (by decide +kernel) ?_
  refine T_if1 (by decide +kernel) ?_
  refine T_leq (fun x1 e2 => ?_)
  have u3 := CI_b c0 (k := 6) (j := 6) bd_6_6
  refine T_if1 (by decide +kernel) ?_
  refine T_close hfu (by decide +kernel) (c := 8) (by decide +kernel) (by omega) (by omega) (by omega) bdr_8 (by decide) c0 (fun s4 e7 c5 g8 => ?_)
  have f6 := z_Fr.up (R := R_X9_drop_6) z_Fr.rf g8 (fun _ => (Or.inl (⟨by decide, by decide⟩)))
  have t9 : s4 6 6 = r0 6 6 := g8 6 6 (by decide)
  refine T_if1 (by decide +kernel) ?_
  refine T_let 9 (by decide +kernel) ?_
  refine T_if1 (by decide +kernel) ?_
  refine T_leq (fun x10 e11 => ?_)
  have u12 := CI_b c5 (k := 6) (j := 6) bd_6_6
  refine T_if1 (by decide +kernel) ?_
  refine T_close hfu (by decide +kernel) (c := 10) (by decide +kernel) (by omega) (by omega) (by omega) bdr_10 (by decide) c5 (fun s13 e16 c14 g17 => ?_)
  have f15 := z_Fr.up (R := R_X9_drop_6) f6 g17 (fun _ => (Or.inl (⟨by decide, by decide⟩)))
  have t18 : s13 6 6 = s4 6 6 := g17 6 6 (by decide)
  refine T_if1 (by decide +kernel) ?_
  refine T_let 11 (by decide +kernel) ?_
  refine T_if1 (by decide +kernel) ?_
  refine T_leq (fun x19 e20 => ?_)
  have u21 := CI_b c14 (k := 6) (j := 6) bd_6_6
  refine T_if1 (by decide +kernel) ?_
  refine T_close hfu (by decide +kernel) (c := 12) (by decide +kernel) (by omega) (by omega) (by omega) bdr_12 (by decide) c14 (fun s22 e25 c23 g26 => ?_)
  have f24 := z_Fr.up (R := R_X9_drop_6) f15 g26 (fun _ => (Or.inl (⟨by decide, by decide⟩)))
  have t27 : s22 6 6 = s13 6 6 := g26 6 6 (by decide)
  refine T_if1 (by decide +kernel) ?_
  refine T_let 13 (by decide +kernel) ?_
  refine T_if1 (by decide +kernel) ?_
  refine T_leq (fun x28 e29 => ?_)
  have u30 := CI_b c23 (k := 6) (j := 6) bd_6_6
  refine T_if1 (by decide +kernel) ?_
  refine T_close hfu (by decide +kernel) (c := 14) (by decide +kernel) (by omega) (by omega) (by omega) bdr_14 (by decide) c23 (fun s31 e34 c32 g35 => ?_)
  have f33 := z_Fr.up (R := R_X9_drop_6) f24 g35 (fun _ => (Or.inl (⟨by decide, by decide⟩)))
  have t36 : s31 6 6 = s22 6 6 := g35 6 6 (by decide)
  refine T_if1 (by decide +kernel) ?_
  refine T_let 15 (by decide +kernel) ?_
  refine T_if1 (by decide +kernel) ?_
  refine T_leq (fun x37 e38 => ?_)
  have u39 := CI_b c32 (k := 6) (j := 6) bd_6_6
  refine T_if1 (by decide +kernel) ?_
  refine T_lclose hfu (by decide +kernel) (c := 16) (by decide +kernel) (by omega) (by omega) (by omega) bdr_16 (by decide) c32 (fun s40 e43 c41 g44 => ?_)
  have f42 := z_Fr.up (R := R_X9_drop_6) f33 g44 (fun _ => (Or.inl (⟨by decide, by decide⟩)))
  have t45 : s40 6 6 = s31 6 6 := g44 6 6 (by decide)
  refine T_if1 (by decide +kernel) ?_
  refine T_let 17 (by decide +kernel) ?_
  refine T_if1 (by decide +kernel) ?_
  refine T_leq (fun x46 e47 => ?_)
  have u48 := CI_b c41 (k := 6) (j := 6) bd_6_6
  refine T_if1 (by decide +kernel) ?_
  refine T_lclose hfu (by decide +kernel) (c := 18) (by decide +kernel) (by omega) (by omega) (by omega) bdr_18 (by decide) c41 (fun s49 e52 c50 g53 => ?_)
  have f51 := z_Fr.up (R := R_X9_drop_6) f42 g53 (fun _ => (Or.inl (⟨by decide, by decide⟩)))
  have t54 : s49 6 6 = s40 6 6 := g53 6 6 (by decide)
  refine T_if1 (by decide +kernel) ?_
  refine T_leq (fun x55 e56 => ?_)
  have u57 := CI_b c50 (k := 6) (j := 6) bd_6_6
  refine T_leq (fun x58 e59 => ?_)
  have w60 := z_wb e59
  refine T_leq (fun x61 e62 => ?_)
  have w63 := z_wb e62
  refine T_if1 (by decide +kernel) ?_
  refine T_upg c50 bd_6_6 (by omega) (fun s64 c65 g67 g68 e69 => ?_)
  have f66 := z_Fr.upf (R := R_X9_drop_6) f51 g67 g68 (Or.inr (⟨rfl, by decide⟩))
  refine T_if1 (by decide +kernel) ?_
  refine T_useN (sf_X9_renumber_6 hfu s64 c65) (fun v75 s70 hq => ?_)
  obtain ⟨c71, f72, rfl⟩ := hq
  refine T_vN ?_
  have f73 := z_Fr.tr (R := R_X9_drop_6) f66 f72 rs_X9_renumber_6__X9_drop_6
  have t78 : s70 6 6 = s64 6 6 := f72 6 6 (by decide)
  exact T_ret ⟨c71, f73, rfl⟩
