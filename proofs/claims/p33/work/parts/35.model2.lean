/-! SAFETY, further (by program) -/
abbrev R_X12_signLong_309 (a b : Int) : Prop := False
abbrev P_X12_signLong_309 (r0 : z_M) : z_V → z_M → Prop := fun v s' => z_CI s' ∧ z_Fr R_X12_signLong_309 r0 s' ∧ (∃ x, v = vI x ∧ -2147483648 ≤ x ∧ x ≤ 2147483647)
theorem sj_X12_signLong_309_J107 {fu : Nat} (hfu : 8589934592 ≤ fu) (r0 s : z_M) (c : z_CI s) (f : z_Fr R_X12_signLong_309 r0 s) (t0 : Int) (d0 : 4 ≤ t0 ∧ t0 ≤ 12) : z_T (fX12_signLong_J107 fu s t0) (P_X12_signLong_309 r0) := by
  have qf := z_Fr.eq (fun a b h => h) f
  subst qf
  refine T_of (fX12_signLong_J107.eq_1 ..) ?_
  exact T_ret ⟨c, f, ⟨t0, rfl, by omega, by omega⟩⟩
theorem sj_X12_signLong_309_J83 {fu : Nat} (hfu : 8589934592 ≤ fu) (r0 s : z_M) (c : z_CI s) (f : z_Fr R_X12_signLong_309 r0 s) : z_T (fX12_signLong_J83 fu s) (P_X12_signLong_309 r0) := by
  have qf := z_Fr.eq (fun a b h => h) f
  subst qf
  refine T_of (fX12_signLong_J83.eq_1 ..) ?_
  exact sj_X12_signLong_309_J107 hfu r0 r0 c f 12 (by omega)
theorem sj_X12_signLong_309_J58 {fu : Nat} (hfu : 8589934592 ≤ fu) (r0 s : z_M) (c : z_CI s) (f : z_Fr R_X12_signLong_309 r0 s) (t0 : Int) (d0 : 6 ≤ t0 ∧ t0 ≤ 12) : z_T (fX12_signLong_J58 fu s t0) (P_X12_signLong_309 r0) := by
  have qf := z_Fr.eq (fun a b h => h) f
  subst qf
  refine T_of (fX12_signLong_J58.eq_1 ..) ?_
  exact T_ret ⟨c, f, ⟨t0, rfl, by omega, by omega⟩⟩
theorem sf_X12_signLong_309 {fu : Nat} (hfu : 8589934592 ≤ fu) (r0 : z_M) (c0 : z_CI r0) (a1 : Int) (b1 : 0 ≤ a1 ∧ a1 ≤ 199) : z_T (fX12_signLong fu r0 309 a1) (P_X12_signLong_309 r0) := by
  refine T_of (fX12_signLong.eq_1 ..) ?_
  refine T_if1 (by decide +kernel) ?_
  refine T_let 3223 (by decide +kernel) ?_
  refine T_if1 (z_ixl (n := 200) (by decide +kernel) (by omega) (by omega)) ?_
  refine T_leq (fun x1 e2 => ?_)
  have u3 := CI_b c0 (k := 3223) (j := a1) (bdr_3223 a1)
  refine T_if1 (by decide +kernel) ?_
  refine T_let 345 (by decide +kernel) ?_
  refine T_if1 (z_ixl (n := 14) (by decide +kernel) (by omega) (by omega)) ?_
  refine T_let 346 (by decide +kernel) ?_
  refine T_if1 (z_ixl (n := 200) (by decide +kernel) (by omega) (by omega)) ?_
  refine T_leq (fun x4 e5 => ?_)
  have u6 := CI_b c0 (k := 346) (j := a1) (bdr_346 a1)
  refine T_ite (fun h7 => ?_) (fun h7 => ?_)
  · refine T_if1 (by decide +kernel) ?_
    refine T_let 345 (by decide +kernel) ?_
    refine T_if1 (z_ixl (n := 14) (by decide +kernel) (by omega) (by omega)) ?_
    refine T_let 346 (by decide +kernel) ?_
    refine T_if1 (z_ixl (n := 200) (by decide +kernel) (by omega) (by omega)) ?_
    refine T_leq (fun x8 e9 => ?_)
    have q10 : x4 = x8 := e5.symm.trans e9
    subst q10
    refine T_ite (fun h11 => ?_) (fun h11 => ?_)
    · refine T_if1 (by decide +kernel) ?_
      refine T_let 345 (by decide +kernel) ?_
      refine T_if1 (z_ixl (n := 14) (by decide +kernel) (by omega) (by omega)) ?_
      refine T_let 346 (by decide +kernel) ?_
      refine T_if1 (z_ixl (n := 200) (by decide +kernel) (by omega) (by omega)) ?_
      refine T_leq (fun x12 e13 => ?_)
      have q14 : x4 = x12 := e5.symm.trans e13
      subst q14
      refine T_ite (fun h15 => ?_) (fun h15 => ?_)
      · exact sj_X12_signLong_309_J83 hfu r0 r0 c0 z_Fr.rf
      · refine T_if1 (by decide +kernel) ?_
        refine T_let 345 (by decide +kernel) ?_
        refine T_if1 (z_ixl (n := 14) (by decide +kernel) (by omega) (by omega)) ?_
        refine T_let 346 (by decide +kernel) ?_
        refine T_if1 (z_ixl (n := 200) (by decide +kernel) (by omega) (by omega)) ?_
        refine T_leq (fun x16 e17 => ?_)
        have q18 : x4 = x16 := e5.symm.trans e17
        subst q18
        refine T_ite (fun h19 => ?_) (fun h19 => ?_)
        · refine T_if1 (by decide +kernel) ?_
          refine T_let 345 (by decide +kernel) ?_
          refine T_if1 (z_ixl (n := 14) (by decide +kernel) (by omega) (by omega)) ?_
          refine T_let 346 (by decide +kernel) ?_
          refine T_if1 (z_ixl (n := 200) (by decide +kernel) (by omega) (by omega)) ?_
          refine T_leq (fun x20 e21 => ?_)
          have q22 : x4 = x20 := e5.symm.trans e21
          subst q22
          refine T_ite (fun h23 => ?_) (fun h23 => ?_)
          · exact sj_X12_signLong_309_J107 hfu r0 r0 c0 z_Fr.rf 6 (by omega)
          · exact sj_X12_signLong_309_J107 hfu r0 r0 c0 z_Fr.rf 4 (by omega)
        · exact sj_X12_signLong_309_J83 hfu r0 r0 c0 z_Fr.rf
    · refine T_if1 (by decide +kernel) ?_
      refine T_useI (sf_X12_isAcross_309 hfu r0 c0 x1 (by omega)) (fun v29 s24 hq => ?_)
      obtain ⟨c25, f26, ⟨x28, rfl, b30, b31⟩⟩ := hq
      refine T_vI ?_
      have q32 := z_Fr.eq (fun a b h => h) f26
      subst q32
      refine T_ite (fun h33 => ?_) (fun h33 => ?_)
      · exact sj_X12_signLong_309_J58 hfu r0 r0 c0 z_Fr.rf 6 (by omega)
      · exact sj_X12_signLong_309_J58 hfu r0 r0 c0 z_Fr.rf 12 (by omega)
  · refine T_if1 (by decide +kernel) ?_
    refine T_let 330 (by decide +kernel) ?_
    refine T_if1 (z_ixl (n := 14) (by decide +kernel) (by omega) (by omega)) ?_
    refine T_let 331 (by decide +kernel) ?_
    refine T_if1 (z_ixl (n := 200) (by decide +kernel) (by omega) (by omega)) ?_
    refine T_leq (fun x34 e35 => ?_)
    have u36 := CI_b c0 (k := 331) (j := a1) (bdr_331 a1)
    refine T_useI (sf_X12_wide hfu r0 c0 x34 (by omega)) (fun v42 s37 hq => ?_)
    obtain ⟨c38, f39, ⟨x41, rfl, b43, b44⟩⟩ := hq
    refine T_vI ?_
    have q45 := z_Fr.eq (fun a b h => h) f39
    subst q45
    exact T_ret ⟨c0, z_Fr.rf, ⟨x41, rfl, by omega, by omega⟩⟩
abbrev R_X12_isTurned_309 (a b : Int) : Prop := False
abbrev P_X12_isTurned_309 (r0 : z_M) : z_V → z_M → Prop := fun v s' => z_CI s' ∧ z_Fr R_X12_isTurned_309 r0 s' ∧ (∃ x, v = vI x ∧ 0 ≤ x ∧ x ≤ 1)
theorem sj_X12_isTurned_309_J57 {fu : Nat} (hfu : 8589934592 ≤ fu) (r0 s : z_M) (c : z_CI s) (f : z_Fr R_X12_isTurned_309 r0 s) (t0 : Int) (d0 : 0 ≤ t0 ∧ t0 ≤ 1) : z_T (fX12_isTurned_J57 fu s t0) (P_X12_isTurned_309 r0) := by
  have qf := z_Fr.eq (fun a b h => h) f
  subst qf
  refine T_of (fX12_isTurned_J57.eq_1 ..) ?_
  refine T_if1 (by unfold z_bl; omega) ?_
  exact T_ret ⟨c, f, ⟨t0, rfl, by omega, by omega⟩⟩
theorem sj_X12_isTurned_309_J56 {fu : Nat} (hfu : 8589934592 ≤ fu) (r0 s : z_M) (c : z_CI s) (f : z_Fr R_X12_isTurned_309 r0 s) : z_T (fX12_isTurned_J56 fu s) (P_X12_isTurned_309 r0) := by
  have qf := z_Fr.eq (fun a b h => h) f
  subst qf
  refine T_of (fX12_isTurned_J56.eq_1 ..) ?_
  exact sj_X12_isTurned_309_J57 hfu r0 r0 c f 0 (by omega)
theorem sj_X12_isTurned_309_J52 {fu : Nat} (hfu : 8589934592 ≤ fu) (r0 s : z_M) (c : z_CI s) (f : z_Fr R_X12_isTurned_309 r0 s) : z_T (fX12_isTurned_J52 fu s) (P_X12_isTurned_309 r0) := by
  have qf := z_Fr.eq (fun a b h => h) f
  subst qf
  refine T_of (fX12_isTurned_J52.eq_1 ..) ?_
  exact sj_X12_isTurned_309_J57 hfu r0 r0 c f 1 (by omega)
theorem sf_X12_isTurned_309 {fu : Nat} (hfu : 8589934592 ≤ fu) (r0 : z_M) (c0 : z_CI r0) (a1 : Int) (b1 : 0 ≤ a1 ∧ a1 ≤ 199) : z_T (fX12_isTurned fu r0 309 a1) (P_X12_isTurned_309 r0) := by
  refine T_of (fX12_isTurned.eq_1 ..) ?_
  refine T_if1 (by decide +kernel) ?_
  refine T_let 345 (by decide +kernel) ?_
  refine T_if1 (z_ixl (n := 14) (by decide +kernel) (by omega) (by omega)) ?_
  refine T_let 346 (by decide +kernel) ?_
  refine T_if1 (z_ixl (n := 200) (by decide +kernel) (by omega) (by omega)) ?_
  refine T_leq (fun x1 e2 => ?_)
  have u3 := CI_b c0 (k := 346) (j := a1) (bdr_346 a1)
  refine T_if1 (by decide +kernel) ?_
  refine T_let 312 (by decide +kernel) ?_
  refine T_if1 (z_ixl (n := 9) (by decide +kernel) (by omega) (by omega)) ?_
  refine T_leq (fun x4 e5 => ?_)
  have u6 := CI_b c0 (k := 312) (j := 5) (bdr_312 5)
  refine T_ite (fun h7 => ?_) (fun h7 => ?_)
  · exact sj_X12_isTurned_309_J56 hfu r0 r0 c0 z_Fr.rf
  · refine T_ite (fun h8 => ?_) (fun h8 => ?_)
    · exact sj_X12_isTurned_309_J52 hfu r0 r0 c0 z_Fr.rf
    · refine T_ite (fun h9 => ?_) (fun h9 => ?_)
      · exact sj_X12_isTurned_309_J52 hfu r0 r0 c0 z_Fr.rf
      · refine T_ite (fun h10 => ?_) (fun h10 => ?_)
        · exact sj_X12_isTurned_309_J52 hfu r0 r0 c0 z_Fr.rf
        · refine T_ite (fun h11 => ?_) (fun h11 => ?_)
          · exact sj_X12_isTurned_309_J56 hfu r0 r0 c0 z_Fr.rf
          · refine T_if1 (by decide +kernel) ?_
            refine T_let 3223 (by decide +kernel) ?_
            refine T_if1 (z_ixl (n := 200) (by decide +kernel) (by omega) (by omega)) ?_
            refine T_leq (fun x12 e13 => ?_)
            have u14 := CI_b c0 (k := 3223) (j := a1) (bdr_3223 a1)
            refine T_if1 (by decide +kernel) ?_
            refine T_useI (sf_X12_isAcross_309 hfu r0 c0 x12 (by omega)) (fun v20 s15 hq => ?_)
            obtain ⟨c16, f17, ⟨x19, rfl, b21, b22⟩⟩ := hq
            refine T_vI ?_
            have q23 := z_Fr.eq (fun a b h => h) f17
            subst q23
            refine T_ite (fun h24 => ?_) (fun h24 => ?_)
            · exact sj_X12_isTurned_309_J56 hfu r0 r0 c0 z_Fr.rf
            · exact sj_X12_isTurned_309_J52 hfu r0 r0 c0 z_Fr.rf
abbrev R_X12_isPoint_309 (a b : Int) : Prop := False
abbrev P_X12_isPoint_309 (r0 : z_M) : z_V → z_M → Prop := fun v s' => z_CI s' ∧ z_Fr R_X12_isPoint_309 r0 s' ∧ (∃ x, v = vI x ∧ 0 ≤ x ∧ x ≤ 1)
theorem sj_X12_isPoint_309_J25 {fu : Nat} (hfu : 8589934592 ≤ fu) (r0 s : z_M) (c : z_CI s) (f : z_Fr R_X12_isPoint_309 r0 s) (t0 : Int) (d0 : 0 ≤ t0 ∧ t0 ≤ 1) : z_T (fX12_isPoint_J25 fu s t0) (P_X12_isPoint_309 r0) := by
  have qf := z_Fr.eq (fun a b h => h) f
  subst qf
  refine T_of (fX12_isPoint_J25.eq_1 ..) ?_
  refine T_if1 (by unfold z_bl; omega) ?_
  exact T_ret ⟨c, f, ⟨t0, rfl, by omega, by omega⟩⟩
theorem sj_X12_isPoint_309_J20 {fu : Nat} (hfu : 8589934592 ≤ fu) (r0 s : z_M) (c : z_CI s) (f : z_Fr R_X12_isPoint_309 r0 s) : z_T (fX12_isPoint_J20 fu s) (P_X12_isPoint_309 r0) := by
  have qf := z_Fr.eq (fun a b h => h) f
  subst qf
  refine T_of (fX12_isPoint_J20.eq_1 ..) ?_
  exact sj_X12_isPoint_309_J25 hfu r0 r0 c f 1 (by omega)
theorem sf_X12_isPoint_309 {fu : Nat} (hfu : 8589934592 ≤ fu) (r0 : z_M) (c0 : z_CI r0) (a1 : Int) (b1 : 0 ≤ a1 ∧ a1 ≤ 199) : z_T (fX12_isPoint fu r0 309 a1) (P_X12_isPoint_309 r0) := by
  refine T_of (fX12_isPoint.eq_1 ..) ?_
  refine T_if1 (by decide +kernel) ?_
  refine T_let 3220 (by decide +kernel) ?_
  refine T_if1 (z_ixl (n := 200) (by decide +kernel) (by omega) (by omega)) ?_
  refine T_leq (fun x1 e2 => ?_)
  have u3 := CI_b c0 (k := 3220) (j := a1) (bdr_3220 a1)
  refine T_ite (fun h4 => ?_) (fun h4 => ?_)
  · exact sj_X12_isPoint_309_J20 hfu r0 r0 c0 z_Fr.rf
  · refine T_if1 (by decide +kernel) ?_
    refine T_let 3220 (by decide +kernel) ?_
    refine T_if1 (z_ixl (n := 200) (by decide +kernel) (by omega) (by omega)) ?_
    refine T_leq (fun x5 e6 => ?_)
    have q7 : x1 = x5 := e2.symm.trans e6
    subst q7
    refine T_ite (fun h8 => ?_) (fun h8 => ?_)
    · exact sj_X12_isPoint_309_J25 hfu r0 r0 c0 z_Fr.rf 0 (by omega)
    · exact sj_X12_isPoint_309_J20 hfu r0 r0 c0 z_Fr.rf
abbrev R_X12_width_309 (a b : Int) : Prop := False
abbrev P_X12_width_309 (r0 : z_M) : z_V → z_M → Prop := fun v s' => z_CI s' ∧ z_Fr R_X12_width_309 r0 s' ∧ (∃ x, v = vI x ∧ -2147483648 ≤ x ∧ x ≤ 2147483647)
theorem sl_X12_width_309_L20 {fu : Nat} (hfu : 8589934592 ≤ fu) (r0 : z_M) (a1 : Int) (b1 : 0 ≤ a1 ∧ a1 ≤ 199) {k : z_M → Int → z_O} (hk : ∀ (s' : z_M) (v2 : Int), z_CI s' → z_Fr R_X12_width_309 r0 s' → (-2147483648 ≤ v2 ∧ v2 ≤ 2147483647) → z_T (k s' v2) (P_X12_width_309 r0)) : ∀ (F : Nat) (s : z_M) (a2 : Int) (a3 : Int), z_CI s → z_Fr R_X12_width_309 r0 s → (-2147483648 ≤ a2 ∧ a2 ≤ 2147483647) → (0 ≤ a3 ∧ a3 ≤ 200) → (y_B s) → (a1 < s 309 20) → (2147483647 - a3 < (F : Int)) → z_T (fX12_width_L20 fu 309 a1 F s a2 a3 k) (P_X12_width_309 r0) := by
  intro F
  induction F with
  | zero =>
    intro s a2 a3 c f b2 b3 i0 i1 hm
    have u31 := CI_b c (k := 309) (j := 20) bd_309_20
    have u32 := CI_b c (k := 316) (j := 0) bd_316_0
    exfalso; omega
  | succ F ih =>
    intro s a2 a3 c f b2 b3 i0 i1 hm
    have qf := z_Fr.eq (fun a b h => h) f
    subst qf
    refine T_of (fX12_width_L20.eq_2 ..) ?_
    have u1 := CI_b c (k := 309) (j := 20) bd_309_20
    have u2 := CI_b c (k := 316) (j := 0) bd_316_0
    have t3 : r0 309 20 = r0 309 20 := f 309 20 (by exact not_false)
    have t4 : r0 316 0 = r0 316 0 := f 316 0 (by exact not_false)
    have n5 := y_B.at i0 (u := a1) (by omega) (by omega)
    refine T_if1 (by decide +kernel) ?_
    refine T_let 3221 (by decide +kernel) ?_
    refine T_if1 (z_ixl (n := 200) (by decide +kernel) (by omega) (by omega)) ?_
    refine T_leq (fun x6 e7 => ?_)
    have u8 := CI_b c (k := 3221) (j := a1) (bdr_3221 a1)
    refine T_if1 (by decide +kernel) ?_
    refine T_let 3222 (by decide +kernel) ?_
    refine T_if1 (z_ixl (n := 200) (by decide +kernel) (by omega) (by omega)) ?_
    refine T_leq (fun x9 e10 => ?_)
    have u11 := CI_b c (k := 3222) (j := a1) (bdr_3222 a1)
    refine T_leq (fun x12 e13 => ?_)
    first | (have w14 := z_wx e13 (by omega)) | (have w14 := z_wr e13)
    refine T_ite (fun h15 => ?_) (fun h15 => ?_)
    · exact hk r0 a2 c f (by omega)
    · refine T_if1 (by decide +kernel) ?_
      refine T_useI (sf_X12_signLong_309 hfu r0 c a3 (by omega)) (fun v21 s16 hq => ?_)
      obtain ⟨c17, f18, ⟨x20, rfl, b22, b23⟩⟩ := hq
      refine T_vI ?_
      have q24 := z_Fr.eq (fun a b h => h) f18
      subst q24
      refine T_leq (fun x25 e26 => ?_)
      first | (have w27 := z_wx e26 (by omega)) | (have w27 := z_wr e26)
      refine T_leq (fun x28 e29 => ?_)
      first | (have w30 := z_wx e29 (by omega)) | (have w30 := z_wr e29)
      exact ih r0 x25 x28 c f (by omega) (by omega) i0 (by omega) (by omega)
theorem sf_X12_width_309 {fu : Nat} (hfu : 8589934592 ≤ fu) (r0 : z_M) (c0 : z_CI r0) (a1 : Int) (b1 : 0 ≤ a1 ∧ a1 ≤ 199) (p0 : y_B r0) (p1 : a1 < r0 309 20) : z_T (fX12_width fu r0 309 a1) (P_X12_width_309 r0) := by
  refine T_of (fX12_width.eq_1 ..) ?_
  have u1 := CI_b c0 (k := 309) (j := 20) bd_309_20
  have u2 := CI_b c0 (k := 316) (j := 0) bd_316_0
  refine T_if1 (by decide +kernel) ?_
  refine T_useI (sf_X12_isAcross_309 hfu r0 c0 a1 (by omega)) (fun v8 s3 hq => ?_)
  obtain ⟨c4, f5, ⟨x7, rfl, b9, b10⟩⟩ := hq
  refine T_vI ?_
  have q11 := z_Fr.eq (fun a b h => h) f5
  subst q11
  refine T_ite (fun h12 => ?_) (fun h12 => ?_)
  · refine T_if1 (by decide +kernel) ?_
    refine T_let 3221 (by decide +kernel) ?_
    refine T_if1 (z_ixl (n := 200) (by decide +kernel) (by omega) (by omega)) ?_
    refine T_leq (fun x13 e14 => ?_)
    have u15 := CI_b c0 (k := 3221) (j := a1) (bdr_3221 a1)
    refine sl_X12_width_309_L20 hfu r0 a1 (by omega) (fun s16 y19 c17 f18 b20 => ?_) fu r0 0 x13 c0 z_Fr.rf (by omega) (by omega) p0 (by omega) (by omega)
    have q21 := z_Fr.eq (fun a b h => h) f18
    subst q21
    have u22 := CI_b c17 (k := 309) (j := 20) bd_309_20
    have u23 := CI_b c17 (k := 316) (j := 0) bd_316_0
    have t24 : r0 309 20 = r0 309 20 := f18 309 20 (by exact not_false)
    have t25 : r0 316 0 = r0 316 0 := f18 316 0 (by exact not_false)
    exact T_ret ⟨c17, f18, ⟨y19, rfl, by omega, by omega⟩⟩
  · exact T_ret ⟨c0, z_Fr.rf, ⟨12, rfl, by omega, by omega⟩⟩
abbrev R_X12_laysSpaces_309 (a b : Int) : Prop := (3224 ≤ a ∧ a ≤ 3226) ∨ (a = 309 ∧ (b = 35))
abbrev P_X12_laysSpaces_309 (r0 : z_M) : z_V → z_M → Prop := fun v s' => z_CI s' ∧ z_Fr R_X12_laysSpaces_309 r0 s' ∧ (v = vN)
theorem sl_X12_laysSpaces_309_L5 {fu : Nat} (hfu : 8589934592 ≤ fu) (r0 : z_M) (a1 : Int) (a2 : Int) (a4 : Int) (b1 : 0 ≤ a1 ∧ a1 ≤ 199) (b2 : 0 ≤ a2 ∧ a2 ≤ 199) (b4 : -2147483648 ≤ a4 ∧ a4 ≤ 2147483647) {k : z_M → Int → z_O} (hk : ∀ (s' : z_M) (v3 : Int), z_CI s' → z_Fr R_X12_laysSpaces_309 r0 s' → (0 ≤ v3 ∧ v3 ≤ 200) → (a1 ≤ v3) → (v3 ≤ a2 + 1) → (a2 < v3 ∨ s' 3220 v3 ≠ 6) → (y_B s') → (a2 < s' 309 20) → z_T (k s' v3) (P_X12_laysSpaces_309 r0)) : ∀ (F : Nat) (s : z_M) (a3 : Int), z_CI s → z_Fr R_X12_laysSpaces_309 r0 s → (0 ≤ a3 ∧ a3 ≤ 200) → (a1 ≤ a3) → (a3 ≤ a2 + 1) → (y_B s) → (a2 < s 309 20) → (2147483647 - a3 < (F : Int)) → z_T (fX12_laysSpaces_L5 fu 309 a1 a2 a4 F s a3 k) (P_X12_laysSpaces_309 r0) := by
  intro F
  induction F with
  | zero =>
    intro s a3 c f b3 i0 i1 i2 i3 hm
    have u13 := CI_b c (k := 309) (j := 20) bd_309_20
    have u14 := CI_b c (k := 316) (j := 0) bd_316_0
    exfalso; omega
  | succ F ih =>
    intro s a3 c f b3 i0 i1 i2 i3 hm
    refine T_of (fX12_laysSpaces_L5.eq_2 ..) ?_
    have u1 := CI_b c (k := 309) (j := 20) bd_309_20
    have u2 := CI_b c (k := 316) (j := 0) bd_316_0
    have t3 : s 309 20 = r0 309 20 := f 309 20 (by decide)
    have t4 : s 316 0 = r0 316 0 := f 316 0 (by decide)
    refine T_ite (fun h5 => ?_) (fun h5 => ?_)
    · exact hk s a3 c f (by omega) (by omega) (by omega) (by omega) i2 (by omega)
    · refine T_if1 (by decide +kernel) ?_
      refine T_let 3220 (by decide +kernel) ?_
      refine T_if1 (z_ixl (n := 200) (by decide +kernel) (by omega) (by omega)) ?_
      refine T_leq (fun x6 e7 => ?_)
      have u8 := CI_b c (k := 3220) (j := a3) (bdr_3220 a3)
      refine T_ite (fun h9 => ?_) (fun h9 => ?_)
      · exact hk s a3 c f (by omega) (by omega) (by omega) (by omega) i2 (by omega)
      · refine T_leq (fun x10 e11 => ?_)
        first | (have w12 := z_wx e11 (by omega)) | (have w12 := z_wr e11)
        exact ih s x10 c f (by omega) (by omega) (by omega) i2 (by omega) (by omega)
theorem sl_X12_laysSpaces_309_L27 {fu : Nat} (hfu : 8589934592 ≤ fu) (r0 : z_M) (a1 : Int) (a2 : Int) (a3 : Int) (b1 : 0 ≤ a1 ∧ a1 ≤ 199) (b2 : 0 ≤ a2 ∧ a2 ≤ 199) (b3 : 0 ≤ a3 ∧ a3 ≤ 200) {k : z_M → Int → z_O} (hk : ∀ (s' : z_M) (v4 : Int), z_CI s' → z_Fr R_X12_laysSpaces_309 r0 s' → ((-1) ≤ v4 ∧ v4 ≤ 199) → (a3 ≤ v4 ∨ a2 < a3) → (a1 ≤ a2 + 1) → (v4 ≤ a2) → (y_B s') → (a2 < s' 309 20) → z_T (k s' v4) (P_X12_laysSpaces_309 r0)) : ∀ (F : Nat) (s : z_M) (a4 : Int), z_CI s → z_Fr R_X12_laysSpaces_309 r0 s → ((-1) ≤ a4 ∧ a4 ≤ 199) → (a3 ≤ a4 ∨ a2 < a3) → (a2 < a3 ∨ s 3220 a3 ≠ 6) → (a1 ≤ a3) → (a1 ≤ a2 + 1) → (a4 ≤ a2) → (y_B s) → (a2 < s 309 20) → (a4 + 2147483648 < (F : Int)) → z_T (fX12_laysSpaces_L27 fu 309 a1 a2 a3 F s a4 k) (P_X12_laysSpaces_309 r0) := by
  intro F
  induction F with
  | zero =>
    intro s a4 c f b4 i0 i1 i2 i3 i4 i5 i6 hm
    have u14 := CI_b c (k := 309) (j := 20) bd_309_20
    have u15 := CI_b c (k := 316) (j := 0) bd_316_0
    exfalso; omega
  | succ F ih =>
    intro s a4 c f b4 i0 i1 i2 i3 i4 i5 i6 hm
    refine T_of (fX12_laysSpaces_L27.eq_2 ..) ?_
    have u1 := CI_b c (k := 309) (j := 20) bd_309_20
    have u2 := CI_b c (k := 316) (j := 0) bd_316_0
    have t3 : s 309 20 = r0 309 20 := f 309 20 (by decide)
    have t4 : s 316 0 = r0 316 0 := f 316 0 (by decide)
    refine T_ite (fun h5 => ?_) (fun h5 => ?_)
    · exact hk s a4 c f (by omega) (by omega) (by omega) (by omega) i5 (by omega)
    · refine T_if1 (by decide +kernel) ?_
      refine T_let 3220 (by decide +kernel) ?_
      refine T_if1 (z_ixl (n := 200) (by decide +kernel) (by omega) (by omega)) ?_
      refine T_leq (fun x6 e7 => ?_)
      have u8 := CI_b c (k := 3220) (j := a4) (bdr_3220 a4)
      refine T_ite (fun h9 => ?_) (fun h9 => ?_)
      · exact hk s a4 c f (by omega) (by omega) (by omega) (by omega) i5 (by omega)
      · have n10 := z_cg s 3220 a4 a3
        refine T_leq (fun x11 e12 => ?_)
        first | (have w13 := z_wx e12 (by omega)) | (have w13 := z_wr e12)
        exact ih s x11 c f (by omega) (by omega) (by omega) (by omega) (by omega) (by omega) i5 (by omega) (by omega)
theorem sj_X12_laysSpaces_309_J195 {fu : Nat} (hfu : 8589934592 ≤ fu) (r0 s : z_M) (c : z_CI s) (f : z_Fr R_X12_laysSpaces_309 r0 s) (a2 : Int) (a3 : Int) (a4 : Int) (a5 : Int) (t1 : Int) (t2 : Int) (b2 : 0 ≤ a2 ∧ a2 ≤ 199) (b3 : 0 ≤ a3 ∧ a3 ≤ 200) (b4 : (-1) ≤ a4 ∧ a4 ≤ 199) (b5 : 0 ≤ a5 ∧ a5 ≤ 199) (d1 : 0 ≤ t1 ∧ t1 ≤ 199) (d2 : 0 ≤ t2 ∧ t2 ≤ 6) (p0 : a4 ≤ a2) (p1 : a5 ≤ a2) (p2 : y_B s) (p3 : a2 < s 309 20) (M : Int) (pm : 2147483647 - a5 ≤ M) {r : z_M → Int → z_O} {k : z_M → z_O} (hr : ∀ (s' : z_M) (v5 : Int), z_CI s' → z_Fr R_X12_laysSpaces_309 r0 s' → (0 ≤ v5 ∧ v5 ≤ 200) → (v5 ≤ a2 + 1) → (y_B s') → (a2 < s' 309 20) → (2147483647 - v5 < M) → z_T (r s' v5) (P_X12_laysSpaces_309 r0)) (hk : ∀ (s' : z_M), z_CI s' → z_Fr R_X12_laysSpaces_309 r0 s' → z_T (k s') (P_X12_laysSpaces_309 r0)) : z_T (fX12_laysSpaces_J195 fu s 309 a2 a3 a4 a5 3226 t1 t2 r k) (P_X12_laysSpaces_309 r0) := by
  refine T_of (fX12_laysSpaces_J195.eq_1 ..) ?_
  have u1 := CI_b c (k := 309) (j := 20) bd_309_20
  have u2 := CI_b c (k := 316) (j := 0) bd_316_0
  have t3 : s 309 20 = r0 309 20 := f 309 20 (by decide)
  have t4 : s 316 0 = r0 316 0 := f 316 0 (by decide)
  refine T_if1 (z_ixl (n := 200) (by decide +kernel) (by omega) (by omega)) ?_
  refine T_upg c (bdr_3226 t1) (by omega) (fun s5 c6 g8 g9 e10 => ?_)
  have f7 := z_Fr.up (R := R_X12_laysSpaces_309) f g8 (fun _ => (Or.inl (⟨by decide, by decide⟩)))
  have t11 : s5 309 20 = s 309 20 := g8 309 20 (by decide)
  have t12 : s5 316 0 = s 316 0 := g8 316 0 (by decide)
  have r13 := y_B.fr p2 (g8 309 20 (by decide)) (g8 316 0 (by decide)) (fun b => g8 3220 b (by decide)) (fun b => g8 3221 b (by decide)) (fun b => g8 3222 b (by decide)) (fun b => g8 361 b (by decide))
  refine T_leq (fun x14 e15 => ?_)
  first | (have w16 := z_wx e15 (by omega)) | (have w16 := z_wr e15)
  exact hr s5 x14 c6 f7 (by omega) (by omega) r13 (by omega) (by omega)
theorem sj_X12_laysSpaces_309_J194 {fu : Nat} (hfu : 8589934592 ≤ fu) (r0 s : z_M) (c : z_CI s) (f : z_Fr R_X12_laysSpaces_309 r0 s) (a2 : Int) (a3 : Int) (a4 : Int) (a5 : Int) (t1 : Int) (b2 : 0 ≤ a2 ∧ a2 ≤ 199) (b3 : 0 ≤ a3 ∧ a3 ≤ 200) (b4 : (-1) ≤ a4 ∧ a4 ≤ 199) (b5 : 0 ≤ a5 ∧ a5 ≤ 199) (d1 : 0 ≤ t1 ∧ t1 ≤ 199) (p0 : a4 ≤ a2) (p1 : a5 ≤ a2) (p2 : y_B s) (p3 : a2 < s 309 20) (M : Int) (pm : 2147483647 - a5 ≤ M) {r : z_M → Int → z_O} {k : z_M → z_O} (hr : ∀ (s' : z_M) (v5 : Int), z_CI s' → z_Fr R_X12_laysSpaces_309 r0 s' → (0 ≤ v5 ∧ v5 ≤ 200) → (v5 ≤ a2 + 1) → (y_B s') → (a2 < s' 309 20) → (2147483647 - v5 < M) → z_T (r s' v5) (P_X12_laysSpaces_309 r0)) (hk : ∀ (s' : z_M), z_CI s' → z_Fr R_X12_laysSpaces_309 r0 s' → z_T (k s') (P_X12_laysSpaces_309 r0)) : z_T (fX12_laysSpaces_J194 fu s 309 a2 a3 a4 a5 3226 t1 r k) (P_X12_laysSpaces_309 r0) := by
  refine T_of (fX12_laysSpaces_J194.eq_1 ..) ?_
  have u1 := CI_b c (k := 309) (j := 20) bd_309_20
  have u2 := CI_b c (k := 316) (j := 0) bd_316_0
  have t3 : s 309 20 = r0 309 20 := f 309 20 (by decide)
  have t4 : s 316 0 = r0 316 0 := f 316 0 (by decide)
  exact sj_X12_laysSpaces_309_J195 hfu r0 s c f a2 a3 a4 a5 t1 0 (by omega) (by omega) (by omega) (by omega) (by omega) (by omega) (by omega) (by omega) p2 (by omega) M (by omega) (fun s' v5 c' f' w5 z0 z1 z2 pg => hr s' v5 c' f' w5 z0 z1 z2 (by omega)) hk
theorem sj_X12_laysSpaces_309_J155 {fu : Nat} (hfu : 8589934592 ≤ fu) (r0 s : z_M) (c : z_CI s) (f : z_Fr R_X12_laysSpaces_309 r0 s) (a2 : Int) (a3 : Int) (a4 : Int) (a5 : Int) (t1 : Int) (t2 : Int) (b2 : 0 ≤ a2 ∧ a2 ≤ 199) (b3 : 0 ≤ a3 ∧ a3 ≤ 200) (b4 : (-1) ≤ a4 ∧ a4 ≤ 199) (b5 : 0 ≤ a5 ∧ a5 ≤ 199) (d1 : 0 ≤ t1 ∧ t1 ≤ 199) (d2 : 0 ≤ t2 ∧ t2 ≤ 6) (p0 : a4 ≤ a2) (p1 : a5 ≤ a2) (p2 : y_B s) (p3 : a2 < s 309 20) (M : Int) (pm : 2147483647 - a5 ≤ M) {r : z_M → Int → z_O} {k : z_M → z_O} (hr : ∀ (s' : z_M) (v5 : Int), z_CI s' → z_Fr R_X12_laysSpaces_309 r0 s' → (0 ≤ v5 ∧ v5 ≤ 200) → (v5 ≤ a2 + 1) → (y_B s') → (a2 < s' 309 20) → (2147483647 - v5 < M) → z_T (r s' v5) (P_X12_laysSpaces_309 r0)) (hk : ∀ (s' : z_M), z_CI s' → z_Fr R_X12_laysSpaces_309 r0 s' → z_T (k s') (P_X12_laysSpaces_309 r0)) : z_T (fX12_laysSpaces_J155 fu s 309 a2 a3 a4 a5 3225 t1 t2 r k) (P_X12_laysSpaces_309 r0) := by
  refine T_of (fX12_laysSpaces_J155.eq_1 ..) ?_
  have u1 := CI_b c (k := 309) (j := 20) bd_309_20
  have u2 := CI_b c (k := 316) (j := 0) bd_316_0
  have t3 : s 309 20 = r0 309 20 := f 309 20 (by decide)
  have t4 : s 316 0 = r0 316 0 := f 316 0 (by decide)
  refine T_if1 (z_ixl (n := 200) (by decide +kernel) (by omega) (by omega)) ?_
  refine T_upg c (bdr_3225 t1) (by omega) (fun s5 c6 g8 g9 e10 => ?_)
  have f7 := z_Fr.up (R := R_X12_laysSpaces_309) f g8 (fun _ => (Or.inl (⟨by decide, by decide⟩)))
  have t11 : s5 309 20 = s 309 20 := g8 309 20 (by decide)
  have t12 : s5 316 0 = s 316 0 := g8 316 0 (by decide)
  have r13 := y_B.fr p2 (g8 309 20 (by decide)) (g8 316 0 (by decide)) (fun b => g8 3220 b (by decide)) (fun b => g8 3221 b (by decide)) (fun b => g8 3222 b (by decide)) (fun b => g8 361 b (by decide))
  refine T_if1 (by decide +kernel) ?_
  refine T_let 3226 (by decide +kernel) ?_
  refine T_if1 (by decide +kernel) ?_
  refine T_useI (sf_X12_isPoint_309 hfu s5 c6 a5 (by omega)) (fun v19 s14 hq => ?_)
  obtain ⟨c15, f16, ⟨x18, rfl, b20, b21⟩⟩ := hq
  refine T_vI ?_
  have q22 := z_Fr.eq (fun a b h => h) f16
  subst q22
  refine T_ite (fun h23 => ?_) (fun h23 => ?_)
  · exact sj_X12_laysSpaces_309_J194 hfu r0 s5 c6 f7 a2 a3 a4 a5 a5 (by omega) (by omega) (by omega) (by omega) (by omega) (by omega) (by omega) r13 (by omega) M (by omega) (fun s' v5 c' f' w5 z0 z1 z2 pg => hr s' v5 c' f' w5 z0 z1 z2 (by omega)) hk
  · refine T_ite (fun h24 => ?_) (fun h24 => ?_)
    · exact sj_X12_laysSpaces_309_J194 hfu r0 s5 c6 f7 a2 a3 a4 a5 a5 (by omega) (by omega) (by omega) (by omega) (by omega) (by omega) (by omega) r13 (by omega) M (by omega) (fun s' v5 c' f' w5 z0 z1 z2 pg => hr s' v5 c' f' w5 z0 z1 z2 (by omega)) hk
    · refine T_leq (fun x25 e26 => ?_)
      first | (have w27 := z_wx e26 (by omega)) | (have w27 := z_wr e26)
      refine T_if1 (by decide +kernel) ?_
      refine T_useI (sf_X12_isPoint_309 hfu s5 c6 x25 (by omega)) (fun v33 s28 hq => ?_)
      obtain ⟨c29, f30, ⟨x32, rfl, b34, b35⟩⟩ := hq
      refine T_vI ?_
      have q36 := z_Fr.eq (fun a b h => h) f30
      subst q36
      refine T_ite (fun h37 => ?_) (fun h37 => ?_)
      · exact sj_X12_laysSpaces_309_J194 hfu r0 s5 c6 f7 a2 a3 a4 a5 a5 (by omega) (by omega) (by omega) (by omega) (by omega) (by omega) (by omega) r13 (by omega) M (by omega) (fun s' v5 c' f' w5 z0 z1 z2 pg => hr s' v5 c' f' w5 z0 z1 z2 (by omega)) hk
      · exact sj_X12_laysSpaces_309_J195 hfu r0 s5 c6 f7 a2 a3 a4 a5 a5 6 (by omega) (by omega) (by omega) (by omega) (by omega) (by omega) (by omega) (by omega) r13 (by omega) M (by omega) (fun s' v5 c' f' w5 z0 z1 z2 pg => hr s' v5 c' f' w5 z0 z1 z2 (by omega)) hk
theorem sj_X12_laysSpaces_309_J154 {fu : Nat} (hfu : 8589934592 ≤ fu) (r0 s : z_M) (c : z_CI s) (f : z_Fr R_X12_laysSpaces_309 r0 s) (a2 : Int) (a3 : Int) (a4 : Int) (a5 : Int) (t1 : Int) (b2 : 0 ≤ a2 ∧ a2 ≤ 199) (b3 : 0 ≤ a3 ∧ a3 ≤ 200) (b4 : (-1) ≤ a4 ∧ a4 ≤ 199) (b5 : 0 ≤ a5 ∧ a5 ≤ 199) (d1 : 0 ≤ t1 ∧ t1 ≤ 199) (p0 : a4 ≤ a2) (p1 : a5 ≤ a2) (p2 : y_B s) (p3 : a2 < s 309 20) (M : Int) (pm : 2147483647 - a5 ≤ M) {r : z_M → Int → z_O} {k : z_M → z_O} (hr : ∀ (s' : z_M) (v5 : Int), z_CI s' → z_Fr R_X12_laysSpaces_309 r0 s' → (0 ≤ v5 ∧ v5 ≤ 200) → (v5 ≤ a2 + 1) → (y_B s') → (a2 < s' 309 20) → (2147483647 - v5 < M) → z_T (r s' v5) (P_X12_laysSpaces_309 r0)) (hk : ∀ (s' : z_M), z_CI s' → z_Fr R_X12_laysSpaces_309 r0 s' → z_T (k s') (P_X12_laysSpaces_309 r0)) : z_T (fX12_laysSpaces_J154 fu s 309 a2 a3 a4 a5 3225 t1 r k) (P_X12_laysSpaces_309 r0) := by
  refine T_of (fX12_laysSpaces_J154.eq_1 ..) ?_
  have u1 := CI_b c (k := 309) (j := 20) bd_309_20
  have u2 := CI_b c (k := 316) (j := 0) bd_316_0
  have t3 : s 309 20 = r0 309 20 := f 309 20 (by decide)
  have t4 : s 316 0 = r0 316 0 := f 316 0 (by decide)
  exact sj_X12_laysSpaces_309_J155 hfu r0 s c f a2 a3 a4 a5 t1 0 (by omega) (by omega) (by omega) (by omega) (by omega) (by omega) (by omega) (by omega) p2 (by omega) M (by omega) (fun s' v5 c' f' w5 z0 z1 z2 pg => hr s' v5 c' f' w5 z0 z1 z2 (by omega)) hk
theorem sj_X12_laysSpaces_309_J101 {fu : Nat} (hfu : 8589934592 ≤ fu) (r0 s : z_M) (c : z_CI s) (f : z_Fr R_X12_laysSpaces_309 r0 s) (a2 : Int) (a3 : Int) (a4 : Int) (a5 : Int) (t1 : Int) (t2 : Int) (b2 : 0 ≤ a2 ∧ a2 ≤ 199) (b3 : 0 ≤ a3 ∧ a3 ≤ 200) (b4 : (-1) ≤ a4 ∧ a4 ≤ 199) (b5 : 0 ≤ a5 ∧ a5 ≤ 199) (d1 : 0 ≤ t1 ∧ t1 ≤ 199) (d2 : -2147483648 ≤ t2 ∧ t2 ≤ 2147483647) (p0 : a4 ≤ a2) (p1 : a5 ≤ a2) (p2 : y_B s) (p3 : a2 < s 309 20) (M : Int) (pm : 2147483647 - a5 ≤ M) {r : z_M → Int → z_O} {k : z_M → z_O} (hr : ∀ (s' : z_M) (v5 : Int), z_CI s' → z_Fr R_X12_laysSpaces_309 r0 s' → (0 ≤ v5 ∧ v5 ≤ 200) → (v5 ≤ a2 + 1) → (y_B s') → (a2 < s' 309 20) → (2147483647 - v5 < M) → z_T (r s' v5) (P_X12_laysSpaces_309 r0)) (hk : ∀ (s' : z_M), z_CI s' → z_Fr R_X12_laysSpaces_309 r0 s' → z_T (k s') (P_X12_laysSpaces_309 r0)) : z_T (fX12_laysSpaces_J101 fu s 309 a2 a3 a4 a5 3224 t1 t2 r k) (P_X12_laysSpaces_309 r0) := by
  refine T_of (fX12_laysSpaces_J101.eq_1 ..) ?_
  have u1 := CI_b c (k := 309) (j := 20) bd_309_20
  have u2 := CI_b c (k := 316) (j := 0) bd_316_0
  have t3 : s 309 20 = r0 309 20 := f 309 20 (by decide)
  have t4 : s 316 0 = r0 316 0 := f 316 0 (by decide)
  refine T_if1 (z_ixl (n := 200) (by decide +kernel) (by omega) (by omega)) ?_
  refine T_upg c (bdr_3224 t1) (by omega) (fun s5 c6 g8 g9 e10 => ?_)
  have f7 := z_Fr.up (R := R_X12_laysSpaces_309) f g8 (fun _ => (Or.inl (⟨by decide, by decide⟩)))
  have t11 : s5 309 20 = s 309 20 := g8 309 20 (by decide)
  have t12 : s5 316 0 = s 316 0 := g8 316 0 (by decide)
  have r13 := y_B.fr p2 (g8 309 20 (by decide)) (g8 316 0 (by decide)) (fun b => g8 3220 b (by decide)) (fun b => g8 3221 b (by decide)) (fun b => g8 3222 b (by decide)) (fun b => g8 361 b (by decide))
  refine T_if1 (by decide +kernel) ?_
  refine T_let 3225 (by decide +kernel) ?_
  refine T_if1 (by decide +kernel) ?_
  refine T_let 3220 (by decide +kernel) ?_
  refine T_if1 (z_ixl (n := 200) (by decide +kernel) (by omega) (by omega)) ?_
  refine T_leq (fun x14 e15 => ?_)
  have u16 := CI_b c6 (k := 3220) (j := a5) (bdr_3220 a5)
  refine T_ite (fun h17 => ?_) (fun h17 => ?_)
  · exact sj_X12_laysSpaces_309_J154 hfu r0 s5 c6 f7 a2 a3 a4 a5 a5 (by omega) (by omega) (by omega) (by omega) (by omega) (by omega) (by omega) r13 (by omega) M (by omega) (fun s' v5 c' f' w5 z0 z1 z2 pg => hr s' v5 c' f' w5 z0 z1 z2 (by omega)) hk
  · refine T_ite (fun h18 => ?_) (fun h18 => ?_)
    · exact sj_X12_laysSpaces_309_J154 hfu r0 s5 c6 f7 a2 a3 a4 a5 a5 (by omega) (by omega) (by omega) (by omega) (by omega) (by omega) (by omega) r13 (by omega) M (by omega) (fun s' v5 c' f' w5 z0 z1 z2 pg => hr s' v5 c' f' w5 z0 z1 z2 (by omega)) hk
    · refine T_leq (fun x19 e20 => ?_)
      first | (have w21 := z_wx e20 (by omega)) | (have w21 := z_wr e20)
      refine T_if1 (by decide +kernel) ?_
      refine T_useI (sf_X12_isPoint_309 hfu s5 c6 x19 (by omega)) (fun v27 s22 hq => ?_)
      obtain ⟨c23, f24, ⟨x26, rfl, b28, b29⟩⟩ := hq
      refine T_vI ?_
      have q30 := z_Fr.eq (fun a b h => h) f24
      subst q30
      refine T_ite (fun h31 => ?_) (fun h31 => ?_)
      · exact sj_X12_laysSpaces_309_J154 hfu r0 s5 c6 f7 a2 a3 a4 a5 a5 (by omega) (by omega) (by omega) (by omega) (by omega) (by omega) (by omega) r13 (by omega) M (by omega) (fun s' v5 c' f' w5 z0 z1 z2 pg => hr s' v5 c' f' w5 z0 z1 z2 (by omega)) hk
      · refine T_if1 (by decide +kernel) ?_
        refine T_let 3220 (by decide +kernel) ?_
        refine T_leq (fun x32 e33 => ?_)
        have q34 : x19 = x32 := e20.symm.trans e33
        subst q34
        refine T_if1 (z_ixl (n := 200) (by decide +kernel) (by omega) (by omega)) ?_
        refine T_leq (fun x35 e36 => ?_)
        have u37 := CI_b c6 (k := 3220) (j := x19) (bdr_3220 x19)
        refine T_ite (fun h38 => ?_) (fun h38 => ?_)
        · exact sj_X12_laysSpaces_309_J154 hfu r0 s5 c6 f7 a2 a3 a4 a5 a5 (by omega) (by omega) (by omega) (by omega) (by omega) (by omega) (by omega) r13 (by omega) M (by omega) (fun s' v5 c' f' w5 z0 z1 z2 pg => hr s' v5 c' f' w5 z0 z1 z2 (by omega)) hk
        · exact sj_X12_laysSpaces_309_J155 hfu r0 s5 c6 f7 a2 a3 a4 a5 a5 6 (by omega) (by omega) (by omega) (by omega) (by omega) (by omega) (by omega) (by omega) r13 (by omega) M (by omega) (fun s' v5 c' f' w5 z0 z1 z2 pg => hr s' v5 c' f' w5 z0 z1 z2 (by omega)) hk
theorem sj_X12_laysSpaces_309_J95 {fu : Nat} (hfu : 8589934592 ≤ fu) (r0 s : z_M) (c : z_CI s) (f : z_Fr R_X12_laysSpaces_309 r0 s) (a2 : Int) (a3 : Int) (a4 : Int) (a5 : Int) (t1 : Int) (b2 : 0 ≤ a2 ∧ a2 ≤ 199) (b3 : 0 ≤ a3 ∧ a3 ≤ 200) (b4 : (-1) ≤ a4 ∧ a4 ≤ 199) (b5 : 0 ≤ a5 ∧ a5 ≤ 199) (d1 : 0 ≤ t1 ∧ t1 ≤ 199) (p0 : a4 ≤ a2) (p1 : a5 ≤ a2) (p2 : y_B s) (p3 : a2 < s 309 20) (M : Int) (pm : 2147483647 - a5 ≤ M) {r : z_M → Int → z_O} {k : z_M → z_O} (hr : ∀ (s' : z_M) (v5 : Int), z_CI s' → z_Fr R_X12_laysSpaces_309 r0 s' → (0 ≤ v5 ∧ v5 ≤ 200) → (v5 ≤ a2 + 1) → (y_B s') → (a2 < s' 309 20) → (2147483647 - v5 < M) → z_T (r s' v5) (P_X12_laysSpaces_309 r0)) (hk : ∀ (s' : z_M), z_CI s' → z_Fr R_X12_laysSpaces_309 r0 s' → z_T (k s') (P_X12_laysSpaces_309 r0)) : z_T (fX12_laysSpaces_J95 fu s 309 a2 a3 a4 a5 3224 t1 r k) (P_X12_laysSpaces_309 r0) := by
  refine T_of (fX12_laysSpaces_J95.eq_1 ..) ?_
  have u1 := CI_b c (k := 309) (j := 20) bd_309_20
  have u2 := CI_b c (k := 316) (j := 0) bd_316_0
  have t3 : s 309 20 = r0 309 20 := f 309 20 (by decide)
  have t4 : s 316 0 = r0 316 0 := f 316 0 (by decide)
  refine T_if1 (by decide +kernel) ?_
  refine T_useI (sf_X12_width_309 hfu s c a5 (by omega) p2 (by omega)) (fun v10 s5 hq => ?_)
  obtain ⟨c6, f7, ⟨x9, rfl, b11, b12⟩⟩ := hq
  refine T_vI ?_
  have q13 := z_Fr.eq (fun a b h => h) f7
  subst q13
  exact sj_X12_laysSpaces_309_J101 hfu r0 s c f a2 a3 a4 a5 t1 x9 (by omega) (by omega) (by omega) (by omega) (by omega) (by omega) (by omega) (by omega) p2 (by omega) M (by omega) (fun s' v5 c' f' w5 z0 z1 z2 pg => hr s' v5 c' f' w5 z0 z1 z2 (by omega)) hk
theorem sj_X12_laysSpaces_309_J91 {fu : Nat} (hfu : 8589934592 ≤ fu) (r0 s : z_M) (c : z_CI s) (f : z_Fr R_X12_laysSpaces_309 r0 s) (a2 : Int) (a3 : Int) (a4 : Int) (a5 : Int) (t1 : Int) (b2 : 0 ≤ a2 ∧ a2 ≤ 199) (b3 : 0 ≤ a3 ∧ a3 ≤ 200) (b4 : (-1) ≤ a4 ∧ a4 ≤ 199) (b5 : 0 ≤ a5 ∧ a5 ≤ 199) (d1 : 0 ≤ t1 ∧ t1 ≤ 199) (p0 : a4 ≤ a2) (p1 : a5 ≤ a2) (p2 : y_B s) (p3 : a2 < s 309 20) (M : Int) (pm : 2147483647 - a5 ≤ M) {r : z_M → Int → z_O} {k : z_M → z_O} (hr : ∀ (s' : z_M) (v5 : Int), z_CI s' → z_Fr R_X12_laysSpaces_309 r0 s' → (0 ≤ v5 ∧ v5 ≤ 200) → (v5 ≤ a2 + 1) → (y_B s') → (a2 < s' 309 20) → (2147483647 - v5 < M) → z_T (r s' v5) (P_X12_laysSpaces_309 r0)) (hk : ∀ (s' : z_M), z_CI s' → z_Fr R_X12_laysSpaces_309 r0 s' → z_T (k s') (P_X12_laysSpaces_309 r0)) : z_T (fX12_laysSpaces_J91 fu s 309 a2 a3 a4 a5 3224 t1 r k) (P_X12_laysSpaces_309 r0) := by
  refine T_of (fX12_laysSpaces_J91.eq_1 ..) ?_
  have u1 := CI_b c (k := 309) (j := 20) bd_309_20
  have u2 := CI_b c (k := 316) (j := 0) bd_316_0
  have t3 : s 309 20 = r0 309 20 := f 309 20 (by decide)
  have t4 : s 316 0 = r0 316 0 := f 316 0 (by decide)
  exact sj_X12_laysSpaces_309_J101 hfu r0 s c f a2 a3 a4 a5 t1 0 (by omega) (by omega) (by omega) (by omega) (by omega) (by omega) (by omega) (by omega) p2 (by omega) M (by omega) (fun s' v5 c' f' w5 z0 z1 z2 pg => hr s' v5 c' f' w5 z0 z1 z2 (by omega)) hk
theorem sl_X12_laysSpaces_309_L54 {fu : Nat} (hfu : 8589934592 ≤ fu) (r0 : z_M) (a2 : Int) (a3 : Int) (a4 : Int) (b2 : 0 ≤ a2 ∧ a2 ≤ 199) (b3 : 0 ≤ a3 ∧ a3 ≤ 200) (b4 : (-1) ≤ a4 ∧ a4 ≤ 199) (q0 : a4 ≤ a2) {k : z_M → z_O} (hk : ∀ (s' : z_M), z_CI s' → z_Fr R_X12_laysSpaces_309 r0 s' → z_T (k s') (P_X12_laysSpaces_309 r0)) : ∀ (F : Nat) (s : z_M) (a5 : Int), z_CI s → z_Fr R_X12_laysSpaces_309 r0 s → (0 ≤ a5 ∧ a5 ≤ 200) → (a5 ≤ a2 + 1) → (y_B s) → (a2 < s 309 20) → (2147483647 - a5 < (F : Int)) → z_T (fX12_laysSpaces_L54 fu 309 a2 a3 a4 F s a5 k) (P_X12_laysSpaces_309 r0) := by
  intro F
  induction F with
  | zero =>
    intro s a5 c f b5 i0 i1 i2 hm
    have u12 := CI_b c (k := 309) (j := 20) bd_309_20
    have u13 := CI_b c (k := 316) (j := 0) bd_316_0
    exfalso; omega
  | succ F ih =>
    intro s a5 c f b5 i0 i1 i2 hm
    refine T_of (fX12_laysSpaces_L54.eq_2 ..) ?_
    have u1 := CI_b c (k := 309) (j := 20) bd_309_20
    have u2 := CI_b c (k := 316) (j := 0) bd_316_0
    have t3 : s 309 20 = r0 309 20 := f 309 20 (by decide)
    have t4 : s 316 0 = r0 316 0 := f 316 0 (by decide)
    refine T_ite (fun h5 => ?_) (fun h5 => ?_)
    · exact hk s c f
    · refine T_if1 (by decide +kernel) ?_
      refine T_let 3224 (by decide +kernel) ?_
      refine T_if1 (by decide +kernel) ?_
      refine T_let 3220 (by decide +kernel) ?_
      refine T_if1 (z_ixl (n := 200) (by decide +kernel) (by omega) (by omega)) ?_
      refine T_leq (fun x6 e7 => ?_)
      have u8 := CI_b c (k := 3220) (j := a5) (bdr_3220 a5)
      refine T_ite (fun h9 => ?_) (fun h9 => ?_)
      · exact sj_X12_laysSpaces_309_J95 hfu r0 s c f a2 a3 a4 a5 a5 (by omega) (by omega) (by omega) (by omega) (by omega) (by omega) (by omega) i1 (by omega) (2147483647 - a5) (by omega) (fun s' v5 c' f' w5 z0 z1 z2 pg => ih s' v5 c' f' w5 z0 z1 z2 (by omega)) hk
      · refine T_ite (fun h10 => ?_) (fun h10 => ?_)
        · exact sj_X12_laysSpaces_309_J91 hfu r0 s c f a2 a3 a4 a5 a5 (by omega) (by omega) (by omega) (by omega) (by omega) (by omega) (by omega) i1 (by omega) (2147483647 - a5) (by omega) (fun s' v5 c' f' w5 z0 z1 z2 pg => ih s' v5 c' f' w5 z0 z1 z2 (by omega)) hk
        · refine T_ite (fun h11 => ?_) (fun h11 => ?_)
          · exact sj_X12_laysSpaces_309_J95 hfu r0 s c f a2 a3 a4 a5 a5 (by omega) (by omega) (by omega) (by omega) (by omega) (by omega) (by omega) i1 (by omega) (2147483647 - a5) (by omega) (fun s' v5 c' f' w5 z0 z1 z2 pg => ih s' v5 c' f' w5 z0 z1 z2 (by omega)) hk
          · exact sj_X12_laysSpaces_309_J91 hfu r0 s c f a2 a3 a4 a5 a5 (by omega) (by omega) (by omega) (by omega) (by omega) (by omega) (by omega) i1 (by omega) (2147483647 - a5) (by omega) (fun s' v5 c' f' w5 z0 z1 z2 pg => ih s' v5 c' f' w5 z0 z1 z2 (by omega)) hk
theorem sj_X12_laysSpaces_309_J253 {fu : Nat} (hfu : 8589934592 ≤ fu) (r0 s : z_M) (c : z_CI s) (f : z_Fr R_X12_laysSpaces_309 r0 s) : z_T (fX12_laysSpaces_J253 fu s) (P_X12_laysSpaces_309 r0) := by
  refine T_of (fX12_laysSpaces_J253.eq_1 ..) ?_
  have u1 := CI_b c (k := 309) (j := 20) bd_309_20
  have u2 := CI_b c (k := 316) (j := 0) bd_316_0
  have t3 : s 309 20 = r0 309 20 := f 309 20 (by decide)
  have t4 : s 316 0 = r0 316 0 := f 316 0 (by decide)
  exact T_ret ⟨c, f, rfl⟩
theorem sj_X12_laysSpaces_309_J235 {fu : Nat} (hfu : 8589934592 ≤ fu) (r0 s : z_M) (c : z_CI s) (f : z_Fr R_X12_laysSpaces_309 r0 s) (a4 : Int) (t1 : Int) (b4 : (-1) ≤ a4 ∧ a4 ≤ 199) (d1 : 0 ≤ t1 ∧ t1 ≤ 1) (p0 : t1 = 0 ∨ 0 ≤ a4) : z_T (fX12_laysSpaces_J235 fu s 309 a4 309 t1) (P_X12_laysSpaces_309 r0) := by
  refine T_of (fX12_laysSpaces_J235.eq_1 ..) ?_
  have u1 := CI_b c (k := 309) (j := 20) bd_309_20
  have u2 := CI_b c (k := 316) (j := 0) bd_316_0
  have t3 : s 309 20 = r0 309 20 := f 309 20 (by decide)
  have t4 : s 316 0 = r0 316 0 := f 316 0 (by decide)
  refine T_if1 ⟨(by decide +kernel), by unfold z_bl; omega⟩ ?_
  refine T_upg c bd_309_35 (by omega) (fun s5 c6 g8 g9 e10 => ?_)
  have f7 := z_Fr.upf (R := R_X12_laysSpaces_309) f g8 g9 (Or.inr (⟨rfl, by decide⟩))
  have t11 : s5 309 20 = s 309 20 := g9 20 (by decide)
  have t12 : s5 316 0 = s 316 0 := g8 316 0 (by decide)
  refine T_if1 (by decide +kernel) ?_
  refine T_leq (fun x13 e14 => ?_)
  have u15 := CI_b c6 (k := 309) (j := 35) bd_309_35
  refine T_ite (fun h16 => ?_) (fun h16 => ?_)
  · exact sj_X12_laysSpaces_309_J253 hfu r0 s5 c6 f7
  · refine T_if1 (by decide +kernel) ?_
    refine T_let 3224 (by decide +kernel) ?_
    refine T_if1 (z_ixl (n := 200) (by decide +kernel) (by omega) (by omega)) ?_
    refine T_upg c6 (bdr_3224 a4) (by omega) (fun s17 c18 g20 g21 e22 => ?_)
    have f19 := z_Fr.up (R := R_X12_laysSpaces_309) f7 g20 (fun _ => (Or.inl (⟨by decide, by decide⟩)))
    have t23 : s17 309 20 = s 309 20 := (g20 309 20 (by decide)).trans t11
    have t24 : s17 316 0 = s 316 0 := (g20 316 0 (by decide)).trans t12
    clear t11
    clear t12
    exact sj_X12_laysSpaces_309_J253 hfu r0 s17 c18 f19
theorem sj_X12_laysSpaces_309_J234 {fu : Nat} (hfu : 8589934592 ≤ fu) (r0 s : z_M) (c : z_CI s) (f : z_Fr R_X12_laysSpaces_309 r0 s) (a4 : Int) (b4 : (-1) ≤ a4 ∧ a4 ≤ 199) : z_T (fX12_laysSpaces_J234 fu s 309 a4 309) (P_X12_laysSpaces_309 r0) := by
  refine T_of (fX12_laysSpaces_J234.eq_1 ..) ?_
  have u1 := CI_b c (k := 309) (j := 20) bd_309_20
  have u2 := CI_b c (k := 316) (j := 0) bd_316_0
  have t3 : s 309 20 = r0 309 20 := f 309 20 (by decide)
  have t4 : s 316 0 = r0 316 0 := f 316 0 (by decide)
  exact sj_X12_laysSpaces_309_J235 hfu r0 s c f a4 0 (by omega) (by omega) (by omega)
theorem sj_X12_laysSpaces_309_J51 {fu : Nat} (hfu : 8589934592 ≤ fu) (r0 s : z_M) (c : z_CI s) (f : z_Fr R_X12_laysSpaces_309 r0 s) (a1 : Int) (a2 : Int) (a3 : Int) (a4 : Int) (b1 : 0 ≤ a1 ∧ a1 ≤ 199) (b2 : 0 ≤ a2 ∧ a2 ≤ 199) (b3 : 0 ≤ a3 ∧ a3 ≤ 200) (b4 : (-1) ≤ a4 ∧ a4 ≤ 199) (p0 : a1 ≤ a2 + 1) (p1 : a3 ≤ a4 ∨ a2 < a3) (p2 : a4 ≤ a2) (p3 : y_B s) (p4 : a2 < s 309 20) : z_T (fX12_laysSpaces_J51 fu s 309 a1 a2 a3 a4) (P_X12_laysSpaces_309 r0) := by
  refine T_of (fX12_laysSpaces_J51.eq_1 ..) ?_
  have u1 := CI_b c (k := 309) (j := 20) bd_309_20
  have u2 := CI_b c (k := 316) (j := 0) bd_316_0
  have t3 : s 309 20 = r0 309 20 := f 309 20 (by decide)
  have t4 : s 316 0 = r0 316 0 := f 316 0 (by decide)
  refine sl_X12_laysSpaces_309_L54 hfu r0 a2 a3 a4 (by omega) (by omega) (by omega) (by omega) (fun s5 c6 f7 => ?_) fu s a1 c f (by omega) (by omega) p3 (by omega) (by omega)
  have u8 := CI_b c6 (k := 309) (j := 20) bd_309_20
  have u9 := CI_b c6 (k := 316) (j := 0) bd_316_0
  have t10 : s5 309 20 = r0 309 20 := f7 309 20 (by decide)
  have t11 : s5 316 0 = r0 316 0 := f7 316 0 (by decide)
  refine T_if1 (by decide +kernel) ?_
  refine T_let 312 (by decide +kernel) ?_
  refine T_if1 (z_ixl (n := 9) (by decide +kernel) (by omega) (by omega)) ?_
  refine T_leq (fun x12 e13 => ?_)
  have u14 := CI_b c6 (k := 312) (j := 6) (bdr_312 6)
  refine T_ite (fun h15 => ?_) (fun h15 => ?_)
  · exact sj_X12_laysSpaces_309_J234 hfu r0 s5 c6 f7 a4 (by omega)
  · refine T_ite (fun h16 => ?_) (fun h16 => ?_)
    · exact sj_X12_laysSpaces_309_J234 hfu r0 s5 c6 f7 a4 (by omega)
    · refine T_if1 (by decide +kernel) ?_
      refine T_let 3220 (by decide +kernel) ?_
      refine T_if1 (z_ixl (n := 200) (by decide +kernel) (by omega) (by omega)) ?_
      refine T_leq (fun x17 e18 => ?_)
      have u19 := CI_b c6 (k := 3220) (j := a4) (bdr_3220 a4)
      refine T_ite (fun h20 => ?_) (fun h20 => ?_)
      · exact sj_X12_laysSpaces_309_J234 hfu r0 s5 c6 f7 a4 (by omega)
      · exact sj_X12_laysSpaces_309_J235 hfu r0 s5 c6 f7 a4 1 (by omega) (by omega) (by omega)
theorem sf_X12_laysSpaces_309 {fu : Nat} (hfu : 8589934592 ≤ fu) (r0 : z_M) (c0 : z_CI r0) (a1 : Int) (a2 : Int) (b1 : 0 ≤ a1 ∧ a1 ≤ 199) (b2 : 0 ≤ a2 ∧ a2 ≤ 199) (p0 : y_B r0) (p1 : a1 ≤ a2) (p2 : a2 < r0 309 20) : z_T (fX12_laysSpaces fu r0 309 a1 a2) (P_X12_laysSpaces_309 r0) := by
  refine T_of (fX12_laysSpaces.eq_1 ..) ?_
  have u1 := CI_b c0 (k := 309) (j := 20) bd_309_20
  have u2 := CI_b c0 (k := 316) (j := 0) bd_316_0
  refine sl_X12_laysSpaces_309_L5 hfu r0 a1 a2 a2 (by omega) (by omega) (by omega) (fun s3 y6 c4 f5 b7 g8 g9 g10 g11 g12 => ?_) fu r0 a1 c0 z_Fr.rf (by omega) (by omega) (by omega) p0 (by omega) (by omega)
  have u13 := CI_b c4 (k := 309) (j := 20) bd_309_20
  have u14 := CI_b c4 (k := 316) (j := 0) bd_316_0
  have t15 : s3 309 20 = r0 309 20 := f5 309 20 (by decide)
  have t16 : s3 316 0 = r0 316 0 := f5 316 0 (by decide)
  refine sl_X12_laysSpaces_309_L27 hfu r0 a1 a2 y6 (by omega) (by omega) (by omega) (fun s17 y20 c18 f19 b21 g22 g23 g24 g25 g26 => ?_) fu s3 a2 c4 f5 (by omega) (by omega) (by omega) (by omega) (by omega) (by omega) g11 (by omega) (by omega)
  have u27 := CI_b c18 (k := 309) (j := 20) bd_309_20
  have u28 := CI_b c18 (k := 316) (j := 0) bd_316_0
  have t29 : s17 309 20 = r0 309 20 := f19 309 20 (by decide)
  have t30 : s17 316 0 = r0 316 0 := f19 316 0 (by decide)
  exact sj_X12_laysSpaces_309_J51 hfu r0 s17 c18 f19 a1 a2 y6 y20 (by omega) (by omega) (by omega) (by omega) (by omega) (by omega) (by omega) g25 (by omega)
abbrev R_X12_laysBlocks_309 (a b : Int) : Prop := (3227 ≤ a ∧ a ≤ 3233)
abbrev P_X12_laysBlocks_309 (r0 : z_M) (a1 : Int) (a2 : Int) : z_V → z_M → Prop := fun v s' => z_CI s' ∧ z_Fr R_X12_laysBlocks_309 r0 s' ∧ (y_E s' a1 a2) ∧ (v = vN)
theorem sl_X12_laysBlocks_309_L2 {fu : Nat} (hfu : 8589934592 ≤ fu) (r0 : z_M) (a1 : Int) (a2 : Int) (b1 : 0 ≤ a1 ∧ a1 ≤ 199) (b2 : 0 ≤ a2 ∧ a2 ≤ 199) {k : z_M → z_O} (hk : ∀ (s' : z_M), z_CI s' → z_Fr R_X12_laysBlocks_309 r0 s' → (y_Zr s' a1 (a2 + 1)) → (y_B s') → (a2 < s' 309 20) → z_T (k s') (P_X12_laysBlocks_309 r0 a1 a2)) : ∀ (F : Nat) (s : z_M) (a3 : Int), z_CI s → z_Fr R_X12_laysBlocks_309 r0 s → (0 ≤ a3 ∧ a3 ≤ 200) → (a1 ≤ a3) → (a3 ≤ a2 + 1) → (y_Zr s a1 a3) → (y_B s) → (a2 < s 309 20) → (2147483647 - a3 < (F : Int)) → z_T (fX12_laysBlocks_L2 fu 309 a1 a2 F s a3 k) (P_X12_laysBlocks_309 r0 a1 a2) := by
  intro F
  induction F with
  | zero =>
    intro s a3 c f b3 i0 i1 i2 i3 i4 hm
    have u59 := CI_b c (k := 309) (j := 20) bd_309_20
    have u60 := CI_b c (k := 316) (j := 0) bd_316_0
    exfalso; omega
  | succ F ih =>
    intro s a3 c f b3 i0 i1 i2 i3 i4 hm
    refine T_of (fX12_laysBlocks_L2.eq_2 ..) ?_
    have u1 := CI_b c (k := 309) (j := 20) bd_309_20
    have u2 := CI_b c (k := 316) (j := 0) bd_316_0
    have t3 : s 309 20 = r0 309 20 := f 309 20 (by decide)
    have t4 : s 316 0 = r0 316 0 := f 316 0 (by decide)
    refine T_ite (fun h5 => ?_) (fun h5 => ?_)
    · exact hk s c f (by first | exact y_Zr.cg i2 (by omega) (by omega) | exact y_Zr.z (by omega)) i3 (by omega)
    · refine T_if1 (by decide +kernel) ?_
      refine T_let 3229 (by decide +kernel) ?_
      refine T_if1 (z_ixl (n := 200) (by decide +kernel) (by omega) (by omega)) ?_
      refine T_upg c (bdr_3229 a3) (by omega) (fun s6 c7 g9 g10 e11 => ?_)
      have f8 := z_Fr.up (R := R_X12_laysBlocks_309) f g9 (fun _ => (⟨by decide, by decide⟩))
      have t12 : s6 309 20 = s 309 20 := g9 309 20 (by decide)
      have t13 : s6 316 0 = s 316 0 := g9 316 0 (by decide)
      have r14 := y_B.fr i3 (g9 309 20 (by decide)) (g9 316 0 (by decide)) (fun b => g9 3220 b (by decide)) (fun b => g9 3221 b (by decide)) (fun b => g9 3222 b (by decide)) (fun b => g9 361 b (by decide))
      have r15 := y_Zr.st i2 g10 e11 (by omega) rfl
      refine T_if1 (by decide +kernel) ?_
      refine T_let 3230 (by decide +kernel) ?_
      refine T_if1 (z_ixl (n := 200) (by decide +kernel) (by omega) (by omega)) ?_
      refine T_upg c7 (bdr_3230 a3) (by omega) (fun s16 c17 g19 g20 e21 => ?_)
      have f18 := z_Fr.up (R := R_X12_laysBlocks_309) f8 g19 (fun _ => (⟨by decide, by decide⟩))
      have t22 : s16 309 20 = s 309 20 := (g19 309 20 (by decide)).trans t12
      have t23 : s16 316 0 = s 316 0 := (g19 316 0 (by decide)).trans t13
      have r24 := y_B.fr r14 (g19 309 20 (by decide)) (g19 316 0 (by decide)) (fun b => g19 3220 b (by decide)) (fun b => g19 3221 b (by decide)) (fun b => g19 3222 b (by decide)) (fun b => g19 361 b (by decide))
      have r25 := y_Zr.fr r15 (fun b => g19 3229 b (by decide))
      clear t12
      clear t13
      refine T_if1 (by decide +kernel) ?_
      refine T_let 3231 (by decide +kernel) ?_
      refine T_if1 (z_ixl (n := 200) (by decide +kernel) (by omega) (by omega)) ?_
      refine T_upg c17 (bdr_3231 a3) (by omega) (fun s26 c27 g29 g30 e31 => ?_)
      have f28 := z_Fr.up (R := R_X12_laysBlocks_309) f18 g29 (fun _ => (⟨by decide, by decide⟩))
      have t32 : s26 309 20 = s 309 20 := (g29 309 20 (by decide)).trans t22
      have t33 : s26 316 0 = s 316 0 := (g29 316 0 (by decide)).trans t23
      have r34 := y_B.fr r24 (g29 309 20 (by decide)) (g29 316 0 (by decide)) (fun b => g29 3220 b (by decide)) (fun b => g29 3221 b (by decide)) (fun b => g29 3222 b (by decide)) (fun b => g29 361 b (by decide))
      have r35 := y_Zr.fr r25 (fun b => g29 3229 b (by decide))
      clear t22
      clear t23
      refine T_if1 (by decide +kernel) ?_
      refine T_let 3227 (by decide +kernel) ?_
      refine T_if1 (z_ixl (n := 200) (by decide +kernel) (by omega) (by omega)) ?_
      refine T_upg c27 (bdr_3227 a3) (by omega) (fun s36 c37 g39 g40 e41 => ?_)
      have f38 := z_Fr.up (R := R_X12_laysBlocks_309) f28 g39 (fun _ => (⟨by decide, by decide⟩))
      have t42 : s36 309 20 = s 309 20 := (g39 309 20 (by decide)).trans t32
      have t43 : s36 316 0 = s 316 0 := (g39 316 0 (by decide)).trans t33
      have r44 := y_B.fr r34 (g39 309 20 (by decide)) (g39 316 0 (by decide)) (fun b => g39 3220 b (by decide)) (fun b => g39 3221 b (by decide)) (fun b => g39 3222 b (by decide)) (fun b => g39 361 b (by decide))
      have r45 := y_Zr.fr r35 (fun b => g39 3229 b (by decide))
      clear t32
      clear t33
      refine T_if1 (by decide +kernel) ?_
      refine T_let 3228 (by decide +kernel) ?_
      refine T_if1 (z_ixl (n := 200) (by decide +kernel) (by omega) (by omega)) ?_
      refine T_upg c37 (bdr_3228 a3) (by omega) (fun s46 c47 g49 g50 e51 => ?_)
      have f48 := z_Fr.up (R := R_X12_laysBlocks_309) f38 g49 (fun _ => (⟨by decide, by decide⟩))
      have t52 : s46 309 20 = s 309 20 := (g49 309 20 (by decide)).trans t42
      have t53 : s46 316 0 = s 316 0 := (g49 316 0 (by decide)).trans t43
      have r54 := y_B.fr r44 (g49 309 20 (by decide)) (g49 316 0 (by decide)) (fun b => g49 3220 b (by decide)) (fun b => g49 3221 b (by decide)) (fun b => g49 3222 b (by decide)) (fun b => g49 361 b (by decide))
      have r55 := y_Zr.fr r45 (fun b => g49 3229 b (by decide))
      clear t42
      clear t43
      refine T_leq (fun x56 e57 => ?_)
      first | (have w58 := z_wx e57 (by omega)) | (have w58 := z_wr e57)
      exact ih s46 x56 c47 f48 (by omega) (by omega) (by omega) (by first | exact y_Zr.cg r55 (by omega) (by omega) | exact y_Zr.z (by omega)) r54 (by omega) (by omega)
theorem sl_X12_laysBlocks_309_L84 {fu : Nat} (hfu : 8589934592 ≤ fu) (r0 : z_M) (a1 : Int) (a2 : Int) (a3 : Int) (b2 : 0 ≤ a2 ∧ a2 ≤ 199) (b3 : 0 ≤ a3 ∧ a3 ≤ 199) (q0 : a1 ≤ a3) {k : z_M → Int → Int → Int → Int → z_O} (hk : ∀ (s' : z_M) (v4 : Int) (v5 : Int) (v6 : Int) (v7 : Int), z_CI s' → z_Fr R_X12_laysBlocks_309 r0 s' → (0 ≤ v4 ∧ v4 ≤ 200) → (-2147483648 ≤ v5 ∧ v5 ≤ 2147483647) → (-2147483648 ≤ v6 ∧ v6 ≤ 2147483647) → (-2147483648 ≤ v7 ∧ v7 ≤ 2147483647) → (1 ≤ v4) → (a3 + v4 ≤ a2 + 1) → (y_F s' a1 a3 a2) → (y_G s' a3 v4) → (y_B s') → (a2 < s' 309 20) → z_T (k s' v4 v5 v6 v7) (P_X12_laysBlocks_309 r0 a1 a2)) : ∀ (F : Nat) (s : z_M) (a4 : Int) (a5 : Int) (a6 : Int) (a7 : Int), z_CI s → z_Fr R_X12_laysBlocks_309 r0 s → (0 ≤ a4 ∧ a4 ≤ 200) → (-2147483648 ≤ a5 ∧ a5 ≤ 2147483647) → (-2147483648 ≤ a6 ∧ a6 ≤ 2147483647) → (-2147483648 ≤ a7 ∧ a7 ≤ 2147483647) → (0 ≤ a4) → (a3 + a4 ≤ a2 + 1) → (a3 ≤ a2) → (y_F s a1 a3 a2) → (y_G s a3 a4) → (s 3220 a3 = 7) → (y_B s) → (a2 < s 309 20) → (2147483647 - a4 < (F : Int)) → z_T (fX12_laysBlocks_L84 fu 309 a2 a3 F s a4 a5 a6 a7 k) (P_X12_laysBlocks_309 r0 a1 a2) := by
  intro F
  induction F with
  | zero =>
    intro s a4 a5 a6 a7 c f b4 b5 b6 b7 i0 i1 i2 i3 i4 i5 i6 i7 hm
    have u83 := CI_b c (k := 309) (j := 20) bd_309_20
    have u84 := CI_b c (k := 316) (j := 0) bd_316_0
    exfalso; omega
  | succ F ih =>
    intro s a4 a5 a6 a7 c f b4 b5 b6 b7 i0 i1 i2 i3 i4 i5 i6 i7 hm
    refine T_of (fX12_laysBlocks_L84.eq_2 ..) ?_
    have u1 := CI_b c (k := 309) (j := 20) bd_309_20
    have u2 := CI_b c (k := 316) (j := 0) bd_316_0
    have t3 : s 309 20 = r0 309 20 := f 309 20 (by decide)
    have t4 : s 316 0 = r0 316 0 := f 316 0 (by decide)
    refine T_leq (fun x5 e6 => ?_)
    first | (have w7 := z_wx e6 (by omega)) | (have w7 := z_wr e6)
    refine T_ite (fun h8 => ?_) (fun h8 => ?_)
    · exact hk s a4 a5 a6 a7 c f (by omega) (by omega) (by omega) (by omega) (by omega) (by omega) (by first | exact y_F.cg i3 (by omega) (by omega) (by omega) | exact y_F.sk i3 (by omega) (by omega) (by omega) (by omega)) (by first | exact y_G.cg i4 (by omega) (by omega) | exact y_G.z (by omega)) i6 (by omega)
    · refine T_leq (fun x9 e10 => ?_)
      have q11 : x5 = x9 := e6.symm.trans e10
      subst q11
      refine T_if1 (by decide +kernel) ?_
      refine T_useI (sf_X12_group_309 hfu s c x5 (by omega) i6 (by omega)) (fun v17 s12 hq => ?_)
      obtain ⟨c13, f14, ⟨x16, rfl, b18, b19, o20, o21, o22⟩⟩ := hq
      refine T_vI ?_
      have q23 := z_Fr.eq (fun a b h => h) f14
      subst q23
      refine T_if1 (by decide +kernel) ?_
      refine T_useI (sf_X12_group_309 hfu s c a3 (by omega) i6 (by omega)) (fun v29 s24 hq => ?_)
      obtain ⟨c25, f26, ⟨x28, rfl, b30, b31, o32, o33, o34⟩⟩ := hq
      refine T_vI ?_
      have q35 := z_Fr.eq (fun a b h => h) f26
      subst q35
      have n36 := y_gpn (u := a3) (n := a4) (x1 := x16) (x2 := x28) (by assumption) (by assumption) (by omega)
      refine T_ite (fun h37 => ?_) (fun h37 => ?_)
      · exact hk s a4 a5 a6 a7 c f (by omega) (by omega) (by omega) (by omega) (by omega) (by omega) (by first | exact y_F.cg i3 (by omega) (by omega) (by omega) | exact y_F.sk i3 (by omega) (by omega) (by omega) (by omega)) (by first | exact y_G.cg i4 (by omega) (by omega) | exact y_G.z (by omega)) i6 (by omega)
      · refine T_leq (fun x38 e39 => ?_)
        have q40 : x5 = x38 := e6.symm.trans e39
        subst q40
        refine T_if1 (by decide +kernel) ?_
        refine T_useI (sf_X12_lettersOf_309 hfu s c x5 0 (by omega) (by omega) i6 (by omega) (by omega)) (fun v46 s41 hq => ?_)
        obtain ⟨c42, f43, ⟨x45, rfl, b47, b48, o49⟩⟩ := hq
        refine T_vI ?_
        have q50 := z_Fr.eq (fun a b h => h) f43
        subst q50
        refine T_leq (fun x51 e52 => ?_)
        first | (have w53 := z_wx e52 (by omega)) | (have w53 := z_wr e52)
        refine T_leq (fun x54 e55 => ?_)
        have q56 : x5 = x54 := e6.symm.trans e55
        subst q56
        refine T_if1 (by decide +kernel) ?_
        refine T_useI (sf_X12_lettersOf_309 hfu s c x5 1 (by omega) (by omega) i6 (by omega) (by omega)) (fun v62 s57 hq => ?_)
        obtain ⟨c58, f59, ⟨x61, rfl, b63, b64, o65⟩⟩ := hq
        refine T_vI ?_
        have q66 := z_Fr.eq (fun a b h => h) f59
        subst q66
        refine T_leq (fun x67 e68 => ?_)
        first | (have w69 := z_wx e68 (by omega)) | (have w69 := z_wr e68)
        refine T_if1 (by decide +kernel) ?_
        refine T_let 3224 (by decide +kernel) ?_
        refine T_leq (fun x70 e71 => ?_)
        have q72 : x5 = x70 := e6.symm.trans e71
        subst q72
        refine T_if1 (z_ixl (n := 200) (by decide +kernel) (by omega) (by omega)) ?_
        refine T_leq (fun x73 e74 => ?_)
        have u75 := CI_b c (k := 3224) (j := x5) (bdr_3224 x5)
        refine T_leq (fun x76 e77 => ?_)
        first | (have w78 := z_wx e77 (by omega)) | (have w78 := z_wr e77)
        have r79 : y_G s a3 (a4 + 1) := y_G.ex i4 (w := x5) (by omega) (by omega) rfl rfl
        refine T_leq (fun x80 e81 => ?_)
        first | (have w82 := z_wx e81 (by omega)) | (have w82 := z_wr e81)
        exact ih s x80 x51 x67 x76 c f (by omega) (by omega) (by omega) (by omega) (by omega) (by omega) (by omega) (by first | exact y_F.cg i3 (by omega) (by omega) (by omega) | exact y_F.sk i3 (by omega) (by omega) (by omega) (by omega)) (by first | exact y_G.cg r79 (by omega) (by omega) | exact y_G.cg i4 (by omega) (by omega) | exact y_G.z (by omega)) (by omega) i6 (by omega) (by omega)
theorem sj_X12_laysBlocks_309_J156 {fu : Nat} (hfu : 8589934592 ≤ fu) (r0 s : z_M) (c : z_CI s) (f : z_Fr R_X12_laysBlocks_309 r0 s) (a2 : Int) (a3 : Int) (a4 : Int) (a5 : Int) (a6 : Int) (a7 : Int) (a1 : Int) (b2 : 0 ≤ a2 ∧ a2 ≤ 199) (b3 : 0 ≤ a3 ∧ a3 ≤ 199) (b4 : 1 ≤ a4 ∧ a4 ≤ 200) (b5 : -2147483648 ≤ a5 ∧ a5 ≤ 2147483647) (b6 : -2147483648 ≤ a6 ∧ a6 ≤ 2147483647) (b7 : -2147483648 ≤ a7 ∧ a7 ≤ 2147483647) (p0 : 1 ≤ a4) (p1 : a3 + a4 ≤ a2 + 1) (p2 : a1 ≤ a3) (p3 : y_F s a1 a3 a2) (p4 : y_G s a3 a4) (p5 : y_B s) (p6 : a2 < s 309 20) (M : Int) (pm : 2147483647 - a3 ≤ M) {r : z_M → Int → z_O} {k : z_M → z_O} (hr : ∀ (s' : z_M) (v3 : Int), z_CI s' → z_Fr R_X12_laysBlocks_309 r0 s' → (0 ≤ v3 ∧ v3 ≤ 200) → (a1 ≤ v3) → (v3 ≤ a2 + 1) → (y_F s' a1 v3 a2) → (y_B s') → (a2 < s' 309 20) → (2147483647 - v3 < M) → z_T (r s' v3) (P_X12_laysBlocks_309 r0 a1 a2)) (hk : ∀ (s' : z_M), z_CI s' → z_Fr R_X12_laysBlocks_309 r0 s' → (y_E s' a1 a2) → z_T (k s') (P_X12_laysBlocks_309 r0 a1 a2)) : z_T (fX12_laysBlocks_J156 fu s 309 a2 a3 a4 a5 a6 a7 r k) (P_X12_laysBlocks_309 r0 a1 a2) := by
  refine T_of (fX12_laysBlocks_J156.eq_1 ..) ?_
  have u1 := CI_b c (k := 309) (j := 20) bd_309_20
  have u2 := CI_b c (k := 316) (j := 0) bd_316_0
  have t3 : s 309 20 = r0 309 20 := f 309 20 (by decide)
  have t4 : s 316 0 = r0 316 0 := f 316 0 (by decide)
  refine T_if1 (by decide +kernel) ?_
  refine T_let 3229 (by decide +kernel) ?_
  refine T_if1 (z_ixl (n := 200) (by decide +kernel) (by omega) (by omega)) ?_
  refine T_upg c (bdr_3229 a3) (by omega) (fun s5 c6 g8 g9 e10 => ?_)
  have f7 := z_Fr.up (R := R_X12_laysBlocks_309) f g8 (fun _ => (⟨by decide, by decide⟩))
  have t11 : s5 309 20 = s 309 20 := g8 309 20 (by decide)
  have t12 : s5 316 0 = s 316 0 := g8 316 0 (by decide)
  have r13 := y_G.fr p4 (fun b => g8 3220 b (by decide))
  have r14 := y_B.fr p5 (g8 309 20 (by decide)) (g8 316 0 (by decide)) (fun b => g8 3220 b (by decide)) (fun b => g8 3221 b (by decide)) (fun b => g8 3222 b (by decide)) (fun b => g8 361 b (by decide))
  have r15 := y_F.blk p3 p4 g8 g9 e10 (by omega) (by omega) (by omega) (by omega)
  refine T_if1 (by decide +kernel) ?_
  refine T_let 3233 (by decide +kernel) ?_
  refine T_if1 (z_ixl (n := 200) (by decide +kernel) (by omega) (by omega)) ?_
  refine T_upg c6 (bdr_3233 a3) (by omega) (fun s16 c17 g19 g20 e21 => ?_)
  have f18 := z_Fr.up (R := R_X12_laysBlocks_309) f7 g19 (fun _ => (⟨by decide, by decide⟩))
  have t22 : s16 309 20 = s 309 20 := (g19 309 20 (by decide)).trans t11
  have t23 : s16 316 0 = s 316 0 := (g19 316 0 (by decide)).trans t12
  have r24 := y_G.fr r13 (fun b => g19 3220 b (by decide))
  have r25 := y_B.fr r14 (g19 309 20 (by decide)) (g19 316 0 (by decide)) (fun b => g19 3220 b (by decide)) (fun b => g19 3221 b (by decide)) (fun b => g19 3222 b (by decide)) (fun b => g19 361 b (by decide))
  have r26 := y_F.fr r15 (fun b => g19 3229 b (by decide)) (fun b => g19 3220 b (by decide))
  clear t11
  clear t12
  refine T_if1 (by decide +kernel) ?_
  refine T_let 3232 (by decide +kernel) ?_
  refine T_useI (sf_X12_more hfu s16 c17 a5 a6 (by omega) (by omega)) (fun v32 s27 hq => ?_)
  obtain ⟨c28, f29, ⟨x31, rfl, b33, b34, o35⟩⟩ := hq
  refine T_vI ?_
  have q36 := z_Fr.eq (fun a b h => h) f29
  subst q36
  refine T_leq (fun x37 e38 => ?_)
  first | (have w39 := z_wx e38 (by omega)) | (have w39 := z_wr e38)
  refine T_leq (fun x40 e41 => ?_)
  first | (have w42 := z_wx e41 (by omega)) | (have w42 := z_wr e41)
  refine T_useI (sf_X12_more hfu s16 c17 0 x40 (by omega) (by omega)) (fun v48 s43 hq => ?_)
  obtain ⟨c44, f45, ⟨x47, rfl, b49, b50, o51⟩⟩ := hq
  refine T_vI ?_
  have q52 := z_Fr.eq (fun a b h => h) f45
  subst q52
  refine T_if1 (z_ixl (n := 200) (by decide +kernel) (by omega) (by omega)) ?_
  refine T_upg c17 (bdr_3232 a3) (by omega) (fun s53 c54 g56 g57 e58 => ?_)
  have f55 := z_Fr.up (R := R_X12_laysBlocks_309) f18 g56 (fun _ => (⟨by decide, by decide⟩))
  have t59 : s53 309 20 = s 309 20 := (g56 309 20 (by decide)).trans t22
  have t60 : s53 316 0 = s 316 0 := (g56 316 0 (by decide)).trans t23
  have r61 := y_G.fr r24 (fun b => g56 3220 b (by decide))
  have r62 := y_B.fr r25 (g56 309 20 (by decide)) (g56 316 0 (by decide)) (fun b => g56 3220 b (by decide)) (fun b => g56 3221 b (by decide)) (fun b => g56 3222 b (by decide)) (fun b => g56 361 b (by decide))
  have r63 := y_F.fr r26 (fun b => g56 3229 b (by decide)) (fun b => g56 3220 b (by decide))
  clear t22
  clear t23
  refine T_if1 (by decide +kernel) ?_
  refine T_let 3230 (by decide +kernel) ?_
  refine T_if1 (by decide +kernel) ?_
  refine T_let 3232 (by decide +kernel) ?_
  refine T_if1 (z_ixl (n := 200) (by decide +kernel) (by omega) (by omega)) ?_
  refine T_leq (fun x64 e65 => ?_)
  have u66 := CI_b c54 (k := 3232) (j := a3) (bdr_3232 a3)
  refine T_if1 (by omega) ?_
  refine T_leq (fun x67 e68 => ?_)
  have w69 := z_wr e68
  refine T_if1 (z_ixl (n := 200) (by decide +kernel) (by omega) (by omega)) ?_
  refine T_upg c54 (bdr_3230 a3) (by omega) (fun s70 c71 g73 g74 e75 => ?_)
  have f72 := z_Fr.up (R := R_X12_laysBlocks_309) f55 g73 (fun _ => (⟨by decide, by decide⟩))
  have t76 : s70 309 20 = s 309 20 := (g73 309 20 (by decide)).trans t59
  have t77 : s70 316 0 = s 316 0 := (g73 316 0 (by decide)).trans t60
  have r78 := y_G.fr r61 (fun b => g73 3220 b (by decide))
  have r79 := y_B.fr r62 (g73 309 20 (by decide)) (g73 316 0 (by decide)) (fun b => g73 3220 b (by decide)) (fun b => g73 3221 b (by decide)) (fun b => g73 3222 b (by decide)) (fun b => g73 361 b (by decide))
  have r80 := y_F.fr r63 (fun b => g73 3229 b (by decide)) (fun b => g73 3220 b (by decide))
  clear t59
  clear t60
  refine T_if1 (by decide +kernel) ?_
  refine T_let 3231 (by decide +kernel) ?_
  refine T_leq (fun x81 e82 => ?_)
  first | (have w83 := z_wx e82 (by omega)) | (have w83 := z_wr e82)
  refine T_leq (fun x84 e85 => ?_)
  first | (have w86 := z_wx e85 (by omega)) | (have w86 := z_wr e85)
  refine T_if1 (by decide +kernel) ?_
  refine T_let 3232 (by decide +kernel) ?_
  refine T_if1 (z_ixl (n := 200) (by decide +kernel) (by omega) (by omega)) ?_
  refine T_leq (fun x87 e88 => ?_)
  have u89 := CI_b c71 (k := 3232) (j := a3) (bdr_3232 a3)
  refine T_if1 (by decide +kernel) ?_
  refine T_let 3232 (by decide +kernel) ?_
  refine T_if1 (z_ixl (n := 200) (by decide +kernel) (by omega) (by omega)) ?_
  refine T_leq (fun x90 e91 => ?_)
  have q92 : x87 = x90 := e88.symm.trans e91
  subst q92
  refine T_if1 (by omega) ?_
  refine T_leq (fun x93 e94 => ?_)
  have w95 := z_wr e94
  refine T_leq (fun x96 e97 => ?_)
  first | (have w98 := z_wx e97 (by omega)) | (have w98 := z_wr e97)
  refine T_if1 (z_ixl (n := 200) (by decide +kernel) (by omega) (by omega)) ?_
  refine T_upg c71 (bdr_3231 x84) (by omega) (fun s99 c100 g102 g103 e104 => ?_)
  have f101 := z_Fr.up (R := R_X12_laysBlocks_309) f72 g102 (fun _ => (⟨by decide, by decide⟩))
  have t105 : s99 309 20 = s 309 20 := (g102 309 20 (by decide)).trans t76
  have t106 : s99 316 0 = s 316 0 := (g102 316 0 (by decide)).trans t77
  have r107 := y_G.fr r78 (fun b => g102 3220 b (by decide))
  have r108 := y_B.fr r79 (g102 309 20 (by decide)) (g102 316 0 (by decide)) (fun b => g102 3220 b (by decide)) (fun b => g102 3221 b (by decide)) (fun b => g102 3222 b (by decide)) (fun b => g102 361 b (by decide))
  have r109 := y_F.fr r80 (fun b => g102 3229 b (by decide)) (fun b => g102 3220 b (by decide))
  clear t76
  clear t77
  refine T_leq (fun x110 e111 => ?_)
  have q112 : x81 = x110 := e82.symm.trans e111
  subst q112
  exact hr s99 x81 c100 f101 (by omega) (by omega) (by omega) (by first | exact y_F.cg r109 (by omega) (by omega) (by omega) | exact y_F.sk r109 (by omega) (by omega) (by omega) (by omega)) r108 (by omega) (by omega)
theorem sl_X12_laysBlocks_309_L50 {fu : Nat} (hfu : 8589934592 ≤ fu) (r0 : z_M) (a1 : Int) (a2 : Int) (b2 : 0 ≤ a2 ∧ a2 ≤ 199) {k : z_M → z_O} (hk : ∀ (s' : z_M), z_CI s' → z_Fr R_X12_laysBlocks_309 r0 s' → (y_E s' a1 a2) → z_T (k s') (P_X12_laysBlocks_309 r0 a1 a2)) : ∀ (F : Nat) (s : z_M) (a3 : Int), z_CI s → z_Fr R_X12_laysBlocks_309 r0 s → (0 ≤ a3 ∧ a3 ≤ 200) → (a1 ≤ a3) → (a3 ≤ a2 + 1) → (y_F s a1 a3 a2) → (y_B s) → (a2 < s 309 20) → (2147483647 - a3 < (F : Int)) → z_T (fX12_laysBlocks_L50 fu 309 a2 F s a3 k) (P_X12_laysBlocks_309 r0 a1 a2) := by
  intro F
  induction F with
  | zero =>
    intro s a3 c f b3 i0 i1 i2 i3 i4 hm
    have u34 := CI_b c (k := 309) (j := 20) bd_309_20
    have u35 := CI_b c (k := 316) (j := 0) bd_316_0
    exfalso; omega
  | succ F ih =>
    intro s a3 c f b3 i0 i1 i2 i3 i4 hm
    refine T_of (fX12_laysBlocks_L50.eq_2 ..) ?_
    have u1 := CI_b c (k := 309) (j := 20) bd_309_20
    have u2 := CI_b c (k := 316) (j := 0) bd_316_0
    have t3 : s 309 20 = r0 309 20 := f 309 20 (by decide)
    have t4 : s 316 0 = r0 316 0 := f 316 0 (by decide)
    refine T_ite (fun h5 => ?_) (fun h5 => ?_)
    · exact hk s c f (by first | exact y_F.E i2 (by omega) (by omega) (by omega))
    · refine T_if1 (by decide +kernel) ?_
      refine T_let 3220 (by decide +kernel) ?_
      refine T_if1 (z_ixl (n := 200) (by decide +kernel) (by omega) (by omega)) ?_
      refine T_leq (fun x6 e7 => ?_)
      have u8 := CI_b c (k := 3220) (j := a3) (bdr_3220 a3)
      refine T_ite (fun h9 => ?_) (fun h9 => ?_)
      · refine sl_X12_laysBlocks_309_L84 hfu r0 a1 a2 a3 (by omega) (by omega) (by omega) (fun s10 y13 y14 y15 y16 c11 f12 b17 b18 b19 b20 g21 g22 g23 g24 g25 g26 => ?_) fu s 0 0 0 0 c f (by omega) (by omega) (by omega) (by omega) (by omega) (by omega) (by omega) (by first | exact y_F.cg i2 (by omega) (by omega) (by omega) | exact y_F.sk i2 (by omega) (by omega) (by omega) (by omega)) (by first | exact y_G.z (by omega)) (by omega) i3 (by omega) (by omega)
        have u27 := CI_b c11 (k := 309) (j := 20) bd_309_20
        have u28 := CI_b c11 (k := 316) (j := 0) bd_316_0
        have t29 : s10 309 20 = r0 309 20 := f12 309 20 (by decide)
        have t30 : s10 316 0 = r0 316 0 := f12 316 0 (by decide)
        exact sj_X12_laysBlocks_309_J156 hfu r0 s10 c11 f12 a2 a3 y13 y14 y15 y16 a1 (by omega) (by omega) (by omega) (by omega) (by omega) (by omega) (by omega) (by omega) (by omega) (by first | exact y_F.cg g23 (by omega) (by omega) (by omega) | exact y_F.sk g23 (by omega) (by omega) (by omega) (by omega)) (by first | exact y_G.cg g24 (by omega) (by omega) | exact y_G.z (by omega)) g25 (by omega) (2147483647 - a3) (by omega) (fun s' v3 c' f' w3 z0 z1 z2 z3 z4 pg => ih s' v3 c' f' w3 z0 z1 z2 z3 z4 (by omega)) hk
      · refine T_leq (fun x31 e32 => ?_)
        first | (have w33 := z_wx e32 (by omega)) | (have w33 := z_wr e32)
        exact ih s x31 c f (by omega) (by omega) (by omega) (by first | exact y_F.cg i2 (by omega) (by omega) (by omega) | exact y_F.sk i2 (by omega) (by omega) (by omega) (by omega)) i3 (by omega) (by omega)
theorem sf_X12_laysBlocks_309 {fu : Nat} (hfu : 8589934592 ≤ fu) (r0 : z_M) (c0 : z_CI r0) (a1 : Int) (a2 : Int) (b1 : 0 ≤ a1 ∧ a1 ≤ 199) (b2 : 0 ≤ a2 ∧ a2 ≤ 199) (p0 : y_B r0) (p1 : a1 ≤ a2) (p2 : a2 < r0 309 20) : z_T (fX12_laysBlocks fu r0 309 a1 a2) (P_X12_laysBlocks_309 r0 a1 a2) := by
  refine T_of (fX12_laysBlocks.eq_1 ..) ?_
  have u1 := CI_b c0 (k := 309) (j := 20) bd_309_20
  have u2 := CI_b c0 (k := 316) (j := 0) bd_316_0
  refine sl_X12_laysBlocks_309_L2 hfu r0 a1 a2 (by omega) (by omega) (fun s3 c4 f5 g6 g7 g8 => ?_) fu r0 a1 c0 z_Fr.rf (by omega) (by omega) (by omega) (by first | exact y_Zr.z (by omega)) p0 (by omega) (by omega)
  have u9 := CI_b c4 (k := 309) (j := 20) bd_309_20
  have u10 := CI_b c4 (k := 316) (j := 0) bd_316_0
  have t11 : s3 309 20 = r0 309 20 := f5 309 20 (by decide)
  have t12 : s3 316 0 = r0 316 0 := f5 316 0 (by decide)
  refine sl_X12_laysBlocks_309_L50 hfu r0 a1 a2 (by omega) (fun s13 c14 f15 g16 => ?_) fu s3 a1 c4 f5 (by omega) (by omega) (by omega) (by first | exact y_F.of g6 (by omega) (by omega) (by omega)) g7 (by omega) (by omega)
  have u17 := CI_b c14 (k := 309) (j := 20) bd_309_20
  have u18 := CI_b c14 (k := 316) (j := 0) bd_316_0
  have t19 : s13 309 20 = r0 309 20 := f15 309 20 (by decide)
  have t20 : s13 316 0 = r0 316 0 := f15 316 0 (by decide)
  exact T_ret ⟨c14, f15, (by first | exact y_E.cg g16 (by omega) (by omega)), rfl⟩
abbrev R_X12_lends_309 (a b : Int) : Prop := False
abbrev P_X12_lends_309 (r0 : z_M) : z_V → z_M → Prop := fun v s' => z_CI s' ∧ z_Fr R_X12_lends_309 r0 s' ∧ (∃ x, v = vI x ∧ -2147483648 ≤ x ∧ x ≤ 2147483647)
theorem sj_X12_lends_309_J29 {fu : Nat} (hfu : 8589934592 ≤ fu) (r0 s : z_M) (c : z_CI s) (f : z_Fr R_X12_lends_309 r0 s) : z_T (fX12_lends_J29 fu s 309) (P_X12_lends_309 r0) := by
  have qf := z_Fr.eq (fun a b h => h) f
  subst qf
  refine T_of (fX12_lends_J29.eq_1 ..) ?_
  refine T_if1 (by decide +kernel) ?_
  refine T_let 312 (by decide +kernel) ?_
  refine T_if1 (z_ixl (n := 9) (by decide +kernel) (by omega) (by omega)) ?_
  refine T_leq (fun x1 e2 => ?_)
  have u3 := CI_b c (k := 312) (j := 2) (bdr_312 2)
  exact T_ret ⟨c, f, ⟨x1, rfl, by omega, by omega⟩⟩
theorem sj_X12_lends_309_J73 {fu : Nat} (hfu : 8589934592 ≤ fu) (r0 s : z_M) (c : z_CI s) (f : z_Fr R_X12_lends_309 r0 s) (t0 : Int) (d0 : -2147483648 ≤ t0 ∧ t0 ≤ 2147483647) : z_T (fX12_lends_J73 fu s t0) (P_X12_lends_309 r0) := by
  have qf := z_Fr.eq (fun a b h => h) f
  subst qf
  refine T_of (fX12_lends_J73.eq_1 ..) ?_
  exact T_ret ⟨c, f, ⟨t0, rfl, by omega, by omega⟩⟩
theorem sf_X12_lends_309 {fu : Nat} (hfu : 8589934592 ≤ fu) (r0 : z_M) (c0 : z_CI r0) (a1 : Int) (a2 : Int) (b1 : 0 ≤ a1 ∧ a1 ≤ 199) (b2 : 0 ≤ a2 ∧ a2 ≤ 1) : z_T (fX12_lends fu r0 309 a1 a2) (P_X12_lends_309 r0) := by
  refine T_of (fX12_lends.eq_1 ..) ?_
  refine T_if1 (by decide +kernel) ?_
  refine T_let 3220 (by decide +kernel) ?_
  refine T_if1 (z_ixl (n := 200) (by decide +kernel) (by omega) (by omega)) ?_
  refine T_leq (fun x1 e2 => ?_)
  have u3 := CI_b c0 (k := 3220) (j := a1) (bdr_3220 a1)
  refine T_ite (fun h4 => ?_) (fun h4 => ?_)
  · exact sj_X12_lends_309_J29 hfu r0 r0 c0 z_Fr.rf
  · refine T_if1 (by decide +kernel) ?_
    refine T_let 3220 (by decide +kernel) ?_
    refine T_if1 (z_ixl (n := 200) (by decide +kernel) (by omega) (by omega)) ?_
    refine T_leq (fun x5 e6 => ?_)
    have q7 : x1 = x5 := e2.symm.trans e6
    subst q7
    refine T_ite (fun h8 => ?_) (fun h8 => ?_)
    · exact sj_X12_lends_309_J29 hfu r0 r0 c0 z_Fr.rf
    · refine T_if1 (by decide +kernel) ?_
      refine T_let 3220 (by decide +kernel) ?_
      refine T_if1 (z_ixl (n := 200) (by decide +kernel) (by omega) (by omega)) ?_
      refine T_leq (fun x9 e10 => ?_)
      have q11 : x1 = x9 := e2.symm.trans e10
      subst q11
      refine T_ite (fun h12 => ?_) (fun h12 => ?_)
      · refine T_if1 (by decide +kernel) ?_
        refine T_let 3220 (by decide +kernel) ?_
        refine T_if1 (z_ixl (n := 200) (by decide +kernel) (by omega) (by omega)) ?_
        refine T_leq (fun x13 e14 => ?_)
        have q15 : x1 = x13 := e2.symm.trans e14
        subst q15
        refine T_ite (fun h16 => ?_) (fun h16 => ?_)
        · refine T_ite (fun h17 => ?_) (fun h17 => ?_)
          · refine T_if1 (by decide +kernel) ?_
            refine T_let 3225 (by decide +kernel) ?_
            refine T_if1 (z_ixl (n := 200) (by decide +kernel) (by omega) (by omega)) ?_
            refine T_leq (fun x18 e19 => ?_)
            have u20 := CI_b c0 (k := 3225) (j := a1) (bdr_3225 a1)
            exact sj_X12_lends_309_J73 hfu r0 r0 c0 z_Fr.rf x18 (by omega)
          · refine T_if1 (by decide +kernel) ?_
            refine T_let 3226 (by decide +kernel) ?_
            refine T_if1 (z_ixl (n := 200) (by decide +kernel) (by omega) (by omega)) ?_
            refine T_leq (fun x21 e22 => ?_)
            have u23 := CI_b c0 (k := 3226) (j := a1) (bdr_3226 a1)
            exact sj_X12_lends_309_J73 hfu r0 r0 c0 z_Fr.rf x21 (by omega)
        · refine T_if1 (by decide +kernel) ?_
          refine T_let 3224 (by decide +kernel) ?_
          refine T_if1 (z_ixl (n := 200) (by decide +kernel) (by omega) (by omega)) ?_
          refine T_leq (fun x24 e25 => ?_)
          have u26 := CI_b c0 (k := 3224) (j := a1) (bdr_3224 a1)
          exact T_ret ⟨c0, z_Fr.rf, ⟨x24, rfl, by omega, by omega⟩⟩
      · exact sj_X12_lends_309_J29 hfu r0 r0 c0 z_Fr.rf
abbrev R_X12_mayAhead_309 (a b : Int) : Prop := False
abbrev P_X12_mayAhead_309 (r0 : z_M) : z_V → z_M → Prop := fun v s' => z_CI s' ∧ z_Fr R_X12_mayAhead_309 r0 s' ∧ (∃ x, v = vI x ∧ -2147483648 ≤ x ∧ x ≤ 2147483647)
theorem sj_X12_mayAhead_309_J57 {fu : Nat} (hfu : 8589934592 ≤ fu) (r0 s : z_M) (c : z_CI s) (f : z_Fr R_X12_mayAhead_309 r0 s) (t0 : Int) (d0 : -2147483648 ≤ t0 ∧ t0 ≤ 2147483647) : z_T (fX12_mayAhead_J57 fu s t0) (P_X12_mayAhead_309 r0) := by
  have qf := z_Fr.eq (fun a b h => h) f
  subst qf
  refine T_of (fX12_mayAhead_J57.eq_1 ..) ?_
  exact T_ret ⟨c, f, ⟨t0, rfl, by omega, by omega⟩⟩
theorem sj_X12_mayAhead_309_J55 {fu : Nat} (hfu : 8589934592 ≤ fu) (r0 s : z_M) (c : z_CI s) (f : z_Fr R_X12_mayAhead_309 r0 s) (a4 : Int) (b4 : -2147483648 ≤ a4 ∧ a4 ≤ 2147483647) : z_T (fX12_mayAhead_J55 fu s a4) (P_X12_mayAhead_309 r0) := by
  have qf := z_Fr.eq (fun a b h => h) f
  subst qf
  refine T_of (fX12_mayAhead_J55.eq_1 ..) ?_
  exact sj_X12_mayAhead_309_J57 hfu r0 r0 c f a4 (by omega)
theorem sf_X12_mayAhead_309 {fu : Nat} (hfu : 8589934592 ≤ fu) (r0 : z_M) (c0 : z_CI r0) (a1 : Int) (a2 : Int) (a3 : Int) (b1 : 0 ≤ a1 ∧ a1 ≤ 199) (b2 : 0 ≤ a2 ∧ a2 ≤ 199) (b3 : 0 ≤ a3 ∧ a3 ≤ 199) (p0 : a2 ≤ a1) : z_T (fX12_mayAhead fu r0 309 a1 a2 a3) (P_X12_mayAhead_309 r0) := by
  refine T_of (fX12_mayAhead.eq_1 ..) ?_
  refine T_ite (fun h1 => ?_) (fun h1 => ?_)
  · refine T_leq (fun x2 e3 => ?_)
    first | (have w4 := z_wx e3 (by omega)) | (have w4 := z_wr e3)
    refine T_if1 (by decide +kernel) ?_
    refine T_useI (sf_X12_lends_309 hfu r0 c0 x2 1 (by omega) (by omega)) (fun v10 s5 hq => ?_)
    obtain ⟨c6, f7, ⟨x9, rfl, b11, b12⟩⟩ := hq
    refine T_vI ?_
    have q13 := z_Fr.eq (fun a b h => h) f7
    subst q13
    refine T_leq (fun x14 e15 => ?_)
    first | (have w16 := z_wx e15 (by omega)) | (have w16 := z_wr e15)
    refine T_ite (fun h17 => ?_) (fun h17 => ?_)
    · exact sj_X12_mayAhead_309_J55 hfu r0 r0 c0 z_Fr.rf x9 (by omega)
    · refine T_if1 (by decide +kernel) ?_
      refine T_let 3220 (by decide +kernel) ?_
      refine T_leq (fun x18 e19 => ?_)
      have q20 : x2 = x18 := e3.symm.trans e19
      subst q20
      refine T_if1 (z_ixl (n := 200) (by decide +kernel) (by omega) (by omega)) ?_
      refine T_leq (fun x21 e22 => ?_)
      have u23 := CI_b c0 (k := 3220) (j := x2) (bdr_3220 x2)
      refine T_ite (fun h24 => ?_) (fun h24 => ?_)
      · exact sj_X12_mayAhead_309_J55 hfu r0 r0 c0 z_Fr.rf x9 (by omega)
      · refine T_if1 (by decide +kernel) ?_
        refine T_let 3231 (by decide +kernel) ?_
        refine T_leq (fun x25 e26 => ?_)
        have q27 : x14 = x25 := e15.symm.trans e26
        subst q27
        refine T_if1 (z_ixl (n := 200) (by decide +kernel) (by omega) (by omega)) ?_
        refine T_leq (fun x28 e29 => ?_)
        have u30 := CI_b c0 (k := 3231) (j := x14) (bdr_3231 x14)
        refine T_ite (fun h31 => ?_) (fun h31 => ?_)
        · exact sj_X12_mayAhead_309_J55 hfu r0 r0 c0 z_Fr.rf x9 (by omega)
        · refine T_if1 (by omega) ?_
          refine T_leq (fun x32 e33 => ?_)
          have w34 := z_wr e33
          exact sj_X12_mayAhead_309_J57 hfu r0 r0 c0 z_Fr.rf x32 (by omega)
  · exact T_ret ⟨c0, z_Fr.rf, ⟨0, rfl, by omega, by omega⟩⟩
abbrev R_X12_mayBehind_309 (a b : Int) : Prop := False
abbrev P_X12_mayBehind_309 (r0 : z_M) : z_V → z_M → Prop := fun v s' => z_CI s' ∧ z_Fr R_X12_mayBehind_309 r0 s' ∧ (∃ x, v = vI x ∧ -2147483648 ≤ x ∧ x ≤ 2147483647)
theorem sj_X12_mayBehind_309_J57 {fu : Nat} (hfu : 8589934592 ≤ fu) (r0 s : z_M) (c : z_CI s) (f : z_Fr R_X12_mayBehind_309 r0 s) (t0 : Int) (d0 : -2147483648 ≤ t0 ∧ t0 ≤ 2147483647) : z_T (fX12_mayBehind_J57 fu s t0) (P_X12_mayBehind_309 r0) := by
  have qf := z_Fr.eq (fun a b h => h) f
  subst qf
  refine T_of (fX12_mayBehind_J57.eq_1 ..) ?_
  exact T_ret ⟨c, f, ⟨t0, rfl, by omega, by omega⟩⟩
theorem sj_X12_mayBehind_309_J55 {fu : Nat} (hfu : 8589934592 ≤ fu) (r0 s : z_M) (c : z_CI s) (f : z_Fr R_X12_mayBehind_309 r0 s) (a4 : Int) (b4 : -2147483648 ≤ a4 ∧ a4 ≤ 2147483647) : z_T (fX12_mayBehind_J55 fu s a4) (P_X12_mayBehind_309 r0) := by
  have qf := z_Fr.eq (fun a b h => h) f
  subst qf
  refine T_of (fX12_mayBehind_J55.eq_1 ..) ?_
  exact sj_X12_mayBehind_309_J57 hfu r0 r0 c f a4 (by omega)
theorem sf_X12_mayBehind_309 {fu : Nat} (hfu : 8589934592 ≤ fu) (r0 : z_M) (c0 : z_CI r0) (a1 : Int) (a2 : Int) (a3 : Int) (b1 : 0 ≤ a1 ∧ a1 ≤ 199) (b2 : 0 ≤ a2 ∧ a2 ≤ 199) (b3 : 0 ≤ a3 ∧ a3 ≤ 199) (p0 : a1 ≤ a3) : z_T (fX12_mayBehind fu r0 309 a1 a2 a3) (P_X12_mayBehind_309 r0) := by
  refine T_of (fX12_mayBehind.eq_1 ..) ?_
  refine T_ite (fun h1 => ?_) (fun h1 => ?_)
  · refine T_leq (fun x2 e3 => ?_)
    first | (have w4 := z_wx e3 (by omega)) | (have w4 := z_wr e3)
    refine T_if1 (by decide +kernel) ?_
    refine T_useI (sf_X12_lends_309 hfu r0 c0 x2 0 (by omega) (by omega)) (fun v10 s5 hq => ?_)
    obtain ⟨c6, f7, ⟨x9, rfl, b11, b12⟩⟩ := hq
    refine T_vI ?_
    have q13 := z_Fr.eq (fun a b h => h) f7
    subst q13
    refine T_leq (fun x14 e15 => ?_)
    first | (have w16 := z_wx e15 (by omega)) | (have w16 := z_wr e15)
    refine T_ite (fun h17 => ?_) (fun h17 => ?_)
    · exact sj_X12_mayBehind_309_J55 hfu r0 r0 c0 z_Fr.rf x9 (by omega)
    · refine T_if1 (by decide +kernel) ?_
      refine T_let 3220 (by decide +kernel) ?_
      refine T_leq (fun x18 e19 => ?_)
      have q20 : x2 = x18 := e3.symm.trans e19
      subst q20
      refine T_if1 (z_ixl (n := 200) (by decide +kernel) (by omega) (by omega)) ?_
      refine T_leq (fun x21 e22 => ?_)
      have u23 := CI_b c0 (k := 3220) (j := x2) (bdr_3220 x2)
      refine T_ite (fun h24 => ?_) (fun h24 => ?_)
      · exact sj_X12_mayBehind_309_J55 hfu r0 r0 c0 z_Fr.rf x9 (by omega)
      · refine T_if1 (by decide +kernel) ?_
        refine T_let 3230 (by decide +kernel) ?_
        refine T_leq (fun x25 e26 => ?_)
        have q27 : x14 = x25 := e15.symm.trans e26
        subst q27
        refine T_if1 (z_ixl (n := 200) (by decide +kernel) (by omega) (by omega)) ?_
        refine T_leq (fun x28 e29 => ?_)
        have u30 := CI_b c0 (k := 3230) (j := x14) (bdr_3230 x14)
        refine T_ite (fun h31 => ?_) (fun h31 => ?_)
        · exact sj_X12_mayBehind_309_J55 hfu r0 r0 c0 z_Fr.rf x9 (by omega)
        · refine T_if1 (by omega) ?_
          refine T_leq (fun x32 e33 => ?_)
          have w34 := z_wr e33
          exact sj_X12_mayBehind_309_J57 hfu r0 r0 c0 z_Fr.rf x32 (by omega)
  · exact T_ret ⟨c0, z_Fr.rf, ⟨0, rfl, by omega, by omega⟩⟩
abbrev R_X12_lays_309 (a b : Int) : Prop := (3224 ≤ a ∧ a ≤ 3233) ∨ (a = 309 ∧ (b = 35))
abbrev P_X12_lays_309 (r0 : z_M) (a1 : Int) (a2 : Int) : z_V → z_M → Prop := fun v s' => z_CI s' ∧ z_Fr R_X12_lays_309 r0 s' ∧ (y_E s' a1 a2) ∧ (∃ x, v = vI x ∧ -2147483648 ≤ x ∧ x ≤ 2147483647)
theorem rs_X12_laysSpaces_309__X12_lays_309 (a b : Int) (h : R_X12_laysSpaces_309 a b) : R_X12_lays_309 a b := (h.elim (fun h => (Or.inl (⟨by omega, by omega⟩))) (fun h => (Or.inr (⟨h.1, by omega⟩))))
theorem nr_X12_laysSpaces_309__3220 (b : Int) : ¬ R_X12_laysSpaces_309 3220 b := by
  unfold R_X12_laysSpaces_309; omega
theorem nr_X12_laysSpaces_309__3221 (b : Int) : ¬ R_X12_laysSpaces_309 3221 b := by
  unfold R_X12_laysSpaces_309; omega
theorem nr_X12_laysSpaces_309__3222 (b : Int) : ¬ R_X12_laysSpaces_309 3222 b := by
  unfold R_X12_laysSpaces_309; omega
theorem nr_X12_laysSpaces_309__361 (b : Int) : ¬ R_X12_laysSpaces_309 361 b := by
  unfold R_X12_laysSpaces_309; omega
theorem rs_X12_laysBlocks_309__X12_lays_309 (a b : Int) (h : R_X12_laysBlocks_309 a b) : R_X12_lays_309 a b := (Or.inl (⟨by omega, by omega⟩))
theorem nr_X12_laysBlocks_309__3220 (b : Int) : ¬ R_X12_laysBlocks_309 3220 b := by
  unfold R_X12_laysBlocks_309; omega
theorem nr_X12_laysBlocks_309__3221 (b : Int) : ¬ R_X12_laysBlocks_309 3221 b := by
  unfold R_X12_laysBlocks_309; omega
theorem nr_X12_laysBlocks_309__3222 (b : Int) : ¬ R_X12_laysBlocks_309 3222 b := by
  unfold R_X12_laysBlocks_309; omega
theorem nr_X12_laysBlocks_309__361 (b : Int) : ¬ R_X12_laysBlocks_309 361 b := by
  unfold R_X12_laysBlocks_309; omega
theorem sj_X12_lays_309_J97 {fu : Nat} (hfu : 8589934592 ≤ fu) (r0 s : z_M) (c : z_CI s) (f : z_Fr R_X12_lays_309 r0 s) (a1 : Int) (a2 : Int) (a3 : Int) (a4 : Int) (b1 : 0 ≤ a1 ∧ a1 ≤ 199) (b2 : 0 ≤ a2 ∧ a2 ≤ 199) (b3 : -2147483648 ≤ a3 ∧ a3 ≤ 2147483647) (b4 : 0 ≤ a4 ∧ a4 ≤ 199) (p0 : a1 ≤ a4) (p1 : a4 ≤ a2) (p2 : y_E s a1 a2) (M : Int) (pm : 2147483647 - a4 ≤ M) {r : z_M → Int → Int → z_O} {k : z_M → Int → z_O} (hr : ∀ (s' : z_M) (v3 : Int) (v4 : Int), z_CI s' → z_Fr R_X12_lays_309 r0 s' → (-2147483648 ≤ v3 ∧ v3 ≤ 2147483647) → (0 ≤ v4 ∧ v4 ≤ 200) → (a1 ≤ v4) → (v4 ≤ a2 + 1) → (y_E s' a1 a2) → (2147483647 - v4 < M) → z_T (r s' v3 v4) (P_X12_lays_309 r0 a1 a2)) (hk : ∀ (s' : z_M) (v3 : Int), z_CI s' → z_Fr R_X12_lays_309 r0 s' → (-2147483648 ≤ v3 ∧ v3 ≤ 2147483647) → (y_E s' a1 a2) → z_T (k s' v3) (P_X12_lays_309 r0 a1 a2)) : z_T (fX12_lays_J97 fu s 309 a1 a2 a3 a4 r k) (P_X12_lays_309 r0 a1 a2) := by
  refine T_of (fX12_lays_J97.eq_1 ..) ?_
  have u1 := CI_b c (k := 309) (j := 20) bd_309_20
  have u2 := CI_b c (k := 316) (j := 0) bd_316_0
  have t3 : s 309 20 = r0 309 20 := f 309 20 (by decide)
  have t4 : s 316 0 = r0 316 0 := f 316 0 (by decide)
  refine T_if1 (by decide +kernel) ?_
  refine T_let 3224 (by decide +kernel) ?_
  refine T_if1 (z_ixl (n := 200) (by decide +kernel) (by omega) (by omega)) ?_
  refine T_leq (fun x5 e6 => ?_)
  have u7 := CI_b c (k := 3224) (j := a4) (bdr_3224 a4)
  refine T_if1 (by decide +kernel) ?_
  refine T_let 3225 (by decide +kernel) ?_
  refine T_if1 (z_ixl (n := 200) (by decide +kernel) (by omega) (by omega)) ?_
  refine T_leq (fun x8 e9 => ?_)
  have u10 := CI_b c (k := 3225) (j := a4) (bdr_3225 a4)
  refine T_leq (fun x11 e12 => ?_)
  first | (have w13 := z_wx e12 (by omega)) | (have w13 := z_wr e12)
  refine T_if1 (by decide +kernel) ?_
  refine T_let 3226 (by decide +kernel) ?_
  refine T_if1 (z_ixl (n := 200) (by decide +kernel) (by omega) (by omega)) ?_
  refine T_leq (fun x14 e15 => ?_)
  have u16 := CI_b c (k := 3226) (j := a4) (bdr_3226 a4)
  refine T_leq (fun x17 e18 => ?_)
  first | (have w19 := z_wx e18 (by omega)) | (have w19 := z_wr e18)
  refine T_if1 (by decide +kernel) ?_
  refine T_let 3227 (by decide +kernel) ?_
  refine T_if1 (z_ixl (n := 200) (by decide +kernel) (by omega) (by omega)) ?_
  refine T_leq (fun x20 e21 => ?_)
  have u22 := CI_b c (k := 3227) (j := a4) (bdr_3227 a4)
  refine T_leq (fun x23 e24 => ?_)
  first | (have w25 := z_wx e24 (by omega)) | (have w25 := z_wr e24)
  refine T_if1 (by decide +kernel) ?_
  refine T_let 3228 (by decide +kernel) ?_
  refine T_if1 (z_ixl (n := 200) (by decide +kernel) (by omega) (by omega)) ?_
  refine T_leq (fun x26 e27 => ?_)
  have u28 := CI_b c (k := 3228) (j := a4) (bdr_3228 a4)
  refine T_leq (fun x29 e30 => ?_)
  first | (have w31 := z_wx e30 (by omega)) | (have w31 := z_wr e30)
  refine T_leq (fun x32 e33 => ?_)
  first | (have w34 := z_wx e33 (by omega)) | (have w34 := z_wr e33)
  refine T_leq (fun x35 e36 => ?_)
  first | (have w37 := z_wx e36 (by omega)) | (have w37 := z_wr e36)
  exact hr s x32 x35 c f (by omega) (by omega) (by omega) (by omega) (by first | exact y_E.cg p2 (by omega) (by omega)) (by omega)
theorem sj_X12_lays_309_J60 {fu : Nat} (hfu : 8589934592 ≤ fu) (r0 s : z_M) (c : z_CI s) (f : z_Fr R_X12_lays_309 r0 s) (a1 : Int) (a2 : Int) (a3 : Int) (a4 : Int) (b1 : 0 ≤ a1 ∧ a1 ≤ 199) (b2 : 0 ≤ a2 ∧ a2 ≤ 199) (b3 : -2147483648 ≤ a3 ∧ a3 ≤ 2147483647) (b4 : 0 ≤ a4 ∧ a4 ≤ 199) (p0 : a1 ≤ a4) (p1 : a4 ≤ a2) (p2 : y_E s a1 a2) (M : Int) (pm : 2147483647 - a4 ≤ M) {r : z_M → Int → Int → z_O} {k : z_M → Int → z_O} (hr : ∀ (s' : z_M) (v3 : Int) (v4 : Int), z_CI s' → z_Fr R_X12_lays_309 r0 s' → (-2147483648 ≤ v3 ∧ v3 ≤ 2147483647) → (0 ≤ v4 ∧ v4 ≤ 200) → (a1 ≤ v4) → (v4 ≤ a2 + 1) → (y_E s' a1 a2) → (2147483647 - v4 < M) → z_T (r s' v3 v4) (P_X12_lays_309 r0 a1 a2)) (hk : ∀ (s' : z_M) (v3 : Int), z_CI s' → z_Fr R_X12_lays_309 r0 s' → (-2147483648 ≤ v3 ∧ v3 ≤ 2147483647) → (y_E s' a1 a2) → z_T (k s' v3) (P_X12_lays_309 r0 a1 a2)) : z_T (fX12_lays_J60 fu s 309 a1 a2 a3 a4 r k) (P_X12_lays_309 r0 a1 a2) := by
  refine T_of (fX12_lays_J60.eq_1 ..) ?_
  have u1 := CI_b c (k := 309) (j := 20) bd_309_20
  have u2 := CI_b c (k := 316) (j := 0) bd_316_0
  have t3 : s 309 20 = r0 309 20 := f 309 20 (by decide)
  have t4 : s 316 0 = r0 316 0 := f 316 0 (by decide)
  refine T_if1 (by decide +kernel) ?_
  refine T_let 3231 (by decide +kernel) ?_
  refine T_if1 (z_ixl (n := 200) (by decide +kernel) (by omega) (by omega)) ?_
  refine T_leq (fun x5 e6 => ?_)
  have u7 := CI_b c (k := 3231) (j := a4) (bdr_3231 a4)
  refine T_ite (fun h8 => ?_) (fun h8 => ?_)
  · exact sj_X12_lays_309_J97 hfu r0 s c f a1 a2 a3 a4 (by omega) (by omega) (by omega) (by omega) (by omega) (by omega) (by first | exact y_E.cg p2 (by omega) (by omega)) M (by omega) (fun s' v3 v4 c' f' w3 w4 z0 z1 z2 pg => hr s' v3 v4 c' f' w3 w4 z0 z1 z2 (by omega)) hk
  · refine T_if1 (by decide +kernel) ?_
    refine T_let 3228 (by decide +kernel) ?_
    refine T_if1 (by decide +kernel) ?_
    refine T_let 3231 (by decide +kernel) ?_
    refine T_if1 (z_ixl (n := 200) (by decide +kernel) (by omega) (by omega)) ?_
    refine T_leq (fun x9 e10 => ?_)
    have q11 : x5 = x9 := e6.symm.trans e10
    subst q11
    refine T_if1 (by decide +kernel) ?_
    refine T_useI (sf_X12_mayBehind_309 hfu s c a4 a1 a2 (by omega) (by omega) (by omega) (by omega)) (fun v17 s12 hq => ?_)
    obtain ⟨c13, f14, ⟨x16, rfl, b18, b19⟩⟩ := hq
    refine T_vI ?_
    have q20 := z_Fr.eq (fun a b h => h) f14
    subst q20
    refine T_leq (fun x21 e22 => ?_)
    first | (have w23 := z_wx e22 (by omega)) | (have w23 := z_wr e22)
    refine T_useI (sf_X12_more hfu s c 0 x21 (by omega) (by omega)) (fun v29 s24 hq => ?_)
    obtain ⟨c25, f26, ⟨x28, rfl, b30, b31, o32⟩⟩ := hq
    refine T_vI ?_
    have q33 := z_Fr.eq (fun a b h => h) f26
    subst q33
    refine T_if1 (z_ixl (n := 200) (by decide +kernel) (by omega) (by omega)) ?_
    refine T_upg c (bdr_3228 a4) (by omega) (fun s34 c35 g37 g38 e39 => ?_)
    have f36 := z_Fr.up (R := R_X12_lays_309) f g37 (fun _ => (Or.inl (⟨by decide, by decide⟩)))
    have t40 : s34 309 20 = s 309 20 := g37 309 20 (by decide)
    have t41 : s34 316 0 = s 316 0 := g37 316 0 (by decide)
    have r42 := y_E.fr p2 (fun b => g37 3229 b (by decide)) (fun b => g37 3220 b (by decide))
    exact sj_X12_lays_309_J97 hfu r0 s34 c35 f36 a1 a2 a3 a4 (by omega) (by omega) (by omega) (by omega) (by omega) (by omega) (by first | exact y_E.cg r42 (by omega) (by omega)) M (by omega) (fun s' v3 v4 c' f' w3 w4 z0 z1 z2 pg => hr s' v3 v4 c' f' w3 w4 z0 z1 z2 (by omega)) hk
theorem sl_X12_lays_309_L17 {fu : Nat} (hfu : 8589934592 ≤ fu) (r0 : z_M) (a1 : Int) (a2 : Int) (b1 : 0 ≤ a1 ∧ a1 ≤ 199) (b2 : 0 ≤ a2 ∧ a2 ≤ 199) {k : z_M → Int → z_O} (hk : ∀ (s' : z_M) (v3 : Int), z_CI s' → z_Fr R_X12_lays_309 r0 s' → (-2147483648 ≤ v3 ∧ v3 ≤ 2147483647) → (y_E s' a1 a2) → z_T (k s' v3) (P_X12_lays_309 r0 a1 a2)) : ∀ (F : Nat) (s : z_M) (a3 : Int) (a4 : Int), z_CI s → z_Fr R_X12_lays_309 r0 s → (-2147483648 ≤ a3 ∧ a3 ≤ 2147483647) → (0 ≤ a4 ∧ a4 ≤ 200) → (a1 ≤ a4) → (a4 ≤ a2 + 1) → (y_E s a1 a2) → (2147483647 - a4 < (F : Int)) → z_T (fX12_lays_L17 fu 309 a1 a2 F s a3 a4 k) (P_X12_lays_309 r0 a1 a2) := by
  intro F
  induction F with
  | zero =>
    intro s a3 a4 c f b3 b4 i0 i1 i2 hm
    have u44 := CI_b c (k := 309) (j := 20) bd_309_20
    have u45 := CI_b c (k := 316) (j := 0) bd_316_0
    exfalso; omega
  | succ F ih =>
    intro s a3 a4 c f b3 b4 i0 i1 i2 hm
    refine T_of (fX12_lays_L17.eq_2 ..) ?_
    have u1 := CI_b c (k := 309) (j := 20) bd_309_20
    have u2 := CI_b c (k := 316) (j := 0) bd_316_0
    have t3 : s 309 20 = r0 309 20 := f 309 20 (by decide)
    have t4 : s 316 0 = r0 316 0 := f 316 0 (by decide)
    refine T_ite (fun h5 => ?_) (fun h5 => ?_)
    · exact hk s a3 c f (by omega) (by first | exact y_E.cg i2 (by omega) (by omega))
    · refine T_if1 (by decide +kernel) ?_
      refine T_let 3230 (by decide +kernel) ?_
      refine T_if1 (z_ixl (n := 200) (by decide +kernel) (by omega) (by omega)) ?_
      refine T_leq (fun x6 e7 => ?_)
      have u8 := CI_b c (k := 3230) (j := a4) (bdr_3230 a4)
      refine T_ite (fun h9 => ?_) (fun h9 => ?_)
      · exact sj_X12_lays_309_J60 hfu r0 s c f a1 a2 a3 a4 (by omega) (by omega) (by omega) (by omega) (by omega) (by omega) (by first | exact y_E.cg i2 (by omega) (by omega)) (2147483647 - a4) (by omega) (fun s' v3 v4 c' f' w3 w4 z0 z1 z2 pg => ih s' v3 v4 c' f' w3 w4 z0 z1 z2 (by omega)) hk
      · refine T_if1 (by decide +kernel) ?_
        refine T_let 3227 (by decide +kernel) ?_
        refine T_if1 (by decide +kernel) ?_
        refine T_let 3230 (by decide +kernel) ?_
        refine T_if1 (z_ixl (n := 200) (by decide +kernel) (by omega) (by omega)) ?_
        refine T_leq (fun x10 e11 => ?_)
        have q12 : x6 = x10 := e7.symm.trans e11
        subst q12
        refine T_if1 (by decide +kernel) ?_
        refine T_useI (sf_X12_mayAhead_309 hfu s c a4 a1 a2 (by omega) (by omega) (by omega) (by omega)) (fun v18 s13 hq => ?_)
        obtain ⟨c14, f15, ⟨x17, rfl, b19, b20⟩⟩ := hq
        refine T_vI ?_
        have q21 := z_Fr.eq (fun a b h => h) f15
        subst q21
        refine T_leq (fun x22 e23 => ?_)
        first | (have w24 := z_wx e23 (by omega)) | (have w24 := z_wr e23)
        refine T_useI (sf_X12_more hfu s c 0 x22 (by omega) (by omega)) (fun v30 s25 hq => ?_)
        obtain ⟨c26, f27, ⟨x29, rfl, b31, b32, o33⟩⟩ := hq
        refine T_vI ?_
        have q34 := z_Fr.eq (fun a b h => h) f27
        subst q34
        refine T_if1 (z_ixl (n := 200) (by decide +kernel) (by omega) (by omega)) ?_
        refine T_upg c (bdr_3227 a4) (by omega) (fun s35 c36 g38 g39 e40 => ?_)
        have f37 := z_Fr.up (R := R_X12_lays_309) f g38 (fun _ => (Or.inl (⟨by decide, by decide⟩)))
        have t41 : s35 309 20 = s 309 20 := g38 309 20 (by decide)
        have t42 : s35 316 0 = s 316 0 := g38 316 0 (by decide)
        have r43 := y_E.fr i2 (fun b => g38 3229 b (by decide)) (fun b => g38 3220 b (by decide))
        exact sj_X12_lays_309_J60 hfu r0 s35 c36 f37 a1 a2 a3 a4 (by omega) (by omega) (by omega) (by omega) (by omega) (by omega) (by first | exact y_E.cg r43 (by omega) (by omega)) (2147483647 - a4) (by omega) (fun s' v3 v4 c' f' w3 w4 z0 z1 z2 pg => ih s' v3 v4 c' f' w3 w4 z0 z1 z2 (by omega)) hk
theorem sf_X12_lays_309 {fu : Nat} (hfu : 8589934592 ≤ fu) (r0 : z_M) (c0 : z_CI r0) (a1 : Int) (a2 : Int) (b1 : 0 ≤ a1 ∧ a1 ≤ 199) (b2 : 0 ≤ a2 ∧ a2 ≤ 199) (p0 : y_B r0) (p1 : a1 ≤ a2) (p2 : a2 < r0 309 20) : z_T (fX12_lays fu r0 309 a1 a2) (P_X12_lays_309 r0 a1 a2) := by
  refine T_of (fX12_lays.eq_1 ..) ?_
  have u1 := CI_b c0 (k := 309) (j := 20) bd_309_20
  have u2 := CI_b c0 (k := 316) (j := 0) bd_316_0
  refine T_if1 (by decide +kernel) ?_
  refine T_useN (sf_X12_laysSpaces_309 hfu r0 c0 a1 a2 (by omega) (by omega) p0 (by omega) (by omega)) (fun v8 s3 hq => ?_)
  obtain ⟨c4, f5, rfl⟩ := hq
  refine T_vN ?_
  have f6 := z_Fr.tr (R := R_X12_lays_309) z_Fr.rf f5 rs_X12_laysSpaces_309__X12_lays_309
  have t11 : s3 309 20 = r0 309 20 := f5 309 20 (by decide)
  have t12 : s3 316 0 = r0 316 0 := f5 316 0 (by decide)
  have r13 := y_B.fr p0 (f5 309 20 (by decide)) (f5 316 0 (by decide)) (fun b => f5 3220 b (nr_X12_laysSpaces_309__3220 b)) (fun b => f5 3221 b (nr_X12_laysSpaces_309__3221 b)) (fun b => f5 3222 b (nr_X12_laysSpaces_309__3222 b)) (fun b => f5 361 b (nr_X12_laysSpaces_309__361 b))
  refine T_if1 (by decide +kernel) ?_
  refine T_useN (sf_X12_laysBlocks_309 hfu s3 c4 a1 a2 (by omega) (by omega) r13 (by omega) (by omega)) (fun v19 s14 hq => ?_)
  obtain ⟨c15, f16, o20, rfl⟩ := hq
  refine T_vN ?_
  have f17 := z_Fr.tr (R := R_X12_lays_309) f6 f16 rs_X12_laysBlocks_309__X12_lays_309
  have t23 : s14 309 20 = r0 309 20 := (f16 309 20 (by decide)).trans t11
  have t24 : s14 316 0 = r0 316 0 := (f16 316 0 (by decide)).trans t12
  have r25 := y_B.fr r13 (f16 309 20 (by decide)) (f16 316 0 (by decide)) (fun b => f16 3220 b (nr_X12_laysBlocks_309__3220 b)) (fun b => f16 3221 b (nr_X12_laysBlocks_309__3221 b)) (fun b => f16 3222 b (nr_X12_laysBlocks_309__3222 b)) (fun b => f16 361 b (nr_X12_laysBlocks_309__361 b))
  clear t11
  clear t12
  refine sl_X12_lays_309_L17 hfu r0 a1 a2 (by omega) (by omega) (fun s26 y29 c27 f28 b30 g31 => ?_) fu s14 0 a1 c15 f17 (by omega) (by omega) (by omega) (by omega) (by first | exact y_E.cg o20 (by omega) (by omega)) (by omega)
  have u32 := CI_b c27 (k := 309) (j := 20) bd_309_20
  have u33 := CI_b c27 (k := 316) (j := 0) bd_316_0
  have t34 : s26 309 20 = r0 309 20 := f28 309 20 (by decide)
  have t35 : s26 316 0 = r0 316 0 := f28 316 0 (by decide)
  exact T_ret ⟨c27, f28, (by first | exact y_E.cg g31 (by omega) (by omega)), ⟨y29, rfl, by omega, by omega⟩⟩
abbrev R_X12_ties_309 (a b : Int) : Prop := (3437 ≤ a ∧ a ≤ 3437) ∨ (a = 309 ∧ (b = 39))
abbrev P_X12_ties_309 (r0 : z_M) : z_V → z_M → Prop := fun v s' => z_CI s' ∧ z_Fr R_X12_ties_309 r0 s' ∧ (v = vN)
theorem sl_X12_ties_309_L5 {fu : Nat} (hfu : 8589934592 ≤ fu) (r0 : z_M) (a1 : Int) (a2 : Int) (b1 : 0 ≤ a1 ∧ a1 ≤ 199) (b2 : 0 ≤ a2 ∧ a2 ≤ 199) {k : z_M → Int → z_O} (hk : ∀ (s' : z_M) (v3 : Int), z_CI s' → z_Fr R_X12_ties_309 r0 s' → (-2147483648 ≤ v3 ∧ v3 ≤ 2147483647) → z_T (k s' v3) (P_X12_ties_309 r0)) : ∀ (F : Nat) (s : z_M) (a3 : Int) (a4 : Int), z_CI s → z_Fr R_X12_ties_309 r0 s → (-2147483648 ≤ a3 ∧ a3 ≤ 2147483647) → (0 ≤ a4 ∧ a4 ≤ 200) → (y_B s) → (a2 < s 309 20) → (2147483647 - a4 < (F : Int)) → z_T (fX12_ties_L5 fu 309 a1 a2 F s a3 a4 k) (P_X12_ties_309 r0) := by
  intro F
  induction F with
  | zero =>
    intro s a3 a4 c f b3 b4 i0 i1 hm
    have u21 := CI_b c (k := 309) (j := 20) bd_309_20
    have u22 := CI_b c (k := 316) (j := 0) bd_316_0
    exfalso; omega
  | succ F ih =>
    intro s a3 a4 c f b3 b4 i0 i1 hm
    refine T_of (fX12_ties_L5.eq_2 ..) ?_
    have u1 := CI_b c (k := 309) (j := 20) bd_309_20
    have u2 := CI_b c (k := 316) (j := 0) bd_316_0
    have t3 : s 309 20 = r0 309 20 := f 309 20 (by decide)
    have t4 : s 316 0 = r0 316 0 := f 316 0 (by decide)
    refine T_ite (fun h5 => ?_) (fun h5 => ?_)
    · exact hk s a3 c f (by omega)
    · refine T_if1 (by decide +kernel) ?_
      refine T_useI (sf_X12_width_309 hfu s c a4 (by omega) i0 (by omega)) (fun v11 s6 hq => ?_)
      obtain ⟨c7, f8, ⟨x10, rfl, b12, b13⟩⟩ := hq
      refine T_vI ?_
      have q14 := z_Fr.eq (fun a b h => h) f8
      subst q14
      refine T_leq (fun x15 e16 => ?_)
      first | (have w17 := z_wx e16 (by omega)) | (have w17 := z_wr e16)
      refine T_leq (fun x18 e19 => ?_)
      first | (have w20 := z_wx e19 (by omega)) | (have w20 := z_wr e19)
      exact ih s x15 x18 c f (by omega) (by omega) i0 (by omega) (by omega)
theorem sj_X12_ties_309_J47 {fu : Nat} (hfu : 8589934592 ≤ fu) (r0 s : z_M) (c : z_CI s) (f : z_Fr R_X12_ties_309 r0 s) : z_T (fX12_ties_J47 fu s) (P_X12_ties_309 r0) := by
  refine T_of (fX12_ties_J47.eq_1 ..) ?_
  have u1 := CI_b c (k := 309) (j := 20) bd_309_20
  have u2 := CI_b c (k := 316) (j := 0) bd_316_0
  have t3 : s 309 20 = r0 309 20 := f 309 20 (by decide)
  have t4 : s 316 0 = r0 316 0 := f 316 0 (by decide)
  exact T_ret ⟨c, f, rfl⟩
theorem sl_X12_ties_309_L61 {fu : Nat} (hfu : 8589934592 ≤ fu) (r0 : z_M) (a2 : Int) (b2 : 0 ≤ a2 ∧ a2 ≤ 199) {k : z_M → z_O} (hk : ∀ (s' : z_M), z_CI s' → z_Fr R_X12_ties_309 r0 s' → z_T (k s') (P_X12_ties_309 r0)) : ∀ (F : Nat) (s : z_M) (a4 : Int), z_CI s → z_Fr R_X12_ties_309 r0 s → (0 ≤ a4 ∧ a4 ≤ 200) → (2147483647 - a4 < (F : Int)) → z_T (fX12_ties_L61 fu 309 a2 F s a4 k) (P_X12_ties_309 r0) := by
  intro F
  induction F with
  | zero =>
    intro s a4 c f b4 hm
    have u17 := CI_b c (k := 309) (j := 20) bd_309_20
    have u18 := CI_b c (k := 316) (j := 0) bd_316_0
    exfalso; omega
  | succ F ih =>
    intro s a4 c f b4 hm
    refine T_of (fX12_ties_L61.eq_2 ..) ?_
    have u1 := CI_b c (k := 309) (j := 20) bd_309_20
    have u2 := CI_b c (k := 316) (j := 0) bd_316_0
    have t3 : s 309 20 = r0 309 20 := f 309 20 (by decide)
    have t4 : s 316 0 = r0 316 0 := f 316 0 (by decide)
    refine T_ite (fun h5 => ?_) (fun h5 => ?_)
    · exact hk s c f
    · refine T_if1 (by decide +kernel) ?_
      refine T_let 3437 (by decide +kernel) ?_
      refine T_if1 ⟨(z_ixl (n := 200) (by decide +kernel) (by omega) (by omega)), by unfold z_bl; omega⟩ ?_
      refine T_upg c (bdr_3437 a4) (by omega) (fun s6 c7 g9 g10 e11 => ?_)
      have f8 := z_Fr.up (R := R_X12_ties_309) f g9 (fun _ => (Or.inl (⟨by decide, by decide⟩)))
      have t12 : s6 309 20 = s 309 20 := g9 309 20 (by decide)
      have t13 : s6 316 0 = s 316 0 := g9 316 0 (by decide)
      refine T_leq (fun x14 e15 => ?_)
      first | (have w16 := z_wx e15 (by omega)) | (have w16 := z_wr e15)
      exact ih s6 x14 c7 f8 (by omega) (by omega)
theorem sf_X12_ties_309 {fu : Nat} (hfu : 8589934592 ≤ fu) (r0 : z_M) (c0 : z_CI r0) (a1 : Int) (a2 : Int) (b1 : 0 ≤ a1 ∧ a1 ≤ 199) (b2 : 0 ≤ a2 ∧ a2 ≤ 199) (p0 : y_B r0) (p1 : a2 < r0 309 20) : z_T (fX12_ties fu r0 309 a1 a2) (P_X12_ties_309 r0) := by
  refine T_of (fX12_ties.eq_1 ..) ?_
  have u1 := CI_b c0 (k := 309) (j := 20) bd_309_20
  have u2 := CI_b c0 (k := 316) (j := 0) bd_316_0
  refine sl_X12_ties_309_L5 hfu r0 a1 a2 (by omega) (by omega) (fun s3 y6 c4 f5 b7 => ?_) fu r0 0 a1 c0 z_Fr.rf (by omega) (by omega) p0 (by omega) (by omega)
  have u8 := CI_b c4 (k := 309) (j := 20) bd_309_20
  have u9 := CI_b c4 (k := 316) (j := 0) bd_316_0
  have t10 : s3 309 20 = r0 309 20 := f5 309 20 (by decide)
  have t11 : s3 316 0 = r0 316 0 := f5 316 0 (by decide)
  refine T_if1 (by decide +kernel) ?_
  refine T_let 312 (by decide +kernel) ?_
  refine T_if1 (z_ixl (n := 9) (by decide +kernel) (by omega) (by omega)) ?_
  refine T_leq (fun x12 e13 => ?_)
  have u14 := CI_b c4 (k := 312) (j := 7) (bdr_312 7)
  refine T_ite (fun h15 => ?_) (fun h15 => ?_)
  · exact sj_X12_ties_309_J47 hfu r0 s3 c4 f5
  · refine T_if1 (by decide +kernel) ?_
    refine T_let 312 (by decide +kernel) ?_
    refine T_if1 (z_ixl (n := 9) (by decide +kernel) (by omega) (by omega)) ?_
    refine T_leq (fun x16 e17 => ?_)
    have q18 : x12 = x16 := e13.symm.trans e17
    subst q18
    refine T_ite (fun h19 => ?_) (fun h19 => ?_)
    · refine T_if1 (by decide +kernel) ?_
      refine T_leq (fun x20 e21 => ?_)
      have u22 := CI_b c4 (k := 309) (j := 39) bd_309_39
      refine T_leq (fun x23 e24 => ?_)
      first | (have w25 := z_wx e24 (by omega)) | (have w25 := z_wr e24)
      refine T_if1 (by decide +kernel) ?_
      refine T_upg c4 bd_309_39 (by omega) (fun s26 c27 g29 g30 e31 => ?_)
      have f28 := z_Fr.upf (R := R_X12_ties_309) f5 g29 g30 (Or.inr (⟨rfl, by decide⟩))
      have t32 : s26 309 20 = s3 309 20 := g30 20 (by decide)
      have t33 : s26 316 0 = s3 316 0 := g29 316 0 (by decide)
      refine sl_X12_ties_309_L61 hfu r0 a2 (by omega) (fun s34 c35 f36 => ?_) fu s26 a1 c27 f28 (by omega) (by omega)
      have u37 := CI_b c35 (k := 309) (j := 20) bd_309_20
      have u38 := CI_b c35 (k := 316) (j := 0) bd_316_0
      have t39 : s34 309 20 = r0 309 20 := f36 309 20 (by decide)
      have t40 : s34 316 0 = r0 316 0 := f36 316 0 (by decide)
      exact T_ret ⟨c35, f36, rfl⟩
    · exact sj_X12_ties_309_J47 hfu r0 s3 c4 f5
abbrev R_X12_laysPairs_309 (a b : Int) : Prop := (3435 ≤ a ∧ a ≤ 3437) ∨ (a = 309 ∧ (b = 38 ∨ b = 39))
abbrev P_X12_laysPairs_309 (r0 : z_M) : z_V → z_M → Prop := fun v s' => z_CI s' ∧ z_Fr R_X12_laysPairs_309 r0 s' ∧ (v = vN)
theorem sj_X12_laysPairs_309_J121 {fu : Nat} (hfu : 8589934592 ≤ fu) (r0 s : z_M) (c : z_CI s) (f : z_Fr R_X12_laysPairs_309 r0 s) (a1 : Int) (a2 : Int) (b1 : 0 ≤ a1 ∧ a1 ≤ 200) (b2 : 0 ≤ a2 ∧ a2 ≤ 199) (p0 : a1 ≤ a2 + 1) (p1 : a2 < s 309 20) (p2 : y_B s) (M : Int) (pm : 2147483647 - a2 ≤ M) {r : z_M → Int → Int → z_O} {k : z_M → z_O} (hr : ∀ (s' : z_M) (v1 : Int) (v2 : Int), z_CI s' → z_Fr R_X12_laysPairs_309 r0 s' → (0 ≤ v1 ∧ v1 ≤ 200) → (0 ≤ v2 ∧ v2 ≤ 200) → (v1 ≤ v2) → (v2 ≤ s' 309 20) → (y_B s') → (2147483647 - v2 < M) → z_T (r s' v1 v2) (P_X12_laysPairs_309 r0)) (hk : ∀ (s' : z_M), z_CI s' → z_Fr R_X12_laysPairs_309 r0 s' → z_T (k s') (P_X12_laysPairs_309 r0)) : z_T (fX12_laysPairs_J121 fu s 309 a1 a2 r k) (P_X12_laysPairs_309 r0) := by
  refine T_of (fX12_laysPairs_J121.eq_1 ..) ?_
  have u1 := CI_b c (k := 309) (j := 20) bd_309_20
  have u2 := CI_b c (k := 316) (j := 0) bd_316_0
  have t3 : s 309 20 = r0 309 20 := f 309 20 (by decide)
  have t4 : s 316 0 = r0 316 0 := f 316 0 (by decide)
  refine T_leq (fun x5 e6 => ?_)
  first | (have w7 := z_wx e6 (by omega)) | (have w7 := z_wr e6)
  exact hr s a1 x5 c f (by omega) (by omega) (by omega) (by omega) p2 (by omega)
theorem rs_X12_ties_309__X12_laysPairs_309 (a b : Int) (h : R_X12_ties_309 a b) : R_X12_laysPairs_309 a b := (h.elim (fun h => (Or.inl (⟨by omega, by omega⟩))) (fun h => (Or.inr (⟨h.1, by omega⟩))))
theorem nr_X12_ties_309__3220 (b : Int) : ¬ R_X12_ties_309 3220 b := by
  unfold R_X12_ties_309; omega
theorem nr_X12_ties_309__3221 (b : Int) : ¬ R_X12_ties_309 3221 b := by
  unfold R_X12_ties_309; omega
theorem nr_X12_ties_309__3222 (b : Int) : ¬ R_X12_ties_309 3222 b := by
  unfold R_X12_ties_309; omega
theorem nr_X12_ties_309__361 (b : Int) : ¬ R_X12_ties_309 361 b := by
  unfold R_X12_ties_309; omega
theorem sj_X12_laysPairs_309_J56 {fu : Nat} (hfu : 8589934592 ≤ fu) (r0 s : z_M) (c : z_CI s) (f : z_Fr R_X12_laysPairs_309 r0 s) (a1 : Int) (a2 : Int) (b1 : 0 ≤ a1 ∧ a1 ≤ 200) (b2 : 0 ≤ a2 ∧ a2 ≤ 199) (p0 : a1 ≤ a2 + 1) (p1 : a2 < s 309 20) (p2 : y_B s) (M : Int) (pm : 2147483647 - a2 ≤ M) {r : z_M → Int → Int → z_O} {k : z_M → z_O} (hr : ∀ (s' : z_M) (v1 : Int) (v2 : Int), z_CI s' → z_Fr R_X12_laysPairs_309 r0 s' → (0 ≤ v1 ∧ v1 ≤ 200) → (0 ≤ v2 ∧ v2 ≤ 200) → (v1 ≤ v2) → (v2 ≤ s' 309 20) → (y_B s') → (2147483647 - v2 < M) → z_T (r s' v1 v2) (P_X12_laysPairs_309 r0)) (hk : ∀ (s' : z_M), z_CI s' → z_Fr R_X12_laysPairs_309 r0 s' → z_T (k s') (P_X12_laysPairs_309 r0)) : z_T (fX12_laysPairs_J56 fu s 309 a1 a2 r k) (P_X12_laysPairs_309 r0) := by
  refine T_of (fX12_laysPairs_J56.eq_1 ..) ?_
  have u1 := CI_b c (k := 309) (j := 20) bd_309_20
  have u2 := CI_b c (k := 316) (j := 0) bd_316_0
  have t3 : s 309 20 = r0 309 20 := f 309 20 (by decide)
  have t4 : s 316 0 = r0 316 0 := f 316 0 (by decide)
  refine T_if1 (by decide +kernel) ?_
  refine T_let 3220 (by decide +kernel) ?_
  refine T_if1 (z_ixl (n := 200) (by decide +kernel) (by omega) (by omega)) ?_
  refine T_leq (fun x5 e6 => ?_)
  have u7 := CI_b c (k := 3220) (j := a2) (bdr_3220 a2)
  refine T_ite (fun h8 => ?_) (fun h8 => ?_)
  · exact sj_X12_laysPairs_309_J121 hfu r0 s c f a1 a2 (by omega) (by omega) (by omega) (by omega) p2 M (by omega) (fun s' v1 v2 c' f' w1 w2 z0 z1 z2 pg => hr s' v1 v2 c' f' w1 w2 z0 z1 z2 (by omega)) hk
  · refine T_ite (fun h9 => ?_) (fun h9 => ?_)
    · refine T_leq (fun x10 e11 => ?_)
      first | (have w12 := z_wx e11 (by omega)) | (have w12 := z_wr e11)
      refine T_if1 (by decide +kernel) ?_
      refine T_let 3435 (by decide +kernel) ?_
      refine T_if1 (by decide +kernel) ?_
      refine T_let 3436 (by decide +kernel) ?_
      refine T_if1 (z_ixl (n := 200) (by decide +kernel) (by omega) (by omega)) ?_
      refine T_leq (fun x13 e14 => ?_)
      have u15 := CI_b c (k := 3436) (j := x10) (bdr_3436 x10)
      refine T_if1 (z_ixl (n := 200) (by decide +kernel) (by omega) (by omega)) ?_
      refine T_upg c (bdr_3435 a2) (by omega) (fun s16 c17 g19 g20 e21 => ?_)
      have f18 := z_Fr.up (R := R_X12_laysPairs_309) f g19 (fun _ => (Or.inl (⟨by decide, by decide⟩)))
      have t22 : s16 309 20 = s 309 20 := g19 309 20 (by decide)
      have t23 : s16 316 0 = s 316 0 := g19 316 0 (by decide)
      have r24 := y_B.fr p2 (g19 309 20 (by decide)) (g19 316 0 (by decide)) (fun b => g19 3220 b (by decide)) (fun b => g19 3221 b (by decide)) (fun b => g19 3222 b (by decide)) (fun b => g19 361 b (by decide))
      refine T_if1 (by decide +kernel) ?_
      refine T_let 3435 (by decide +kernel) ?_
      refine T_if1 (by decide +kernel) ?_
      refine T_let 3436 (by decide +kernel) ?_
      refine T_if1 (z_ixl (n := 200) (by decide +kernel) (by omega) (by omega)) ?_
      refine T_leq (fun x25 e26 => ?_)
      have u27 := CI_b c17 (k := 3436) (j := x10) (bdr_3436 x10)
      refine T_if1 (z_ixl (n := 200) (by decide +kernel) (by omega) (by omega)) ?_
      refine T_upg c17 (bdr_3435 x25) (by omega) (fun s28 c29 g31 g32 e33 => ?_)
      have f30 := z_Fr.up (R := R_X12_laysPairs_309) f18 g31 (fun _ => (Or.inl (⟨by decide, by decide⟩)))
      have t34 : s28 309 20 = s 309 20 := (g31 309 20 (by decide)).trans t22
      have t35 : s28 316 0 = s 316 0 := (g31 316 0 (by decide)).trans t23
      have r36 := y_B.fr r24 (g31 309 20 (by decide)) (g31 316 0 (by decide)) (fun b => g31 3220 b (by decide)) (fun b => g31 3221 b (by decide)) (fun b => g31 3222 b (by decide)) (fun b => g31 361 b (by decide))
      clear t22
      clear t23
      refine T_if1 (by decide +kernel) ?_
      refine T_leq (fun x37 e38 => ?_)
      have u39 := CI_b c29 (k := 309) (j := 38) bd_309_38
      refine T_leq (fun x40 e41 => ?_)
      first | (have w42 := z_wx e41 (by omega)) | (have w42 := z_wr e41)
      refine T_if1 (by decide +kernel) ?_
      refine T_upg c29 bd_309_38 (by omega) (fun s43 c44 g46 g47 e48 => ?_)
      have f45 := z_Fr.upf (R := R_X12_laysPairs_309) f30 g46 g47 (Or.inr (⟨rfl, by decide⟩))
      have t49 : s43 309 20 = s 309 20 := (g47 20 (by decide)).trans t34
      have t50 : s43 316 0 = s 316 0 := (g46 316 0 (by decide)).trans t35
      have r51 := y_B.fr r36 (g47 20 (by decide)) (g46 316 0 (by decide)) (fun b => g46 3220 b (by decide)) (fun b => g46 3221 b (by decide)) (fun b => g46 3222 b (by decide)) (fun b => g46 361 b (by decide))
      clear t34
      clear t35
      refine T_if1 (by decide +kernel) ?_
      refine T_let 3436 (by decide +kernel) ?_
      refine T_if1 (z_ixl (n := 200) (by decide +kernel) (by omega) (by omega)) ?_
      refine T_leq (fun x52 e53 => ?_)
      have u54 := CI_b c44 (k := 3436) (j := x10) (bdr_3436 x10)
      refine T_if1 (by decide +kernel) ?_
      refine T_useN (sf_X12_ties_309 hfu s43 c44 x52 a2 (by omega) (by omega) r51 (by omega)) (fun v60 s55 hq => ?_)
      obtain ⟨c56, f57, rfl⟩ := hq
      refine T_vN ?_
      have f58 := z_Fr.tr (R := R_X12_laysPairs_309) f45 f57 rs_X12_ties_309__X12_laysPairs_309
      have t63 : s55 309 20 = s 309 20 := (f57 309 20 (by decide)).trans t49
      have t64 : s55 316 0 = s 316 0 := (f57 316 0 (by decide)).trans t50
      have r65 := y_B.fr r51 (f57 309 20 (by decide)) (f57 316 0 (by decide)) (fun b => f57 3220 b (nr_X12_ties_309__3220 b)) (fun b => f57 3221 b (nr_X12_ties_309__3221 b)) (fun b => f57 3222 b (nr_X12_ties_309__3222 b)) (fun b => f57 361 b (nr_X12_ties_309__361 b))
      clear t49
      clear t50
      exact sj_X12_laysPairs_309_J121 hfu r0 s55 c56 f58 x10 a2 (by omega) (by omega) (by omega) (by omega) r65 M (by omega) (fun s' v1 v2 c' f' w1 w2 z0 z1 z2 pg => hr s' v1 v2 c' f' w1 w2 z0 z1 z2 (by omega)) hk
    · exact sj_X12_laysPairs_309_J121 hfu r0 s c f a1 a2 (by omega) (by omega) (by omega) (by omega) p2 M (by omega) (fun s' v1 v2 c' f' w1 w2 z0 z1 z2 pg => hr s' v1 v2 c' f' w1 w2 z0 z1 z2 (by omega)) hk
theorem sl_X12_laysPairs_309_L14 {fu : Nat} (hfu : 8589934592 ≤ fu) (r0 : z_M) {k : z_M → z_O} (hk : ∀ (s' : z_M), z_CI s' → z_Fr R_X12_laysPairs_309 r0 s' → z_T (k s') (P_X12_laysPairs_309 r0)) : ∀ (F : Nat) (s : z_M) (a1 : Int) (a2 : Int), z_CI s → z_Fr R_X12_laysPairs_309 r0 s → (0 ≤ a1 ∧ a1 ≤ 200) → (0 ≤ a2 ∧ a2 ≤ 200) → (a1 ≤ a2) → (a2 ≤ s 309 20) → (y_B s) → (2147483647 - a2 < (F : Int)) → z_T (fX12_laysPairs_L14 fu 309 F s a1 a2 k) (P_X12_laysPairs_309 r0) := by
  intro F
  induction F with
  | zero =>
    intro s a1 a2 c f b1 b2 i0 i1 i2 hm
    have u43 := CI_b c (k := 309) (j := 20) bd_309_20
    have u44 := CI_b c (k := 316) (j := 0) bd_316_0
    exfalso; omega
  | succ F ih =>
    intro s a1 a2 c f b1 b2 i0 i1 i2 hm
    refine T_of (fX12_laysPairs_L14.eq_2 ..) ?_
    have u1 := CI_b c (k := 309) (j := 20) bd_309_20
    have u2 := CI_b c (k := 316) (j := 0) bd_316_0
    have t3 : s 309 20 = r0 309 20 := f 309 20 (by decide)
    have t4 : s 316 0 = r0 316 0 := f 316 0 (by decide)
    refine T_if1 (by decide +kernel) ?_
    refine T_leq (fun x5 e6 => ?_)
    have u7 := CI_b c (k := 309) (j := 20) bd_309_20
    refine T_ite (fun h8 => ?_) (fun h8 => ?_)
    · exact hk s c f
    · refine T_if1 (by decide +kernel) ?_
      refine T_let 3435 (by decide +kernel) ?_
      refine T_if1 (z_ixl (n := 200) (by decide +kernel) (by omega) (by omega)) ?_
      refine T_upg c (bdr_3435 a2) (by omega) (fun s9 c10 g12 g13 e14 => ?_)
      have f11 := z_Fr.up (R := R_X12_laysPairs_309) f g12 (fun _ => (Or.inl (⟨by decide, by decide⟩)))
      have t15 : s9 309 20 = x5 := (g12 309 20 (by decide)).trans e6
      have t16 : s9 316 0 = s 316 0 := g12 316 0 (by decide)
      have r17 := y_B.fr i2 (g12 309 20 (by decide)) (g12 316 0 (by decide)) (fun b => g12 3220 b (by decide)) (fun b => g12 3221 b (by decide)) (fun b => g12 3222 b (by decide)) (fun b => g12 361 b (by decide))
      refine T_if1 (by decide +kernel) ?_
      refine T_let 3437 (by decide +kernel) ?_
      refine T_if1 ⟨(z_ixl (n := 200) (by decide +kernel) (by omega) (by omega)), by unfold z_bl; omega⟩ ?_
      refine T_upg c10 (bdr_3437 a2) (by omega) (fun s18 c19 g21 g22 e23 => ?_)
      have f20 := z_Fr.up (R := R_X12_laysPairs_309) f11 g21 (fun _ => (Or.inl (⟨by decide, by decide⟩)))
      have t24 : s18 309 20 = x5 := (g21 309 20 (by decide)).trans t15
      have t25 : s18 316 0 = s 316 0 := (g21 316 0 (by decide)).trans t16
      have r26 := y_B.fr r17 (g21 309 20 (by decide)) (g21 316 0 (by decide)) (fun b => g21 3220 b (by decide)) (fun b => g21 3221 b (by decide)) (fun b => g21 3222 b (by decide)) (fun b => g21 361 b (by decide))
      clear t15
      clear t16
      refine T_if1 (by decide +kernel) ?_
      refine T_let 3220 (by decide +kernel) ?_
      refine T_if1 (z_ixl (n := 200) (by decide +kernel) (by omega) (by omega)) ?_
      refine T_leq (fun x27 e28 => ?_)
      have u29 := CI_b c19 (k := 3220) (j := a2) (bdr_3220 a2)
      refine T_ite (fun h30 => ?_) (fun h30 => ?_)
      · exact sj_X12_laysPairs_309_J56 hfu r0 s18 c19 f20 a1 a2 (by omega) (by omega) (by omega) (by omega) r26 (2147483647 - a2) (by omega) (fun s' v1 v2 c' f' w1 w2 z0 z1 z2 pg => ih s' v1 v2 c' f' w1 w2 z0 z1 z2 (by omega)) hk
      · refine T_if1 (by decide +kernel) ?_
        refine T_let 3436 (by decide +kernel) ?_
        refine T_if1 (z_ixl (n := 200) (by decide +kernel) (by omega) (by omega)) ?_
        refine T_upg c19 (bdr_3436 a1) (by omega) (fun s31 c32 g34 g35 e36 => ?_)
        have f33 := z_Fr.up (R := R_X12_laysPairs_309) f20 g34 (fun _ => (Or.inl (⟨by decide, by decide⟩)))
        have t37 : s31 309 20 = x5 := (g34 309 20 (by decide)).trans t24
        have t38 : s31 316 0 = s 316 0 := (g34 316 0 (by decide)).trans t25
        have r39 := y_B.fr r26 (g34 309 20 (by decide)) (g34 316 0 (by decide)) (fun b => g34 3220 b (by decide)) (fun b => g34 3221 b (by decide)) (fun b => g34 3222 b (by decide)) (fun b => g34 361 b (by decide))
        clear t24
        clear t25
        refine T_leq (fun x40 e41 => ?_)
        first | (have w42 := z_wx e41 (by omega)) | (have w42 := z_wr e41)
        exact sj_X12_laysPairs_309_J56 hfu r0 s31 c32 f33 x40 a2 (by omega) (by omega) (by omega) (by omega) r39 (2147483647 - a2) (by omega) (fun s' v1 v2 c' f' w1 w2 z0 z1 z2 pg => ih s' v1 v2 c' f' w1 w2 z0 z1 z2 (by omega)) hk
theorem sf_X12_laysPairs_309 {fu : Nat} (hfu : 8589934592 ≤ fu) (r0 : z_M) (c0 : z_CI r0) (p0 : y_B r0) : z_T (fX12_laysPairs fu r0 309) (P_X12_laysPairs_309 r0) := by
  refine T_of (fX12_laysPairs.eq_1 ..) ?_
  have u1 := CI_b c0 (k := 309) (j := 20) bd_309_20
  have u2 := CI_b c0 (k := 316) (j := 0) bd_316_0
  refine T_if1 (by decide +kernel) ?_
  refine T_upg c0 bd_309_38 (by omega) (fun s3 c4 g6 g7 e8 => ?_)
  have f5 := z_Fr.upf (R := R_X12_laysPairs_309) z_Fr.rf g6 g7 (Or.inr (⟨rfl, by decide⟩))
  have t9 : s3 309 20 = r0 309 20 := g7 20 (by decide)
  have t10 : s3 316 0 = r0 316 0 := g6 316 0 (by decide)
  have r11 := y_B.fr p0 (g7 20 (by decide)) (g6 316 0 (by decide)) (fun b => g6 3220 b (by decide)) (fun b => g6 3221 b (by decide)) (fun b => g6 3222 b (by decide)) (fun b => g6 361 b (by decide))
  refine T_if1 (by decide +kernel) ?_
  refine T_upg c4 bd_309_39 (by omega) (fun s12 c13 g15 g16 e17 => ?_)
  have f14 := z_Fr.upf (R := R_X12_laysPairs_309) f5 g15 g16 (Or.inr (⟨rfl, by decide⟩))
  have t18 : s12 309 20 = r0 309 20 := (g16 20 (by decide)).trans t9
  have t19 : s12 316 0 = r0 316 0 := (g15 316 0 (by decide)).trans t10
  have r20 := y_B.fr r11 (g16 20 (by decide)) (g15 316 0 (by decide)) (fun b => g15 3220 b (by decide)) (fun b => g15 3221 b (by decide)) (fun b => g15 3222 b (by decide)) (fun b => g15 361 b (by decide))
  clear t9
  clear t10
  refine sl_X12_laysPairs_309_L14 hfu r0 (fun s21 c22 f23 => ?_) fu s12 0 0 c13 f14 (by omega) (by omega) (by omega) (by omega) r20 (by omega)
  have u24 := CI_b c22 (k := 309) (j := 20) bd_309_20
  have u25 := CI_b c22 (k := 316) (j := 0) bd_316_0
  have t26 : s21 309 20 = r0 309 20 := f23 309 20 (by decide)
  have t27 : s21 316 0 = r0 316 0 := f23 316 0 (by decide)
  exact T_ret ⟨c22, f23, rfl⟩
abbrev R_X12_freshens_309 (a b : Int) : Prop := (3235 ≤ a ∧ a ≤ 3437) ∨ (a = 309 ∧ (b = 36 ∨ b = 38 ∨ b = 39 ∨ b = 43))
abbrev P_X12_freshens_309 (r0 : z_M) : z_V → z_M → Prop := fun v s' => z_CI s' ∧ z_Fr R_X12_freshens_309 r0 s' ∧ (s' 309 36 ≠ 0) ∧ (r0 309 36 = 0 ∨ s' 309 43 = r0 309 43) ∧ (s' 309 43 = 0 ∨ s' 309 36 = 0 ∨ (r0 309 36 ≠ 0 ∧ r0 309 43 ≠ 0)) ∧ (r0 309 36 = 0 ∨ s' 309 36 ≠ 0) ∧ (v = vN)
theorem sl_X12_freshens_309_L20 {fu : Nat} (hfu : 8589934592 ≤ fu) (r0 : z_M) (a1 : Int) (b1 : 0 ≤ a1 ∧ a1 ≤ 199) {k : z_M → z_O} (hk : ∀ (s' : z_M), z_CI s' → z_Fr R_X12_freshens_309 r0 s' → (y_B s') → (r0 309 36 = 0) → (s' 309 43 = 0 ∨ s' 309 36 = 0 ∨ (r0 309 36 ≠ 0 ∧ r0 309 43 ≠ 0)) → (r0 309 36 = 0 ∨ s' 309 36 ≠ 0) → z_T (k s') (P_X12_freshens_309 r0)) : ∀ (F : Nat) (s : z_M) (a2 : Int), z_CI s → z_Fr R_X12_freshens_309 r0 s → (0 ≤ a2 ∧ a2 ≤ 200) → (y_B s) → (r0 309 36 = 0) → (s 309 43 = 0 ∨ s 309 36 = 0 ∨ (r0 309 36 ≠ 0 ∧ r0 309 43 ≠ 0)) → (r0 309 36 = 0 ∨ s 309 36 ≠ 0) → (2147483647 - a2 < (F : Int)) → z_T (fX12_freshens_L20 fu 309 a1 F s a2 k) (P_X12_freshens_309 r0) := by
  intro F
  induction F with
  | zero =>
    intro s a2 c f b2 i0 i1 i2 i3 hm
    have u25 := CI_b c (k := 309) (j := 20) bd_309_20
    have u26 := CI_b c (k := 309) (j := 36) bd_309_36
    have u27 := CI_b c (k := 309) (j := 43) bd_309_43
    have u28 := CI_b c (k := 316) (j := 0) bd_316_0
    exfalso; omega
  | succ F ih =>
    intro s a2 c f b2 i0 i1 i2 i3 hm
    refine T_of (fX12_freshens_L20.eq_2 ..) ?_
    have u1 := CI_b c (k := 309) (j := 20) bd_309_20
    have u2 := CI_b c (k := 309) (j := 36) bd_309_36
    have u3 := CI_b c (k := 309) (j := 43) bd_309_43
    have u4 := CI_b c (k := 316) (j := 0) bd_316_0
    have t5 : s 309 20 = r0 309 20 := f 309 20 (by decide)
    have t6 : s 316 0 = r0 316 0 := f 316 0 (by decide)
    refine T_if1 (by decide +kernel) ?_
    refine T_leq (fun x7 e8 => ?_)
    have u9 := CI_b c (k := 309) (j := 20) bd_309_20
    refine T_ite (fun h10 => ?_) (fun h10 => ?_)
    · exact hk s c f i0 (by omega) (by omega) (by omega)
    · refine T_if1 (by decide +kernel) ?_
      refine T_let 3234 (by decide +kernel) ?_
      refine T_if1 (z_ixl (n := 200) (by decide +kernel) (by omega) (by omega)) ?_
      refine T_let (3235 + a1) (gr_3234 a1) ?_
      refine T_if1 (z_ixs (sh_r3234 (by omega)) (by omega) (by omega) (by omega)) ?_
      refine T_upg c (bds_r3234 (by omega) a2) (by omega) (fun s11 c12 g14 g15 e16 => ?_)
      have f13 := z_Fr.up (R := R_X12_freshens_309) f g14 (fun b => by unfold R_X12_freshens_309; omega)
      have t17 : s11 309 20 = x7 := (g14 309 20 (by omega)).trans e8
      have t18 : s11 309 36 = s 309 36 := g14 309 36 (by omega)
      have t19 : s11 309 43 = s 309 43 := g14 309 43 (by omega)
      have t20 : s11 316 0 = s 316 0 := g14 316 0 (by omega)
      have r21 := y_B.fr i0 (g14 309 20 (by omega)) (g14 316 0 (by omega)) (fun b => g14 3220 b (by omega)) (fun b => g14 3221 b (by omega)) (fun b => g14 3222 b (by omega)) (fun b => g14 361 b (by omega))
      refine T_leq (fun x22 e23 => ?_)
      first | (have w24 := z_wx e23 (by omega)) | (have w24 := z_wr e23)
      exact ih s11 x22 c12 f13 (by omega) r21 (by omega) (by omega) (by omega) (by omega)
theorem sl_X12_freshens_309_L10 {fu : Nat} (hfu : 8589934592 ≤ fu) (r0 : z_M) {k : z_M → z_O} (hk : ∀ (s' : z_M), z_CI s' → z_Fr R_X12_freshens_309 r0 s' → (y_B s') → (r0 309 36 = 0) → (s' 309 43 = 0 ∨ s' 309 36 = 0 ∨ (r0 309 36 ≠ 0 ∧ r0 309 43 ≠ 0)) → (r0 309 36 = 0 ∨ s' 309 36 ≠ 0) → z_T (k s') (P_X12_freshens_309 r0)) : ∀ (F : Nat) (s : z_M) (a1 : Int), z_CI s → z_Fr R_X12_freshens_309 r0 s → (0 ≤ a1 ∧ a1 ≤ 200) → (y_B s) → (r0 309 36 = 0) → (s 309 43 = 0 ∨ s 309 36 = 0 ∨ (r0 309 36 ≠ 0 ∧ r0 309 43 ≠ 0)) → (r0 309 36 = 0 ∨ s 309 36 ≠ 0) → (2147483647 - a1 < (F : Int)) → z_T (fX12_freshens_L10 fu 309 F s a1 k) (P_X12_freshens_309 r0) := by
  intro F
  induction F with
  | zero =>
    intro s a1 c f b1 i0 i1 i2 i3 hm
    have u27 := CI_b c (k := 309) (j := 20) bd_309_20
    have u28 := CI_b c (k := 309) (j := 36) bd_309_36
    have u29 := CI_b c (k := 309) (j := 43) bd_309_43
    have u30 := CI_b c (k := 316) (j := 0) bd_316_0
    exfalso; omega
  | succ F ih =>
    intro s a1 c f b1 i0 i1 i2 i3 hm
    refine T_of (fX12_freshens_L10.eq_2 ..) ?_
    have u1 := CI_b c (k := 309) (j := 20) bd_309_20
    have u2 := CI_b c (k := 309) (j := 36) bd_309_36
    have u3 := CI_b c (k := 309) (j := 43) bd_309_43
    have u4 := CI_b c (k := 316) (j := 0) bd_316_0
    have t5 : s 309 20 = r0 309 20 := f 309 20 (by decide)
    have t6 : s 316 0 = r0 316 0 := f 316 0 (by decide)
    refine T_if1 (by decide +kernel) ?_
    refine T_leq (fun x7 e8 => ?_)
    have u9 := CI_b c (k := 309) (j := 20) bd_309_20
    refine T_ite (fun h10 => ?_) (fun h10 => ?_)
    · exact hk s c f i0 (by omega) (by omega) (by omega)
    · refine sl_X12_freshens_309_L20 hfu r0 a1 (by omega) (fun s11 c12 f13 g14 g15 g16 g17 => ?_) fu s a1 c f (by omega) i0 (by omega) (by omega) (by omega) (by omega)
      have u18 := CI_b c12 (k := 309) (j := 20) bd_309_20
      have u19 := CI_b c12 (k := 309) (j := 36) bd_309_36
      have u20 := CI_b c12 (k := 309) (j := 43) bd_309_43
      have u21 := CI_b c12 (k := 316) (j := 0) bd_316_0
      have t22 : s11 309 20 = r0 309 20 := f13 309 20 (by decide)
      have t23 : s11 316 0 = r0 316 0 := f13 316 0 (by decide)
      refine T_leq (fun x24 e25 => ?_)
      first | (have w26 := z_wx e25 (by omega)) | (have w26 := z_wr e25)
      exact ih s11 x24 c12 f13 (by omega) g14 (by omega) (by omega) (by omega) (by omega)
theorem rs_X12_laysPairs_309__X12_freshens_309 (a b : Int) (h : R_X12_laysPairs_309 a b) : R_X12_freshens_309 a b := (h.elim (fun h => (Or.inl (⟨by omega, by omega⟩))) (fun h => (Or.inr (⟨h.1, by omega⟩))))
theorem nr_X12_laysPairs_309__3220 (b : Int) : ¬ R_X12_laysPairs_309 3220 b := by
  unfold R_X12_laysPairs_309; omega
theorem nr_X12_laysPairs_309__3221 (b : Int) : ¬ R_X12_laysPairs_309 3221 b := by
  unfold R_X12_laysPairs_309; omega
theorem nr_X12_laysPairs_309__3222 (b : Int) : ¬ R_X12_laysPairs_309 3222 b := by
  unfold R_X12_laysPairs_309; omega
theorem nr_X12_laysPairs_309__361 (b : Int) : ¬ R_X12_laysPairs_309 361 b := by
  unfold R_X12_laysPairs_309; omega
theorem sf_X12_freshens_309 {fu : Nat} (hfu : 8589934592 ≤ fu) (r0 : z_M) (c0 : z_CI r0) (p0 : y_B r0) : z_T (fX12_freshens fu r0 309) (P_X12_freshens_309 r0) := by
  refine T_of (fX12_freshens.eq_1 ..) ?_
  have u1 := CI_b c0 (k := 309) (j := 20) bd_309_20
  have u2 := CI_b c0 (k := 309) (j := 36) bd_309_36
  have u3 := CI_b c0 (k := 309) (j := 43) bd_309_43
  have u4 := CI_b c0 (k := 316) (j := 0) bd_316_0
  refine T_if1 (by decide +kernel) ?_
  refine T_leq (fun x5 e6 => ?_)
  have u7 := CI_b c0 (k := 309) (j := 36) bd_309_36
  refine T_ite (fun h8 => ?_) (fun h8 => ?_)
  · refine sl_X12_freshens_309_L10 hfu r0 (fun s9 c10 f11 g12 g13 g14 g15 => ?_) fu r0 0 c0 z_Fr.rf (by omega) p0 (by omega) (by omega) (by omega) (by omega)
    have u16 := CI_b c10 (k := 309) (j := 20) bd_309_20
    have u17 := CI_b c10 (k := 309) (j := 36) bd_309_36
    have u18 := CI_b c10 (k := 309) (j := 43) bd_309_43
    have u19 := CI_b c10 (k := 316) (j := 0) bd_316_0
    have t20 : s9 309 20 = r0 309 20 := f11 309 20 (by decide)
    have t21 : s9 316 0 = r0 316 0 := f11 316 0 (by decide)
    refine T_if1 (by decide +kernel) ?_
    refine T_useN (sf_X12_laysPairs_309 hfu s9 c10 g12) (fun v27 s22 hq => ?_)
    obtain ⟨c23, f24, rfl⟩ := hq
    refine T_vN ?_
    have f25 := z_Fr.tr (R := R_X12_freshens_309) f11 f24 rs_X12_laysPairs_309__X12_freshens_309
    have t30 : s22 309 20 = s9 309 20 := f24 309 20 (by decide)
    have t31 : s22 309 36 = s9 309 36 := f24 309 36 (by decide)
    have t32 : s22 309 43 = s9 309 43 := f24 309 43 (by decide)
    have t33 : s22 316 0 = s9 316 0 := f24 316 0 (by decide)
    have r34 := y_B.fr g12 (f24 309 20 (by decide)) (f24 316 0 (by decide)) (fun b => f24 3220 b (nr_X12_laysPairs_309__3220 b)) (fun b => f24 3221 b (nr_X12_laysPairs_309__3221 b)) (fun b => f24 3222 b (nr_X12_laysPairs_309__3222 b)) (fun b => f24 361 b (nr_X12_laysPairs_309__361 b))
    refine T_if1 ⟨(by decide +kernel), by unfold z_bl; omega⟩ ?_
    refine T_upg c23 bd_309_36 (by omega) (fun s35 c36 g38 g39 e40 => ?_)
    have f37 := z_Fr.upf (R := R_X12_freshens_309) f25 g38 g39 (Or.inr (⟨rfl, by decide⟩))
    have t41 : s35 309 20 = s9 309 20 := (g39 20 (by decide)).trans t30
    have t42 : s35 309 43 = s9 309 43 := (g39 43 (by decide)).trans t32
    have t43 : s35 316 0 = s9 316 0 := (g38 316 0 (by decide)).trans t33
    have u44 := CI_b c36 (k := 309) (j := 36) bd_309_36
    have r45 := y_B.fr r34 (g39 20 (by decide)) (g38 316 0 (by decide)) (fun b => g38 3220 b (by decide)) (fun b => g38 3221 b (by decide)) (fun b => g38 3222 b (by decide)) (fun b => g38 361 b (by decide))
    clear t30
    clear t32
    clear t33
    refine T_if1 ⟨(by decide +kernel), by unfold z_bl; omega⟩ ?_
    refine T_upg c36 bd_309_43 (by omega) (fun s46 c47 g49 g50 e51 => ?_)
    have f48 := z_Fr.upf (R := R_X12_freshens_309) f37 g49 g50 (Or.inr (⟨rfl, by decide⟩))
    have t52 : s46 309 20 = s9 309 20 := (g50 20 (by decide)).trans t41
    have t53 : s46 309 36 = s35 309 36 := g50 36 (by decide)
    have t54 : s46 316 0 = s9 316 0 := (g49 316 0 (by decide)).trans t43
    have u55 := CI_b c47 (k := 309) (j := 43) bd_309_43
    have r56 := y_B.fr r45 (g50 20 (by decide)) (g49 316 0 (by decide)) (fun b => g49 3220 b (by decide)) (fun b => g49 3221 b (by decide)) (fun b => g49 3222 b (by decide)) (fun b => g49 361 b (by decide))
    clear t41
    clear t43
    exact T_ret ⟨c47, f48, (by omega), (by omega), (by omega), (by omega), rfl⟩
  · exact T_ret ⟨c0, z_Fr.rf, (by omega), (by omega), (by omega), (by omega), rfl⟩
abbrev R_X12_longAs_309 (a b : Int) : Prop := (3224 ≤ a ∧ a ≤ 3437) ∨ (a = 309 ∧ (b = 35 ∨ b = 36 ∨ b = 38 ∨ b = 39 ∨ b = 43))
abbrev P_X12_longAs_309 (r0 : z_M) : z_V → z_M → Prop := fun v s' => z_CI s' ∧ z_Fr R_X12_longAs_309 r0 s' ∧ (s' 309 36 ≠ 0) ∧ (s' 309 43 = 0 ∨ s' 309 36 = 0 ∨ (r0 309 36 ≠ 0 ∧ r0 309 43 ≠ 0)) ∧ (r0 309 36 = 0 ∨ s' 309 36 ≠ 0) ∧ (∃ x, v = vI x ∧ -2147483648 ≤ x ∧ x ≤ 2147483647)
theorem rs_X12_freshens_309__X12_longAs_309 (a b : Int) (h : R_X12_freshens_309 a b) : R_X12_longAs_309 a b := (h.elim (fun h => (Or.inl (⟨by omega, by omega⟩))) (fun h => (Or.inr (⟨h.1, by omega⟩))))
theorem nr_X12_freshens_309__3220 (b : Int) : ¬ R_X12_freshens_309 3220 b := by
  unfold R_X12_freshens_309; omega
theorem nr_X12_freshens_309__3221 (b : Int) : ¬ R_X12_freshens_309 3221 b := by
  unfold R_X12_freshens_309; omega
theorem nr_X12_freshens_309__3222 (b : Int) : ¬ R_X12_freshens_309 3222 b := by
  unfold R_X12_freshens_309; omega
theorem nr_X12_freshens_309__361 (b : Int) : ¬ R_X12_freshens_309 361 b := by
  unfold R_X12_freshens_309; omega
theorem sj_X12_longAs_309_J30 {fu : Nat} (hfu : 8589934592 ≤ fu) (r0 s : z_M) (c : z_CI s) (f : z_Fr R_X12_longAs_309 r0 s) (a1 : Int) (a2 : Int) (b1 : 0 ≤ a1 ∧ a1 ≤ 199) (b2 : 0 ≤ a2 ∧ a2 ≤ 199) (p0 : s 309 36 ≠ 0) (p1 : s 309 43 = 0 ∨ s 309 36 = 0 ∨ (r0 309 36 ≠ 0 ∧ r0 309 43 ≠ 0)) (p2 : r0 309 36 = 0 ∨ s 309 36 ≠ 0) : z_T (fX12_longAs_J30 fu s 309 a1 a2) (P_X12_longAs_309 r0) := by
  refine T_of (fX12_longAs_J30.eq_1 ..) ?_
  have u1 := CI_b c (k := 309) (j := 20) bd_309_20
  have u2 := CI_b c (k := 309) (j := 36) bd_309_36
  have u3 := CI_b c (k := 309) (j := 43) bd_309_43
  have u4 := CI_b c (k := 316) (j := 0) bd_316_0
  have t5 : s 309 20 = r0 309 20 := f 309 20 (by decide)
  have t6 : s 316 0 = r0 316 0 := f 316 0 (by decide)
  refine T_if1 (by decide +kernel) ?_
  refine T_let 3234 (by decide +kernel) ?_
  refine T_if1 (z_ixl (n := 200) (by decide +kernel) (by omega) (by omega)) ?_
  refine T_let (3235 + a1) (gr_3234 a1) ?_
  refine T_if1 (z_ixs (sh_r3234 (by omega)) (by omega) (by omega) (by omega)) ?_
  refine T_leq (fun x7 e8 => ?_)
  have u9 := CI_b c (k := (3235 + a1)) (j := a2) (bds_r3234 (by omega) a2)
  exact T_ret ⟨c, f, (by omega), (by omega), (by omega), ⟨x7, rfl, by omega, by omega⟩⟩
theorem rs_X12_lays_309__X12_longAs_309 (a b : Int) (h : R_X12_lays_309 a b) : R_X12_longAs_309 a b := (h.elim (fun h => (Or.inl (⟨by omega, by omega⟩))) (fun h => (Or.inr (⟨h.1, by omega⟩))))
theorem nr_X12_lays_309__3220 (b : Int) : ¬ R_X12_lays_309 3220 b := by
  unfold R_X12_lays_309; omega
theorem nr_X12_lays_309__3221 (b : Int) : ¬ R_X12_lays_309 3221 b := by
  unfold R_X12_lays_309; omega
theorem nr_X12_lays_309__3222 (b : Int) : ¬ R_X12_lays_309 3222 b := by
  unfold R_X12_lays_309; omega
theorem nr_X12_lays_309__361 (b : Int) : ¬ R_X12_lays_309 361 b := by
  unfold R_X12_lays_309; omega
theorem sf_X12_longAs_309 {fu : Nat} (hfu : 8589934592 ≤ fu) (r0 : z_M) (c0 : z_CI r0) (a1 : Int) (a2 : Int) (b1 : 0 ≤ a1 ∧ a1 ≤ 199) (b2 : 0 ≤ a2 ∧ a2 ≤ 199) (p0 : y_B r0) (p1 : a1 ≤ a2) (p2 : a2 < r0 309 20) : z_T (fX12_longAs fu r0 309 a1 a2) (P_X12_longAs_309 r0) := by
  refine T_of (fX12_longAs.eq_1 ..) ?_
  have u1 := CI_b c0 (k := 309) (j := 20) bd_309_20
  have u2 := CI_b c0 (k := 309) (j := 36) bd_309_36
  have u3 := CI_b c0 (k := 309) (j := 43) bd_309_43
  have u4 := CI_b c0 (k := 316) (j := 0) bd_316_0
  refine T_if1 (by decide +kernel) ?_
  refine T_useN (sf_X12_freshens_309 hfu r0 c0 p0) (fun v10 s5 hq => ?_)
  obtain ⟨c6, f7, o11, o12, o13, o14, rfl⟩ := hq
  refine T_vN ?_
  have f8 := z_Fr.tr (R := R_X12_longAs_309) z_Fr.rf f7 rs_X12_freshens_309__X12_longAs_309
  have t17 : s5 309 20 = r0 309 20 := f7 309 20 (by decide)
  have t18 : s5 316 0 = r0 316 0 := f7 316 0 (by decide)
  have u19 := CI_b c6 (k := 309) (j := 36) bd_309_36
  have u20 := CI_b c6 (k := 309) (j := 43) bd_309_43
  have r21 := y_B.fr p0 (f7 309 20 (by decide)) (f7 316 0 (by decide)) (fun b => f7 3220 b (nr_X12_freshens_309__3220 b)) (fun b => f7 3221 b (nr_X12_freshens_309__3221 b)) (fun b => f7 3222 b (nr_X12_freshens_309__3222 b)) (fun b => f7 361 b (nr_X12_freshens_309__361 b))
  refine T_if1 (by decide +kernel) ?_
  refine T_let 3234 (by decide +kernel) ?_
  refine T_if1 (z_ixl (n := 200) (by decide +kernel) (by omega) (by omega)) ?_
  refine T_let (3235 + a1) (gr_3234 a1) ?_
  refine T_if1 (z_ixs (sh_r3234 (by omega)) (by omega) (by omega) (by omega)) ?_
  refine T_leq (fun x22 e23 => ?_)
  have u24 := CI_b c6 (k := (3235 + a1)) (j := a2) (bds_r3234 (by omega) a2)
  refine T_ite (fun h25 => ?_) (fun h25 => ?_)
  · exact sj_X12_longAs_309_J30 hfu r0 s5 c6 f8 a1 a2 (by omega) (by omega) (by omega) (by omega) (by omega)
  · refine T_if1 (by decide +kernel) ?_
    refine T_let 3234 (by decide +kernel) ?_
    refine T_if1 (z_ixl (n := 200) (by decide +kernel) (by omega) (by omega)) ?_
    refine T_let (3235 + a1) (gr_3234 a1) ?_
    refine T_if1 (by decide +kernel) ?_
    refine T_useI (sf_X12_lays_309 hfu s5 c6 a1 a2 (by omega) (by omega) r21 (by omega) (by omega)) (fun v31 s26 hq => ?_)
    obtain ⟨c27, f28, o32, ⟨x30, rfl, b33, b34⟩⟩ := hq
    refine T_vI ?_
    have f29 := z_Fr.tr (R := R_X12_longAs_309) f8 f28 rs_X12_lays_309__X12_longAs_309
    have t35 : s26 309 20 = r0 309 20 := (f28 309 20 (by decide)).trans t17
    have t36 : s26 309 36 = s5 309 36 := f28 309 36 (by decide)
    have t37 : s26 309 43 = s5 309 43 := f28 309 43 (by decide)
    have t38 : s26 316 0 = r0 316 0 := (f28 316 0 (by decide)).trans t18
    have r39 := y_B.fr r21 (f28 309 20 (by decide)) (f28 316 0 (by decide)) (fun b => f28 3220 b (nr_X12_lays_309__3220 b)) (fun b => f28 3221 b (nr_X12_lays_309__3221 b)) (fun b => f28 3222 b (nr_X12_lays_309__3222 b)) (fun b => f28 361 b (nr_X12_lays_309__361 b))
    clear t17
    clear t18
    refine T_if1 (z_ixs (sh_r3234 (by omega)) (by omega) (by omega) (by omega)) ?_
    refine T_upg c27 (bds_r3234 (by omega) a2) (by omega) (fun s40 c41 g43 g44 e45 => ?_)
    have f42 := z_Fr.up (R := R_X12_longAs_309) f29 g43 (fun b => by unfold R_X12_longAs_309; omega)
    have t46 : s40 309 20 = r0 309 20 := (g43 309 20 (by omega)).trans t35
    have t47 : s40 309 36 = s5 309 36 := (g43 309 36 (by omega)).trans t36
    have t48 : s40 309 43 = s5 309 43 := (g43 309 43 (by omega)).trans t37
    have t49 : s40 316 0 = r0 316 0 := (g43 316 0 (by omega)).trans t38
    have r50 := y_B.fr r39 (g43 309 20 (by omega)) (g43 316 0 (by omega)) (fun b => g43 3220 b (by omega)) (fun b => g43 3221 b (by omega)) (fun b => g43 3222 b (by omega)) (fun b => g43 361 b (by omega))
    have r51 := y_E.fr o32 (fun b => g43 3229 b (by omega)) (fun b => g43 3220 b (by omega))
    clear t35
    clear t36
    clear t37
    clear t38
    exact sj_X12_longAs_309_J30 hfu r0 s40 c41 f42 a1 a2 (by omega) (by omega) (by omega) (by omega) (by omega)
abbrev R_X12_mayEnd_309 (a b : Int) : Prop := (3235 ≤ a ∧ a ≤ 3437) ∨ (a = 309 ∧ (b = 36 ∨ b = 38 ∨ b = 39 ∨ b = 43))
abbrev P_X12_mayEnd_309 (r0 : z_M) : z_V → z_M → Prop := fun v s' => z_CI s' ∧ z_Fr R_X12_mayEnd_309 r0 s' ∧ (s' 309 36 ≠ 0) ∧ (s' 309 43 = 0 ∨ s' 309 36 = 0 ∨ (r0 309 36 ≠ 0 ∧ r0 309 43 ≠ 0)) ∧ (r0 309 36 = 0 ∨ s' 309 36 ≠ 0) ∧ (∃ x, v = vI x ∧ 0 ≤ x ∧ x ≤ 1)
theorem rs_X12_freshens_309__X12_mayEnd_309 (a b : Int) (h : R_X12_freshens_309 a b) : R_X12_mayEnd_309 a b := (h.elim (fun h => (Or.inl (⟨by omega, by omega⟩))) (fun h => (Or.inr (⟨h.1, by omega⟩))))
theorem sj_X12_mayEnd_309_J48 {fu : Nat} (hfu : 8589934592 ≤ fu) (r0 s : z_M) (c : z_CI s) (f : z_Fr R_X12_mayEnd_309 r0 s) (t0 : Int) (d0 : 0 ≤ t0 ∧ t0 ≤ 1) (p0 : s 309 36 ≠ 0) (p1 : s 309 43 = 0 ∨ s 309 36 = 0 ∨ (r0 309 36 ≠ 0 ∧ r0 309 43 ≠ 0)) (p2 : r0 309 36 = 0 ∨ s 309 36 ≠ 0) : z_T (fX12_mayEnd_J48 fu s t0) (P_X12_mayEnd_309 r0) := by
  refine T_of (fX12_mayEnd_J48.eq_1 ..) ?_
  have u1 := CI_b c (k := 309) (j := 20) bd_309_20
  have u2 := CI_b c (k := 309) (j := 36) bd_309_36
  have u3 := CI_b c (k := 309) (j := 43) bd_309_43
  have u4 := CI_b c (k := 316) (j := 0) bd_316_0
  have t5 : s 309 20 = r0 309 20 := f 309 20 (by decide)
  have t6 : s 316 0 = r0 316 0 := f 316 0 (by decide)
  refine T_if1 (by unfold z_bl; omega) ?_
  exact T_ret ⟨c, f, (by omega), (by omega), (by omega), ⟨t0, rfl, by omega, by omega⟩⟩
theorem sj_X12_mayEnd_309_J47 {fu : Nat} (hfu : 8589934592 ≤ fu) (r0 s : z_M) (c : z_CI s) (f : z_Fr R_X12_mayEnd_309 r0 s) (p0 : s 309 36 ≠ 0) (p1 : s 309 43 = 0 ∨ s 309 36 = 0 ∨ (r0 309 36 ≠ 0 ∧ r0 309 43 ≠ 0)) (p2 : r0 309 36 = 0 ∨ s 309 36 ≠ 0) : z_T (fX12_mayEnd_J47 fu s) (P_X12_mayEnd_309 r0) := by
  refine T_of (fX12_mayEnd_J47.eq_1 ..) ?_
  have u1 := CI_b c (k := 309) (j := 20) bd_309_20
  have u2 := CI_b c (k := 309) (j := 36) bd_309_36
  have u3 := CI_b c (k := 309) (j := 43) bd_309_43
  have u4 := CI_b c (k := 316) (j := 0) bd_316_0
  have t5 : s 309 20 = r0 309 20 := f 309 20 (by decide)
  have t6 : s 316 0 = r0 316 0 := f 316 0 (by decide)
  exact sj_X12_mayEnd_309_J48 hfu r0 s c f 0 (by omega) (by omega) (by omega) (by omega)
theorem sf_X12_mayEnd_309 {fu : Nat} (hfu : 8589934592 ≤ fu) (r0 : z_M) (c0 : z_CI r0) (a1 : Int) (b1 : 0 ≤ a1 ∧ a1 ≤ 199) (p0 : y_B r0) : z_T (fX12_mayEnd fu r0 309 a1) (P_X12_mayEnd_309 r0) := by
  refine T_of (fX12_mayEnd.eq_1 ..) ?_
  have u1 := CI_b c0 (k := 309) (j := 20) bd_309_20
  have u2 := CI_b c0 (k := 309) (j := 36) bd_309_36
  have u3 := CI_b c0 (k := 309) (j := 43) bd_309_43
  have u4 := CI_b c0 (k := 316) (j := 0) bd_316_0
  refine T_if1 (by decide +kernel) ?_
  refine T_useN (sf_X12_freshens_309 hfu r0 c0 p0) (fun v10 s5 hq => ?_)
  obtain ⟨c6, f7, o11, o12, o13, o14, rfl⟩ := hq
  refine T_vN ?_
  have f8 := z_Fr.tr (R := R_X12_mayEnd_309) z_Fr.rf f7 rs_X12_freshens_309__X12_mayEnd_309
  have t17 : s5 309 20 = r0 309 20 := f7 309 20 (by decide)
  have t18 : s5 316 0 = r0 316 0 := f7 316 0 (by decide)
  have u19 := CI_b c6 (k := 309) (j := 36) bd_309_36
  have u20 := CI_b c6 (k := 309) (j := 43) bd_309_43
  have r21 := y_B.fr p0 (f7 309 20 (by decide)) (f7 316 0 (by decide)) (fun b => f7 3220 b (nr_X12_freshens_309__3220 b)) (fun b => f7 3221 b (nr_X12_freshens_309__3221 b)) (fun b => f7 3222 b (nr_X12_freshens_309__3222 b)) (fun b => f7 361 b (nr_X12_freshens_309__361 b))
  refine T_leq (fun x22 e23 => ?_)
  first | (have w24 := z_wx e23 (by omega)) | (have w24 := z_wr e23)
  refine T_if1 (by decide +kernel) ?_
  refine T_leq (fun x25 e26 => ?_)
  have u27 := CI_b c6 (k := 309) (j := 20) bd_309_20
  refine T_ite (fun h28 => ?_) (fun h28 => ?_)
  · exact sj_X12_mayEnd_309_J47 hfu r0 s5 c6 f8 (by omega) (by omega) (by omega)
  · refine T_if1 (by decide +kernel) ?_
    refine T_let 3220 (by decide +kernel) ?_
    refine T_if1 (z_ixl (n := 200) (by decide +kernel) (by omega) (by omega)) ?_
    refine T_leq (fun x29 e30 => ?_)
    have u31 := CI_b c6 (k := 3220) (j := a1) (bdr_3220 a1)
    refine T_ite (fun h32 => ?_) (fun h32 => ?_)
    · exact sj_X12_mayEnd_309_J47 hfu r0 s5 c6 f8 (by omega) (by omega) (by omega)
    · refine T_leq (fun x33 e34 => ?_)
      have q35 : x22 = x33 := e23.symm.trans e34
      subst q35
      refine T_if1 (by decide +kernel) ?_
      refine T_useI (sf_X12_isPoint_309 hfu s5 c6 x22 (by omega)) (fun v41 s36 hq => ?_)
      obtain ⟨c37, f38, ⟨x40, rfl, b42, b43⟩⟩ := hq
      refine T_vI ?_
      have q44 := z_Fr.eq (fun a b h => h) f38
      subst q44
      refine T_ite (fun h45 => ?_) (fun h45 => ?_)
      · exact sj_X12_mayEnd_309_J47 hfu r0 s5 c6 f8 (by omega) (by omega) (by omega)
      · refine T_if1 (by decide +kernel) ?_
        refine T_let 3437 (by decide +kernel) ?_
        refine T_if1 (z_ixl (n := 200) (by decide +kernel) (by omega) (by omega)) ?_
        refine T_leq (fun x46 e47 => ?_)
        have u48 := CI_b c6 (k := 3437) (j := a1) (bdr_3437 a1)
        refine T_ite (fun h49 => ?_) (fun h49 => ?_)
        · exact sj_X12_mayEnd_309_J47 hfu r0 s5 c6 f8 (by omega) (by omega) (by omega)
        · exact sj_X12_mayEnd_309_J48 hfu r0 s5 c6 f8 1 (by omega) (by omega) (by omega) (by omega)
abbrev R_X12_comes_309 (a b : Int) : Prop := (3224 ≤ a ∧ a ≤ 3437) ∨ (a = 309 ∧ (b = 35 ∨ b = 36 ∨ b = 38 ∨ b = 39 ∨ b = 43))
abbrev P_X12_comes_309 (r0 : z_M) (a1 : Int) : z_V → z_M → Prop := fun v s' => z_CI s' ∧ z_Fr R_X12_comes_309 r0 s' ∧ (s' 309 43 = 0 ∨ s' 309 36 = 0 ∨ (r0 309 36 ≠ 0 ∧ r0 309 43 ≠ 0)) ∧ (r0 309 36 = 0 ∨ s' 309 36 ≠ 0) ∧ (∃ x, v = vI x ∧ 0 ≤ x ∧ x ≤ 199 ∧ (a1 ≤ x) ∧ (x < s' 309 20))
theorem rs_X12_longAs_309__X12_comes_309 (a b : Int) (h : R_X12_longAs_309 a b) : R_X12_comes_309 a b := (h.elim (fun h => (Or.inl (⟨by omega, by omega⟩))) (fun h => (Or.inr (⟨h.1, by omega⟩))))
theorem nr_X12_longAs_309__3220 (b : Int) : ¬ R_X12_longAs_309 3220 b := by
  unfold R_X12_longAs_309; omega
theorem nr_X12_longAs_309__3221 (b : Int) : ¬ R_X12_longAs_309 3221 b := by
  unfold R_X12_longAs_309; omega
theorem nr_X12_longAs_309__3222 (b : Int) : ¬ R_X12_longAs_309 3222 b := by
  unfold R_X12_longAs_309; omega
theorem nr_X12_longAs_309__361 (b : Int) : ¬ R_X12_longAs_309 361 b := by
  unfold R_X12_longAs_309; omega
theorem sj_X12_comes_309_J58 {fu : Nat} (hfu : 8589934592 ≤ fu) (r0 s : z_M) (c : z_CI s) (f : z_Fr R_X12_comes_309 r0 s) (a1 : Int) (a2 : Int) (a3 : Int) (a4 : Int) (a5 : Int) (b1 : 0 ≤ a1 ∧ a1 ≤ 199) (b2 : -2147483648 ≤ a2 ∧ a2 ≤ 2147483647) (b3 : (-1) ≤ a3 ∧ a3 ≤ 199) (b4 : (-1) ≤ a4 ∧ a4 ≤ 199) (b5 : 0 ≤ a5 ∧ a5 ≤ 199) (p0 : a3 = -1 ∨ (a1 ≤ a3 ∧ a3 < s 309 20)) (p1 : a4 = -1 ∨ (a1 ≤ a4 ∧ a4 < s 309 20)) (p2 : y_B s) (p3 : a1 ≤ a5) (p4 : a5 < s 309 20) (p5 : s 309 43 = 0 ∨ s 309 36 = 0 ∨ (r0 309 36 ≠ 0 ∧ r0 309 43 ≠ 0)) (p6 : r0 309 36 = 0 ∨ s 309 36 ≠ 0) (M : Int) (pm : 2147483647 - a5 ≤ M) {r : z_M → Int → Int → Int → z_O} {k : z_M → Int → Int → z_O} (hr : ∀ (s' : z_M) (v3 : Int) (v4 : Int) (v5 : Int), z_CI s' → z_Fr R_X12_comes_309 r0 s' → ((-1) ≤ v3 ∧ v3 ≤ 199) → ((-1) ≤ v4 ∧ v4 ≤ 199) → (0 ≤ v5 ∧ v5 ≤ 200) → (v3 = -1 ∨ (a1 ≤ v3 ∧ v3 < s' 309 20)) → (v4 = -1 ∨ (a1 ≤ v4 ∧ v4 < s' 309 20)) → (y_B s') → (a1 ≤ v5) → (v5 ≤ s' 309 20) → (s' 309 43 = 0 ∨ s' 309 36 = 0 ∨ (r0 309 36 ≠ 0 ∧ r0 309 43 ≠ 0)) → (r0 309 36 = 0 ∨ s' 309 36 ≠ 0) → (2147483647 - v5 < M) → z_T (r s' v3 v4 v5) (P_X12_comes_309 r0 a1)) (hk : ∀ (s' : z_M) (v3 : Int) (v4 : Int), z_CI s' → z_Fr R_X12_comes_309 r0 s' → ((-1) ≤ v3 ∧ v3 ≤ 199) → ((-1) ≤ v4 ∧ v4 ≤ 199) → (v3 = -1 ∨ (a1 ≤ v3 ∧ v3 < s' 309 20)) → (v4 = -1 ∨ (a1 ≤ v4 ∧ v4 < s' 309 20)) → (y_B s') → (s' 309 43 = 0 ∨ s' 309 36 = 0 ∨ (r0 309 36 ≠ 0 ∧ r0 309 43 ≠ 0)) → (r0 309 36 = 0 ∨ s' 309 36 ≠ 0) → z_T (k s' v3 v4) (P_X12_comes_309 r0 a1)) : z_T (fX12_comes_J58 fu s 309 a1 a2 a3 a4 a5 r k) (P_X12_comes_309 r0 a1) := by
  refine T_of (fX12_comes_J58.eq_1 ..) ?_
  have u1 := CI_b c (k := 309) (j := 20) bd_309_20
  have u2 := CI_b c (k := 309) (j := 36) bd_309_36
  have u3 := CI_b c (k := 309) (j := 43) bd_309_43
  have u4 := CI_b c (k := 316) (j := 0) bd_316_0
  have t5 : s 309 20 = r0 309 20 := f 309 20 (by decide)
  have t6 : s 316 0 = r0 316 0 := f 316 0 (by decide)
  refine T_leq (fun x7 e8 => ?_)
  first | (have w9 := z_wx e8 (by omega)) | (have w9 := z_wr e8)
  exact hr s a3 a4 x7 c f (by omega) (by omega) (by omega) (by omega) (by omega) p2 (by omega) (by omega) (by omega) (by omega) (by omega)
theorem sj_X12_comes_309_J55 {fu : Nat} (hfu : 8589934592 ≤ fu) (r0 s : z_M) (c : z_CI s) (f : z_Fr R_X12_comes_309 r0 s) (a1 : Int) (a2 : Int) (a4 : Int) (a5 : Int) (b1 : 0 ≤ a1 ∧ a1 ≤ 199) (b2 : -2147483648 ≤ a2 ∧ a2 ≤ 2147483647) (b4 : (-1) ≤ a4 ∧ a4 ≤ 199) (b5 : 0 ≤ a5 ∧ a5 ≤ 199) (p0 : a4 = -1 ∨ (a1 ≤ a4 ∧ a4 < s 309 20)) (p1 : y_B s) (p2 : a1 ≤ a5) (p3 : a5 < s 309 20) (p4 : s 309 43 = 0 ∨ s 309 36 = 0 ∨ (r0 309 36 ≠ 0 ∧ r0 309 43 ≠ 0)) (p5 : r0 309 36 = 0 ∨ s 309 36 ≠ 0) (M : Int) (pm : 2147483647 - a5 ≤ M) {r : z_M → Int → Int → Int → z_O} {k : z_M → Int → Int → z_O} (hr : ∀ (s' : z_M) (v3 : Int) (v4 : Int) (v5 : Int), z_CI s' → z_Fr R_X12_comes_309 r0 s' → ((-1) ≤ v3 ∧ v3 ≤ 199) → ((-1) ≤ v4 ∧ v4 ≤ 199) → (0 ≤ v5 ∧ v5 ≤ 200) → (v3 = -1 ∨ (a1 ≤ v3 ∧ v3 < s' 309 20)) → (v4 = -1 ∨ (a1 ≤ v4 ∧ v4 < s' 309 20)) → (y_B s') → (a1 ≤ v5) → (v5 ≤ s' 309 20) → (s' 309 43 = 0 ∨ s' 309 36 = 0 ∨ (r0 309 36 ≠ 0 ∧ r0 309 43 ≠ 0)) → (r0 309 36 = 0 ∨ s' 309 36 ≠ 0) → (2147483647 - v5 < M) → z_T (r s' v3 v4 v5) (P_X12_comes_309 r0 a1)) (hk : ∀ (s' : z_M) (v3 : Int) (v4 : Int), z_CI s' → z_Fr R_X12_comes_309 r0 s' → ((-1) ≤ v3 ∧ v3 ≤ 199) → ((-1) ≤ v4 ∧ v4 ≤ 199) → (v3 = -1 ∨ (a1 ≤ v3 ∧ v3 < s' 309 20)) → (v4 = -1 ∨ (a1 ≤ v4 ∧ v4 < s' 309 20)) → (y_B s') → (s' 309 43 = 0 ∨ s' 309 36 = 0 ∨ (r0 309 36 ≠ 0 ∧ r0 309 43 ≠ 0)) → (r0 309 36 = 0 ∨ s' 309 36 ≠ 0) → z_T (k s' v3 v4) (P_X12_comes_309 r0 a1)) : z_T (fX12_comes_J55 fu s 309 a1 a2 a4 a5 r k) (P_X12_comes_309 r0 a1) := by
  refine T_of (fX12_comes_J55.eq_1 ..) ?_
  have u1 := CI_b c (k := 309) (j := 20) bd_309_20
  have u2 := CI_b c (k := 309) (j := 36) bd_309_36
  have u3 := CI_b c (k := 309) (j := 43) bd_309_43
  have u4 := CI_b c (k := 316) (j := 0) bd_316_0
  have t5 : s 309 20 = r0 309 20 := f 309 20 (by decide)
  have t6 : s 316 0 = r0 316 0 := f 316 0 (by decide)
  exact sj_X12_comes_309_J58 hfu r0 s c f a1 a2 a5 a4 a5 (by omega) (by omega) (by omega) (by omega) (by omega) (by omega) (by omega) p1 (by omega) (by omega) (by omega) (by omega) M (by omega) (fun s' v3 v4 v5 c' f' w3 w4 w5 z0 z1 z2 z3 z4 z5 z6 pg => hr s' v3 v4 v5 c' f' w3 w4 w5 z0 z1 z2 z3 z4 z5 z6 (by omega)) hk
theorem rs_X12_mayEnd_309__X12_comes_309 (a b : Int) (h : R_X12_mayEnd_309 a b) : R_X12_comes_309 a b := (h.elim (fun h => (Or.inl (⟨by omega, by omega⟩))) (fun h => (Or.inr (⟨h.1, by omega⟩))))
theorem nr_X12_mayEnd_309__3220 (b : Int) : ¬ R_X12_mayEnd_309 3220 b := by
  unfold R_X12_mayEnd_309; omega
theorem nr_X12_mayEnd_309__3221 (b : Int) : ¬ R_X12_mayEnd_309 3221 b := by
  unfold R_X12_mayEnd_309; omega
theorem nr_X12_mayEnd_309__3222 (b : Int) : ¬ R_X12_mayEnd_309 3222 b := by
  unfold R_X12_mayEnd_309; omega
theorem nr_X12_mayEnd_309__361 (b : Int) : ¬ R_X12_mayEnd_309 361 b := by
  unfold R_X12_mayEnd_309; omega
theorem sl_X12_comes_309_L8 {fu : Nat} (hfu : 8589934592 ≤ fu) (r0 : z_M) (a1 : Int) (a2 : Int) (b1 : 0 ≤ a1 ∧ a1 ≤ 199) (b2 : -2147483648 ≤ a2 ∧ a2 ≤ 2147483647) {k : z_M → Int → Int → z_O} (hk : ∀ (s' : z_M) (v3 : Int) (v4 : Int), z_CI s' → z_Fr R_X12_comes_309 r0 s' → ((-1) ≤ v3 ∧ v3 ≤ 199) → ((-1) ≤ v4 ∧ v4 ≤ 199) → (v3 = -1 ∨ (a1 ≤ v3 ∧ v3 < s' 309 20)) → (v4 = -1 ∨ (a1 ≤ v4 ∧ v4 < s' 309 20)) → (y_B s') → (s' 309 43 = 0 ∨ s' 309 36 = 0 ∨ (r0 309 36 ≠ 0 ∧ r0 309 43 ≠ 0)) → (r0 309 36 = 0 ∨ s' 309 36 ≠ 0) → z_T (k s' v3 v4) (P_X12_comes_309 r0 a1)) : ∀ (F : Nat) (s : z_M) (a3 : Int) (a4 : Int) (a5 : Int), z_CI s → z_Fr R_X12_comes_309 r0 s → ((-1) ≤ a3 ∧ a3 ≤ 199) → ((-1) ≤ a4 ∧ a4 ≤ 199) → (0 ≤ a5 ∧ a5 ≤ 200) → (a3 = -1 ∨ (a1 ≤ a3 ∧ a3 < s 309 20)) → (a4 = -1 ∨ (a1 ≤ a4 ∧ a4 < s 309 20)) → (y_B s) → (a1 ≤ a5) → (a5 ≤ s 309 20) → (s 309 43 = 0 ∨ s 309 36 = 0 ∨ (r0 309 36 ≠ 0 ∧ r0 309 43 ≠ 0)) → (r0 309 36 = 0 ∨ s 309 36 ≠ 0) → (2147483647 - a5 < (F : Int)) → z_T (fX12_comes_L8 fu 309 a1 a2 F s a3 a4 a5 k) (P_X12_comes_309 r0 a1) := by
  intro F
  induction F with
  | zero =>
    intro s a3 a4 a5 c f b3 b4 b5 i0 i1 i2 i3 i4 i5 i6 hm
    have u52 := CI_b c (k := 309) (j := 20) bd_309_20
    have u53 := CI_b c (k := 309) (j := 36) bd_309_36
    have u54 := CI_b c (k := 309) (j := 43) bd_309_43
    have u55 := CI_b c (k := 316) (j := 0) bd_316_0
    exfalso; omega
  | succ F ih =>
    intro s a3 a4 a5 c f b3 b4 b5 i0 i1 i2 i3 i4 i5 i6 hm
    refine T_of (fX12_comes_L8.eq_2 ..) ?_
    have u1 := CI_b c (k := 309) (j := 20) bd_309_20
    have u2 := CI_b c (k := 309) (j := 36) bd_309_36
    have u3 := CI_b c (k := 309) (j := 43) bd_309_43
    have u4 := CI_b c (k := 316) (j := 0) bd_316_0
    have t5 : s 309 20 = r0 309 20 := f 309 20 (by decide)
    have t6 : s 316 0 = r0 316 0 := f 316 0 (by decide)
    refine T_if1 (by decide +kernel) ?_
    refine T_leq (fun x7 e8 => ?_)
    have u9 := CI_b c (k := 309) (j := 20) bd_309_20
    refine T_ite (fun h10 => ?_) (fun h10 => ?_)
    · exact hk s a3 a4 c f (by omega) (by omega) (by omega) (by omega) i2 (by omega) (by omega)
    · refine T_if1 (by decide +kernel) ?_
      refine T_useI (sf_X12_longAs_309 hfu s c a1 a5 (by omega) (by omega) i2 (by omega) (by omega)) (fun v16 s11 hq => ?_)
      obtain ⟨c12, f13, o17, o18, o19, ⟨x15, rfl, b20, b21⟩⟩ := hq
      refine T_vI ?_
      have f14 := z_Fr.tr (R := R_X12_comes_309) f f13 rs_X12_longAs_309__X12_comes_309
      have t22 : s11 309 20 = x7 := (f13 309 20 (by decide)).trans e8
      have t23 : s11 316 0 = s 316 0 := f13 316 0 (by decide)
      have u24 := CI_b c12 (k := 309) (j := 36) bd_309_36
      have u25 := CI_b c12 (k := 309) (j := 43) bd_309_43
      have r26 := y_B.fr i2 (f13 309 20 (by decide)) (f13 316 0 (by decide)) (fun b => f13 3220 b (nr_X12_longAs_309__3220 b)) (fun b => f13 3221 b (nr_X12_longAs_309__3221 b)) (fun b => f13 3222 b (nr_X12_longAs_309__3222 b)) (fun b => f13 361 b (nr_X12_longAs_309__361 b))
      refine T_ite (fun h27 => ?_) (fun h27 => ?_)
      · refine T_if1 (by decide +kernel) ?_
        refine T_leq (fun x28 e29 => ?_)
        have q30 : x7 = x28 := t22.symm.trans e29
        subst q30
        refine T_leq (fun x31 e32 => ?_)
        first | (have w33 := z_wx e32 (by omega)) | (have w33 := z_wr e32)
        refine T_ite (fun h34 => ?_) (fun h34 => ?_)
        · exact sj_X12_comes_309_J55 hfu r0 s11 c12 f14 a1 a2 a5 a5 (by omega) (by omega) (by omega) (by omega) (by omega) r26 (by omega) (by omega) (by omega) (by omega) (2147483647 - a5) (by omega) (fun s' v3 v4 v5 c' f' w3 w4 w5 z0 z1 z2 z3 z4 z5 z6 pg => ih s' v3 v4 v5 c' f' w3 w4 w5 z0 z1 z2 z3 z4 z5 z6 (by omega)) hk
        · refine T_if1 (by decide +kernel) ?_
          refine T_useI (sf_X12_mayEnd_309 hfu s11 c12 a5 (by omega) r26) (fun v40 s35 hq => ?_)
          obtain ⟨c36, f37, o41, o42, o43, ⟨x39, rfl, b44, b45⟩⟩ := hq
          refine T_vI ?_
          have f38 := z_Fr.tr (R := R_X12_comes_309) f14 f37 rs_X12_mayEnd_309__X12_comes_309
          have t46 : s35 309 20 = x7 := (f37 309 20 (by decide)).trans t22
          have t47 : s35 316 0 = s 316 0 := (f37 316 0 (by decide)).trans t23
          have u48 := CI_b c36 (k := 309) (j := 36) bd_309_36
          have u49 := CI_b c36 (k := 309) (j := 43) bd_309_43
          have r50 := y_B.fr r26 (f37 309 20 (by decide)) (f37 316 0 (by decide)) (fun b => f37 3220 b (nr_X12_mayEnd_309__3220 b)) (fun b => f37 3221 b (nr_X12_mayEnd_309__3221 b)) (fun b => f37 3222 b (nr_X12_mayEnd_309__3222 b)) (fun b => f37 361 b (nr_X12_mayEnd_309__361 b))
          clear t22
          clear t23
          refine T_ite (fun h51 => ?_) (fun h51 => ?_)
          · exact sj_X12_comes_309_J58 hfu r0 s35 c36 f38 a1 a2 a3 a5 a5 (by omega) (by omega) (by omega) (by omega) (by omega) (by omega) (by omega) r50 (by omega) (by omega) (by omega) (by omega) (2147483647 - a5) (by omega) (fun s' v3 v4 v5 c' f' w3 w4 w5 z0 z1 z2 z3 z4 z5 z6 pg => ih s' v3 v4 v5 c' f' w3 w4 w5 z0 z1 z2 z3 z4 z5 z6 (by omega)) hk
          · exact sj_X12_comes_309_J55 hfu r0 s35 c36 f38 a1 a2 a5 a5 (by omega) (by omega) (by omega) (by omega) (by omega) r50 (by omega) (by omega) (by omega) (by omega) (2147483647 - a5) (by omega) (fun s' v3 v4 v5 c' f' w3 w4 w5 z0 z1 z2 z3 z4 z5 z6 pg => ih s' v3 v4 v5 c' f' w3 w4 w5 z0 z1 z2 z3 z4 z5 z6 (by omega)) hk
      · exact sj_X12_comes_309_J58 hfu r0 s11 c12 f14 a1 a2 a3 a4 a5 (by omega) (by omega) (by omega) (by omega) (by omega) (by omega) (by omega) r26 (by omega) (by omega) (by omega) (by omega) (2147483647 - a5) (by omega) (fun s' v3 v4 v5 c' f' w3 w4 w5 z0 z1 z2 z3 z4 z5 z6 pg => ih s' v3 v4 v5 c' f' w3 w4 w5 z0 z1 z2 z3 z4 z5 z6 (by omega)) hk
theorem sj_X12_comes_309_J85 {fu : Nat} (hfu : 8589934592 ≤ fu) (r0 s : z_M) (c : z_CI s) (f : z_Fr R_X12_comes_309 r0 s) (t0 : Int) (a1 : Int) (d0 : 0 ≤ t0 ∧ t0 ≤ 199) (p0 : a1 ≤ t0) (p1 : t0 < s 309 20) (p2 : s 309 43 = 0 ∨ s 309 36 = 0 ∨ (r0 309 36 ≠ 0 ∧ r0 309 43 ≠ 0)) (p3 : r0 309 36 = 0 ∨ s 309 36 ≠ 0) : z_T (fX12_comes_J85 fu s t0) (P_X12_comes_309 r0 a1) := by
  refine T_of (fX12_comes_J85.eq_1 ..) ?_
  have u1 := CI_b c (k := 309) (j := 20) bd_309_20
  have u2 := CI_b c (k := 309) (j := 36) bd_309_36
  have u3 := CI_b c (k := 309) (j := 43) bd_309_43
  have u4 := CI_b c (k := 316) (j := 0) bd_316_0
  have t5 : s 309 20 = r0 309 20 := f 309 20 (by decide)
  have t6 : s 316 0 = r0 316 0 := f 316 0 (by decide)
  exact T_ret ⟨c, f, (by omega), (by omega), ⟨t0, rfl, by omega, by omega, (by omega), (by omega)⟩⟩
theorem sf_X12_comes_309 {fu : Nat} (hfu : 8589934592 ≤ fu) (r0 : z_M) (c0 : z_CI r0) (a1 : Int) (a2 : Int) (b1 : 0 ≤ a1 ∧ a1 ≤ 199) (b2 : -2147483648 ≤ a2 ∧ a2 ≤ 2147483647) (p0 : y_B r0) (p1 : a1 < r0 309 20) : z_T (fX12_comes fu r0 309 a1 a2) (P_X12_comes_309 r0 a1) := by
  refine T_of (fX12_comes.eq_1 ..) ?_
  have u1 := CI_b c0 (k := 309) (j := 20) bd_309_20
  have u2 := CI_b c0 (k := 309) (j := 36) bd_309_36
  have u3 := CI_b c0 (k := 309) (j := 43) bd_309_43
  have u4 := CI_b c0 (k := 316) (j := 0) bd_316_0
  refine sl_X12_comes_309_L8 hfu r0 a1 a2 (by omega) (by omega) (fun s5 y8 y9 c6 f7 b10 b11 g12 g13 g14 g15 g16 => ?_) fu r0 (-1) (-1) a1 c0 z_Fr.rf (by omega) (by omega) (by omega) (by omega) (by omega) p0 (by omega) (by omega) (by omega) (by omega) (by omega)
  have u17 := CI_b c6 (k := 309) (j := 20) bd_309_20
  have u18 := CI_b c6 (k := 309) (j := 36) bd_309_36
  have u19 := CI_b c6 (k := 309) (j := 43) bd_309_43
  have u20 := CI_b c6 (k := 316) (j := 0) bd_316_0
  have t21 : s5 309 20 = r0 309 20 := f7 309 20 (by decide)
  have t22 : s5 316 0 = r0 316 0 := f7 316 0 (by decide)
  refine T_ite (fun h23 => ?_) (fun h23 => ?_)
  · refine T_ite (fun h24 => ?_) (fun h24 => ?_)
    · exact sj_X12_comes_309_J85 hfu r0 s5 c6 f7 a1 a1 (by omega) (by omega) (by omega) (by omega) (by omega)
    · exact sj_X12_comes_309_J85 hfu r0 s5 c6 f7 y9 a1 (by omega) (by omega) (by omega) (by omega) (by omega)
  · exact sj_X12_comes_309_J85 hfu r0 s5 c6 f7 y8 a1 (by omega) (by omega) (by omega) (by omega) (by omega)
abbrev R_X12_cost_309 (a b : Int) : Prop := (3224 ≤ a ∧ a ≤ 3437) ∨ (a = 309 ∧ (b = 35 ∨ b = 36 ∨ b = 38 ∨ b = 39 ∨ b = 43))
abbrev P_X12_cost_309 (r0 : z_M) : z_V → z_M → Prop := fun v s' => z_CI s' ∧ z_Fr R_X12_cost_309 r0 s' ∧ (s' 309 43 = 0 ∨ s' 309 36 = 0 ∨ (r0 309 36 ≠ 0 ∧ r0 309 43 ≠ 0)) ∧ (r0 309 36 = 0 ∨ s' 309 36 ≠ 0) ∧ (∃ x, v = vL x ∧ -9223372036854775808 ≤ x ∧ x ≤ 9223372036854775807)
theorem rs_X12_longAs_309__X12_cost_309 (a b : Int) (h : R_X12_longAs_309 a b) : R_X12_cost_309 a b := (h.elim (fun h => (Or.inl (⟨by omega, by omega⟩))) (fun h => (Or.inr (⟨h.1, by omega⟩))))
theorem sj_X12_cost_309_J49 {fu : Nat} (hfu : 8589934592 ≤ fu) (r0 s : z_M) (c : z_CI s) (f : z_Fr R_X12_cost_309 r0 s) (t0 : Int) (d0 : -9223372036854775808 ≤ t0 ∧ t0 ≤ 9223372036854775807) (p0 : s 309 43 = 0 ∨ s 309 36 = 0 ∨ (r0 309 36 ≠ 0 ∧ r0 309 43 ≠ 0)) (p1 : r0 309 36 = 0 ∨ s 309 36 ≠ 0) : z_T (fX12_cost_J49 fu s t0) (P_X12_cost_309 r0) := by
  refine T_of (fX12_cost_J49.eq_1 ..) ?_
  have u1 := CI_b c (k := 309) (j := 20) bd_309_20
  have u2 := CI_b c (k := 309) (j := 36) bd_309_36
  have u3 := CI_b c (k := 309) (j := 43) bd_309_43
  have u4 := CI_b c (k := 316) (j := 0) bd_316_0
  have t5 : s 309 20 = r0 309 20 := f 309 20 (by decide)
  have t6 : s 316 0 = r0 316 0 := f 316 0 (by decide)
  exact T_ret ⟨c, f, (by omega), (by omega), ⟨t0, rfl, by omega, by omega⟩⟩
theorem sf_X12_cost_309 {fu : Nat} (hfu : 8589934592 ≤ fu) (r0 : z_M) (c0 : z_CI r0) (a1 : Int) (a2 : Int) (a3 : Int) (b1 : 0 ≤ a1 ∧ a1 ≤ 199) (b2 : 0 ≤ a2 ∧ a2 ≤ 199) (b3 : -2147483648 ≤ a3 ∧ a3 ≤ 2147483647) (p0 : y_B r0) (p1 : a1 ≤ a2) (p2 : a2 < r0 309 20) : z_T (fX12_cost fu r0 309 a1 a2 a3) (P_X12_cost_309 r0) := by
  refine T_of (fX12_cost.eq_1 ..) ?_
  have u1 := CI_b c0 (k := 309) (j := 20) bd_309_20
  have u2 := CI_b c0 (k := 309) (j := 36) bd_309_36
  have u3 := CI_b c0 (k := 309) (j := 43) bd_309_43
  have u4 := CI_b c0 (k := 316) (j := 0) bd_316_0
  refine T_if1 (by decide +kernel) ?_
  refine T_useI (sf_X12_longAs_309 hfu r0 c0 a1 a2 (by omega) (by omega) p0 (by omega) (by omega)) (fun v10 s5 hq => ?_)
  obtain ⟨c6, f7, o11, o12, o13, ⟨x9, rfl, b14, b15⟩⟩ := hq
  refine T_vI ?_
  have f8 := z_Fr.tr (R := R_X12_cost_309) z_Fr.rf f7 rs_X12_longAs_309__X12_cost_309
  have t16 : s5 309 20 = r0 309 20 := f7 309 20 (by decide)
  have t17 : s5 316 0 = r0 316 0 := f7 316 0 (by decide)
  have u18 := CI_b c6 (k := 309) (j := 36) bd_309_36
  have u19 := CI_b c6 (k := 309) (j := 43) bd_309_43
  have r20 := y_B.fr p0 (f7 309 20 (by decide)) (f7 316 0 (by decide)) (fun b => f7 3220 b (nr_X12_longAs_309__3220 b)) (fun b => f7 3221 b (nr_X12_longAs_309__3221 b)) (fun b => f7 3222 b (nr_X12_longAs_309__3222 b)) (fun b => f7 361 b (nr_X12_longAs_309__361 b))
  refine T_ite (fun h21 => ?_) (fun h21 => ?_)
  · refine T_if1 (by decide +kernel) ?_
    refine T_leq (fun x22 e23 => ?_)
    have u24 := CI_b c6 (k := 309) (j := 20) bd_309_20
    refine T_leq (fun x25 e26 => ?_)
    first | (have w27 := z_wx e26 (by omega)) | (have w27 := z_wr e26)
    refine T_ite (fun h28 => ?_) (fun h28 => ?_)
    · refine T_leq (fun x29 e30 => ?_)
      first | (have w31 := z_wx e30 (by omega)) | (have w31 := z_wr e30)
      refine T_leq (fun x32 e33 => ?_)
      have q34 : x29 = x32 := e30.symm.trans e33
      subst q34
      refine T_leq (fun x35 e36 => ?_)
      have w37 := z_wlr e36
      exact sj_X12_cost_309_J49 hfu r0 s5 c6 f8 x35 (by omega) (by omega) (by omega)
    · exact sj_X12_cost_309_J49 hfu r0 s5 c6 f8 0 (by omega) (by omega) (by omega)
  · refine T_leq (fun x38 e39 => ?_)
    first | (have w40 := z_wx e39 (by omega)) | (have w40 := z_wr e39)
    refine T_leq (fun x41 e42 => ?_)
    have w43 := z_wlr e42
    exact T_ret ⟨c6, f8, (by omega), (by omega), ⟨x41, rfl, by omega, by omega⟩⟩
abbrev R_X12_laysBest_309 (a b : Int) : Prop := (3224 ≤ a ∧ a ≤ 3440) ∨ (a = 309 ∧ (b = 35 ∨ b = 36 ∨ b = 38 ∨ b = 39 ∨ b = 43))
abbrev P_X12_laysBest_309 (r0 : z_M) : z_V → z_M → Prop := fun v s' => z_CI s' ∧ z_Fr R_X12_laysBest_309 r0 s' ∧ (y_N s' 0) ∧ (s' 309 43 = 0 ∨ s' 309 36 = 0 ∨ (r0 309 36 ≠ 0 ∧ r0 309 43 ≠ 0)) ∧ (r0 309 36 = 0 ∨ s' 309 36 ≠ 0) ∧ (v = vN)
theorem rs_X12_cost_309__X12_laysBest_309 (a b : Int) (h : R_X12_cost_309 a b) : R_X12_laysBest_309 a b := (h.elim (fun h => (Or.inl (⟨by omega, by omega⟩))) (fun h => (Or.inr (⟨h.1, by omega⟩))))
theorem nr_X12_cost_309__3440 (b : Int) : ¬ R_X12_cost_309 3440 b := by
  unfold R_X12_cost_309; omega
theorem nr_X12_cost_309__3220 (b : Int) : ¬ R_X12_cost_309 3220 b := by
  unfold R_X12_cost_309; omega
theorem nr_X12_cost_309__3221 (b : Int) : ¬ R_X12_cost_309 3221 b := by
  unfold R_X12_cost_309; omega
theorem nr_X12_cost_309__3222 (b : Int) : ¬ R_X12_cost_309 3222 b := by
  unfold R_X12_cost_309; omega
theorem nr_X12_cost_309__361 (b : Int) : ¬ R_X12_cost_309 361 b := by
  unfold R_X12_cost_309; omega
theorem nr_X12_cost_309__3439 (b : Int) : ¬ R_X12_cost_309 3439 b := by
  unfold R_X12_cost_309; omega
theorem sj_X12_laysBest_309_J122 {fu : Nat} (hfu : 8589934592 ≤ fu) (r0 s : z_M) (c : z_CI s) (f : z_Fr R_X12_laysBest_309 r0 s) (a1 : Int) (a2 : Int) (a3 : Int) (b1 : -2147483648 ≤ a1 ∧ a1 ≤ 2147483647) (b2 : 0 ≤ a2 ∧ a2 ≤ 199) (b3 : 0 ≤ a3 ∧ a3 ≤ 199) (p0 : a2 ≤ a3) (p1 : a3 < s 309 20) (p2 : y_N s (a2 + 1)) (p3 : y_B s) (p4 : y_X s a2 (a3 + 1)) (p5 : s 309 43 = 0 ∨ s 309 36 = 0 ∨ (r0 309 36 ≠ 0 ∧ r0 309 43 ≠ 0)) (p6 : r0 309 36 = 0 ∨ s 309 36 ≠ 0) (M : Int) (pm : 2147483647 - a3 ≤ M) {r : z_M → Int → z_O} {k : z_M → z_O} (hr : ∀ (s' : z_M) (v3 : Int), z_CI s' → z_Fr R_X12_laysBest_309 r0 s' → (0 ≤ v3 ∧ v3 ≤ 200) → (y_X s' a2 v3) → (y_N s' (a2 + 1)) → (a2 ≤ v3) → (v3 ≤ s' 309 20) → (a2 < s' 309 20) → (y_B s') → (s' 309 43 = 0 ∨ s' 309 36 = 0 ∨ (r0 309 36 ≠ 0 ∧ r0 309 43 ≠ 0)) → (r0 309 36 = 0 ∨ s' 309 36 ≠ 0) → (2147483647 - v3 < M) → z_T (r s' v3) (P_X12_laysBest_309 r0)) (hk : ∀ (s' : z_M), z_CI s' → z_Fr R_X12_laysBest_309 r0 s' → (y_N s' a2) → (a2 < s' 309 20) → (y_B s') → (s' 309 43 = 0 ∨ s' 309 36 = 0 ∨ (r0 309 36 ≠ 0 ∧ r0 309 43 ≠ 0)) → (r0 309 36 = 0 ∨ s' 309 36 ≠ 0) → z_T (k s') (P_X12_laysBest_309 r0)) : z_T (fX12_laysBest_J122 fu s 309 a1 a2 a3 r k) (P_X12_laysBest_309 r0) := by
  refine T_of (fX12_laysBest_J122.eq_1 ..) ?_
  have u1 := CI_b c (k := 309) (j := 20) bd_309_20
  have u2 := CI_b c (k := 309) (j := 36) bd_309_36
  have u3 := CI_b c (k := 309) (j := 43) bd_309_43
  have u4 := CI_b c (k := 316) (j := 0) bd_316_0
  have t5 : s 309 20 = r0 309 20 := f 309 20 (by decide)
  have t6 : s 316 0 = r0 316 0 := f 316 0 (by decide)
  refine T_leq (fun x7 e8 => ?_)
  first | (have w9 := z_wx e8 (by omega)) | (have w9 := z_wr e8)
  exact hr s x7 c f (by omega) (by first | exact y_X.cg p4 (by omega) (by omega) | exact y_X.sk p4 (by omega) (by omega) | exact y_X.ne p4 (by omega) (by omega) | exact y_X.st (by omega)) (by first | exact y_N.cg p2 (by omega) | exact y_N.z (by omega) | exact y_N.dn p2 p4 (by omega) (by omega) (by omega)) (by omega) (by omega) (by omega) p3 (by omega) (by omega) (by omega)
theorem sj_X12_laysBest_309_J107 {fu : Nat} (hfu : 8589934592 ≤ fu) (r0 s : z_M) (c : z_CI s) (f : z_Fr R_X12_laysBest_309 r0 s) (a1 : Int) (a2 : Int) (a3 : Int) (a4 : Int) (b1 : -2147483648 ≤ a1 ∧ a1 ≤ 2147483647) (b2 : 0 ≤ a2 ∧ a2 ≤ 199) (b3 : 0 ≤ a3 ∧ a3 ≤ 199) (b4 : -9223372036854775808 ≤ a4 ∧ a4 ≤ 9223372036854775807) (p0 : a2 ≤ a3) (p1 : a3 < s 309 20) (p2 : y_N s (a2 + 1)) (p3 : y_B s) (p4 : y_X s a2 a3) (p5 : s 309 43 = 0 ∨ s 309 36 = 0 ∨ (r0 309 36 ≠ 0 ∧ r0 309 43 ≠ 0)) (p6 : r0 309 36 = 0 ∨ s 309 36 ≠ 0) (M : Int) (pm : 2147483647 - a3 ≤ M) {r : z_M → Int → z_O} {k : z_M → z_O} (hr : ∀ (s' : z_M) (v3 : Int), z_CI s' → z_Fr R_X12_laysBest_309 r0 s' → (0 ≤ v3 ∧ v3 ≤ 200) → (y_X s' a2 v3) → (y_N s' (a2 + 1)) → (a2 ≤ v3) → (v3 ≤ s' 309 20) → (a2 < s' 309 20) → (y_B s') → (s' 309 43 = 0 ∨ s' 309 36 = 0 ∨ (r0 309 36 ≠ 0 ∧ r0 309 43 ≠ 0)) → (r0 309 36 = 0 ∨ s' 309 36 ≠ 0) → (2147483647 - v3 < M) → z_T (r s' v3) (P_X12_laysBest_309 r0)) (hk : ∀ (s' : z_M), z_CI s' → z_Fr R_X12_laysBest_309 r0 s' → (y_N s' a2) → (a2 < s' 309 20) → (y_B s') → (s' 309 43 = 0 ∨ s' 309 36 = 0 ∨ (r0 309 36 ≠ 0 ∧ r0 309 43 ≠ 0)) → (r0 309 36 = 0 ∨ s' 309 36 ≠ 0) → z_T (k s') (P_X12_laysBest_309 r0)) : z_T (fX12_laysBest_J107 fu s 309 a1 a2 a3 a4 r k) (P_X12_laysBest_309 r0) := by
  refine T_of (fX12_laysBest_J107.eq_1 ..) ?_
  have u1 := CI_b c (k := 309) (j := 20) bd_309_20
  have u2 := CI_b c (k := 309) (j := 36) bd_309_36
  have u3 := CI_b c (k := 309) (j := 43) bd_309_43
  have u4 := CI_b c (k := 316) (j := 0) bd_316_0
  have t5 : s 309 20 = r0 309 20 := f 309 20 (by decide)
  have t6 : s 316 0 = r0 316 0 := f 316 0 (by decide)
  refine T_if1 (by decide +kernel) ?_
  refine T_let 3439 (by decide +kernel) ?_
  refine T_if1 (z_ixl (n := 201) (by decide +kernel) (by omega) (by omega)) ?_
  refine T_upg c (bdr_3439 a2) (by omega) (fun s7 c8 g10 g11 e12 => ?_)
  have f9 := z_Fr.up (R := R_X12_laysBest_309) f g10 (fun _ => (Or.inl (⟨by decide, by decide⟩)))
  have t13 : s7 309 20 = s 309 20 := g10 309 20 (by decide)
  have t14 : s7 309 36 = s 309 36 := g10 309 36 (by decide)
  have t15 : s7 309 43 = s 309 43 := g10 309 43 (by decide)
  have t16 : s7 316 0 = s 316 0 := g10 316 0 (by decide)
  have r17 := y_N.fr p2 (g10 309 20 (by decide)) (fun b => g10 3440 b (by decide))
  have r18 := y_B.fr p3 (g10 309 20 (by decide)) (g10 316 0 (by decide)) (fun b => g10 3220 b (by decide)) (fun b => g10 3221 b (by decide)) (fun b => g10 3222 b (by decide)) (fun b => g10 361 b (by decide))
  refine T_if1 (by decide +kernel) ?_
  refine T_let 3440 (by decide +kernel) ?_
  refine T_if1 (z_ixl (n := 200) (by decide +kernel) (by omega) (by omega)) ?_
  refine T_upg c8 (bdr_3440 a2) (by omega) (fun s19 c20 g22 g23 e24 => ?_)
  have f21 := z_Fr.up (R := R_X12_laysBest_309) f9 g22 (fun _ => (Or.inl (⟨by decide, by decide⟩)))
  have t25 : s19 309 20 = s 309 20 := (g22 309 20 (by decide)).trans t13
  have t26 : s19 309 36 = s 309 36 := (g22 309 36 (by decide)).trans t14
  have t27 : s19 309 43 = s 309 43 := (g22 309 43 (by decide)).trans t15
  have t28 : s19 316 0 = s 316 0 := (g22 316 0 (by decide)).trans t16
  have r29 := y_B.fr r18 (g22 309 20 (by decide)) (g22 316 0 (by decide)) (fun b => g22 3220 b (by decide)) (fun b => g22 3221 b (by decide)) (fun b => g22 3222 b (by decide)) (fun b => g22 361 b (by decide))
  have r30 := y_N.st r17 (g22 309 20 (by decide)) g23 (by omega)
  clear t13
  clear t14
  clear t15
  clear t16
  exact sj_X12_laysBest_309_J122 hfu r0 s19 c20 f21 a1 a2 a3 (by omega) (by omega) (by omega) (by omega) (by omega) (by first | exact y_N.cg r30 (by omega) | exact y_N.z (by omega)) r29 (by first | exact y_X.st (by omega)) (by omega) (by omega) M (by omega) (fun s' v3 c' f' w3 z0 z1 z2 z3 z4 z5 z6 z7 pg => hr s' v3 c' f' w3 z0 z1 z2 z3 z4 z5 z6 z7 (by omega)) hk
theorem sj_X12_laysBest_309_J61 {fu : Nat} (hfu : 8589934592 ≤ fu) (r0 s : z_M) (c : z_CI s) (f : z_Fr R_X12_laysBest_309 r0 s) (a1 : Int) (a2 : Int) (a3 : Int) (b1 : -2147483648 ≤ a1 ∧ a1 ≤ 2147483647) (b2 : 0 ≤ a2 ∧ a2 ≤ 199) (b3 : 0 ≤ a3 ∧ a3 ≤ 199) (p0 : a2 ≤ a3) (p1 : a3 < s 309 20) (p2 : y_N s (a2 + 1)) (p3 : y_B s) (p4 : y_X s a2 a3) (p5 : s 309 43 = 0 ∨ s 309 36 = 0 ∨ (r0 309 36 ≠ 0 ∧ r0 309 43 ≠ 0)) (p6 : r0 309 36 = 0 ∨ s 309 36 ≠ 0) (M : Int) (pm : 2147483647 - a3 ≤ M) {r : z_M → Int → z_O} {k : z_M → z_O} (hr : ∀ (s' : z_M) (v3 : Int), z_CI s' → z_Fr R_X12_laysBest_309 r0 s' → (0 ≤ v3 ∧ v3 ≤ 200) → (y_X s' a2 v3) → (y_N s' (a2 + 1)) → (a2 ≤ v3) → (v3 ≤ s' 309 20) → (a2 < s' 309 20) → (y_B s') → (s' 309 43 = 0 ∨ s' 309 36 = 0 ∨ (r0 309 36 ≠ 0 ∧ r0 309 43 ≠ 0)) → (r0 309 36 = 0 ∨ s' 309 36 ≠ 0) → (2147483647 - v3 < M) → z_T (r s' v3) (P_X12_laysBest_309 r0)) (hk : ∀ (s' : z_M), z_CI s' → z_Fr R_X12_laysBest_309 r0 s' → (y_N s' a2) → (a2 < s' 309 20) → (y_B s') → (s' 309 43 = 0 ∨ s' 309 36 = 0 ∨ (r0 309 36 ≠ 0 ∧ r0 309 43 ≠ 0)) → (r0 309 36 = 0 ∨ s' 309 36 ≠ 0) → z_T (k s') (P_X12_laysBest_309 r0)) : z_T (fX12_laysBest_J61 fu s 309 a1 a2 a3 r k) (P_X12_laysBest_309 r0) := by
  refine T_of (fX12_laysBest_J61.eq_1 ..) ?_
  have u1 := CI_b c (k := 309) (j := 20) bd_309_20
  have u2 := CI_b c (k := 309) (j := 36) bd_309_36
  have u3 := CI_b c (k := 309) (j := 43) bd_309_43
  have u4 := CI_b c (k := 316) (j := 0) bd_316_0
  have t5 : s 309 20 = r0 309 20 := f 309 20 (by decide)
  have t6 : s 316 0 = r0 316 0 := f 316 0 (by decide)
  refine T_if1 (by decide +kernel) ?_
  refine T_useL (sf_X12_cost_309 hfu s c a2 a3 a1 (by omega) (by omega) (by omega) p3 (by omega) (by omega)) (fun v12 s7 hq => ?_)
  obtain ⟨c8, f9, o13, o14, ⟨x11, rfl, b15, b16⟩⟩ := hq
  refine T_vL ?_
  have f10 := z_Fr.tr (R := R_X12_laysBest_309) f f9 rs_X12_cost_309__X12_laysBest_309
  have t17 : s7 309 20 = s 309 20 := f9 309 20 (by decide)
  have t18 : s7 316 0 = s 316 0 := f9 316 0 (by decide)
  have u19 := CI_b c8 (k := 309) (j := 36) bd_309_36
  have u20 := CI_b c8 (k := 309) (j := 43) bd_309_43
  have r21 := y_N.fr p2 (f9 309 20 (by decide)) (fun b => f9 3440 b (nr_X12_cost_309__3440 b))
  have r22 := y_B.fr p3 (f9 309 20 (by decide)) (f9 316 0 (by decide)) (fun b => f9 3220 b (nr_X12_cost_309__3220 b)) (fun b => f9 3221 b (nr_X12_cost_309__3221 b)) (fun b => f9 3222 b (nr_X12_cost_309__3222 b)) (fun b => f9 361 b (nr_X12_cost_309__361 b))
  have r23 := y_X.fr p4 (f9 309 20 (by decide)) (fun b => f9 3439 b (nr_X12_cost_309__3439 b)) (fun b => f9 3440 b (nr_X12_cost_309__3440 b))
  refine T_if1 (by decide +kernel) ?_
  refine T_let 3439 (by decide +kernel) ?_
  refine T_leq (fun x24 e25 => ?_)
  first | (have w26 := z_wx e25 (by omega)) | (have w26 := z_wr e25)
  refine T_if1 (z_ixl (n := 201) (by decide +kernel) (by omega) (by omega)) ?_
  refine T_leq (fun x27 e28 => ?_)
  have u29 := CI_b c8 (k := 3439) (j := x24) (bdr_3439 x24)
  refine T_leq (fun x30 e31 => ?_)
  have w32 := z_wlr e31
  refine T_if1 (by decide +kernel) ?_
  refine T_let 3439 (by decide +kernel) ?_
  refine T_if1 (z_ixl (n := 201) (by decide +kernel) (by omega) (by omega)) ?_
  refine T_leq (fun x33 e34 => ?_)
  have u35 := CI_b c8 (k := 3439) (j := a2) (bdr_3439 a2)
  refine T_leq (fun x36 e37 => ?_)
  have w38 : -1 ≤ x36 ∧ x36 ≤ 1 := by rw [← e37]; exact z_cmpb _ _
  have w39 := z_cmp3 x33 (-1)
  rw [e37] at w39
  refine T_ite (fun h40 => ?_) (fun h40 => ?_)
  · exact sj_X12_laysBest_309_J107 hfu r0 s7 c8 f10 a1 a2 a3 x30 (by omega) (by omega) (by omega) (by omega) (by omega) (by omega) (by first | exact y_N.cg r21 (by omega) | exact y_N.z (by omega) | exact y_N.dn r21 r23 (by omega) (by omega) (by omega)) r22 (by first | exact y_X.cg r23 (by omega) (by omega) | exact y_X.sk r23 (by omega) (by omega) | exact y_X.ne r23 (by omega) (by omega) | exact y_X.st (by omega)) (by omega) (by omega) M (by omega) (fun s' v3 c' f' w3 z0 z1 z2 z3 z4 z5 z6 z7 pg => hr s' v3 c' f' w3 z0 z1 z2 z3 z4 z5 z6 z7 (by omega)) hk
  · refine T_if1 (by decide +kernel) ?_
    refine T_let 3439 (by decide +kernel) ?_
    refine T_if1 (z_ixl (n := 201) (by decide +kernel) (by omega) (by omega)) ?_
    refine T_leq (fun x41 e42 => ?_)
    have q43 : x33 = x41 := e34.symm.trans e42
    subst q43
    refine T_leq (fun x44 e45 => ?_)
    have w46 : -1 ≤ x44 ∧ x44 ≤ 1 := by rw [← e45]; exact z_cmpb _ _
    have w47 := z_cmp3 x30 x33
    rw [e45] at w47
    refine T_ite (fun h48 => ?_) (fun h48 => ?_)
    · exact sj_X12_laysBest_309_J107 hfu r0 s7 c8 f10 a1 a2 a3 x30 (by omega) (by omega) (by omega) (by omega) (by omega) (by omega) (by first | exact y_N.cg r21 (by omega) | exact y_N.z (by omega) | exact y_N.dn r21 r23 (by omega) (by omega) (by omega)) r22 (by first | exact y_X.cg r23 (by omega) (by omega) | exact y_X.sk r23 (by omega) (by omega) | exact y_X.ne r23 (by omega) (by omega) | exact y_X.st (by omega)) (by omega) (by omega) M (by omega) (fun s' v3 c' f' w3 z0 z1 z2 z3 z4 z5 z6 z7 pg => hr s' v3 c' f' w3 z0 z1 z2 z3 z4 z5 z6 z7 (by omega)) hk
    · exact sj_X12_laysBest_309_J122 hfu r0 s7 c8 f10 a1 a2 a3 (by omega) (by omega) (by omega) (by omega) (by omega) (by first | exact y_N.cg r21 (by omega) | exact y_N.z (by omega) | exact y_N.dn r21 r23 (by omega) (by omega) (by omega)) r22 (by first | exact y_X.cg r23 (by omega) (by omega) | exact y_X.sk r23 (by omega) (by omega) | exact y_X.ne r23 (by omega) (by omega) | exact y_X.st (by omega)) (by omega) (by omega) M (by omega) (fun s' v3 c' f' w3 z0 z1 z2 z3 z4 z5 z6 z7 pg => hr s' v3 c' f' w3 z0 z1 z2 z3 z4 z5 z6 z7 (by omega)) hk
theorem rs_X12_mayEnd_309__X12_laysBest_309 (a b : Int) (h : R_X12_mayEnd_309 a b) : R_X12_laysBest_309 a b := (h.elim (fun h => (Or.inl (⟨by omega, by omega⟩))) (fun h => (Or.inr (⟨h.1, by omega⟩))))
theorem nr_X12_mayEnd_309__3439 (b : Int) : ¬ R_X12_mayEnd_309 3439 b := by
  unfold R_X12_mayEnd_309; omega
theorem nr_X12_mayEnd_309__3440 (b : Int) : ¬ R_X12_mayEnd_309 3440 b := by
  unfold R_X12_mayEnd_309; omega
theorem sl_X12_laysBest_309_L32 {fu : Nat} (hfu : 8589934592 ≤ fu) (r0 : z_M) (a1 : Int) (a2 : Int) (b1 : -2147483648 ≤ a1 ∧ a1 ≤ 2147483647) (b2 : 0 ≤ a2 ∧ a2 ≤ 199) {k : z_M → z_O} (hk : ∀ (s' : z_M), z_CI s' → z_Fr R_X12_laysBest_309 r0 s' → (y_N s' a2) → (a2 < s' 309 20) → (y_B s') → (s' 309 43 = 0 ∨ s' 309 36 = 0 ∨ (r0 309 36 ≠ 0 ∧ r0 309 43 ≠ 0)) → (r0 309 36 = 0 ∨ s' 309 36 ≠ 0) → z_T (k s') (P_X12_laysBest_309 r0)) : ∀ (F : Nat) (s : z_M) (a3 : Int), z_CI s → z_Fr R_X12_laysBest_309 r0 s → (0 ≤ a3 ∧ a3 ≤ 200) → (y_X s a2 a3) → (y_N s (a2 + 1)) → (a2 ≤ a3) → (a3 ≤ s 309 20) → (a2 < s 309 20) → (y_B s) → (s 309 43 = 0 ∨ s 309 36 = 0 ∨ (r0 309 36 ≠ 0 ∧ r0 309 43 ≠ 0)) → (r0 309 36 = 0 ∨ s 309 36 ≠ 0) → (2147483647 - a3 < (F : Int)) → z_T (fX12_laysBest_L32 fu 309 a1 a2 F s a3 k) (P_X12_laysBest_309 r0) := by
  intro F
  induction F with
  | zero =>
    intro s a3 c f b3 i0 i1 i2 i3 i4 i5 i6 i7 hm
    have u37 := CI_b c (k := 309) (j := 20) bd_309_20
    have u38 := CI_b c (k := 309) (j := 36) bd_309_36
    have u39 := CI_b c (k := 309) (j := 43) bd_309_43
    have u40 := CI_b c (k := 316) (j := 0) bd_316_0
    exfalso; omega
  | succ F ih =>
    intro s a3 c f b3 i0 i1 i2 i3 i4 i5 i6 i7 hm
    refine T_of (fX12_laysBest_L32.eq_2 ..) ?_
    have u1 := CI_b c (k := 309) (j := 20) bd_309_20
    have u2 := CI_b c (k := 309) (j := 36) bd_309_36
    have u3 := CI_b c (k := 309) (j := 43) bd_309_43
    have u4 := CI_b c (k := 316) (j := 0) bd_316_0
    have t5 : s 309 20 = r0 309 20 := f 309 20 (by decide)
    have t6 : s 316 0 = r0 316 0 := f 316 0 (by decide)
    refine T_if1 (by decide +kernel) ?_
    refine T_leq (fun x7 e8 => ?_)
    have u9 := CI_b c (k := 309) (j := 20) bd_309_20
    refine T_ite (fun h10 => ?_) (fun h10 => ?_)
    · exact hk s c f (by first | exact y_N.cg i1 (by omega) | exact y_N.z (by omega) | exact y_N.dn i1 i0 (by omega) (by omega) (by omega)) (by omega) i5 (by omega) (by omega)
    · refine T_if1 (by decide +kernel) ?_
      refine T_leq (fun x11 e12 => ?_)
      have q13 : x7 = x11 := e8.symm.trans e12
      subst q13
      refine T_leq (fun x14 e15 => ?_)
      first | (have w16 := z_wx e15 (by omega)) | (have w16 := z_wr e15)
      refine T_ite (fun h17 => ?_) (fun h17 => ?_)
      · exact sj_X12_laysBest_309_J61 hfu r0 s c f a1 a2 a3 (by omega) (by omega) (by omega) (by omega) (by omega) (by first | exact y_N.cg i1 (by omega) | exact y_N.z (by omega) | exact y_N.dn i1 i0 (by omega) (by omega) (by omega)) i5 (by first | exact y_X.cg i0 (by omega) (by omega) | exact y_X.sk i0 (by omega) (by omega) | exact y_X.ne i0 (by omega) (by omega) | exact y_X.st (by omega)) (by omega) (by omega) (2147483647 - a3) (by omega) (fun s' v3 c' f' w3 z0 z1 z2 z3 z4 z5 z6 z7 pg => ih s' v3 c' f' w3 z0 z1 z2 z3 z4 z5 z6 z7 (by omega)) hk
      · refine T_if1 (by decide +kernel) ?_
        refine T_useI (sf_X12_mayEnd_309 hfu s c a3 (by omega) i5) (fun v23 s18 hq => ?_)
        obtain ⟨c19, f20, o24, o25, o26, ⟨x22, rfl, b27, b28⟩⟩ := hq
        refine T_vI ?_
        have f21 := z_Fr.tr (R := R_X12_laysBest_309) f f20 rs_X12_mayEnd_309__X12_laysBest_309
        have t29 : s18 309 20 = x7 := (f20 309 20 (by decide)).trans e8
        have t30 : s18 316 0 = s 316 0 := f20 316 0 (by decide)
        have u31 := CI_b c19 (k := 309) (j := 36) bd_309_36
        have u32 := CI_b c19 (k := 309) (j := 43) bd_309_43
        have r33 := y_X.fr i0 (f20 309 20 (by decide)) (fun b => f20 3439 b (nr_X12_mayEnd_309__3439 b)) (fun b => f20 3440 b (nr_X12_mayEnd_309__3440 b))
        have r34 := y_N.fr i1 (f20 309 20 (by decide)) (fun b => f20 3440 b (nr_X12_mayEnd_309__3440 b))
        have r35 := y_B.fr i5 (f20 309 20 (by decide)) (f20 316 0 (by decide)) (fun b => f20 3220 b (nr_X12_mayEnd_309__3220 b)) (fun b => f20 3221 b (nr_X12_mayEnd_309__3221 b)) (fun b => f20 3222 b (nr_X12_mayEnd_309__3222 b)) (fun b => f20 361 b (nr_X12_mayEnd_309__361 b))
        refine T_ite (fun h36 => ?_) (fun h36 => ?_)
        · exact sj_X12_laysBest_309_J61 hfu r0 s18 c19 f21 a1 a2 a3 (by omega) (by omega) (by omega) (by omega) (by omega) (by first | exact y_N.cg r34 (by omega) | exact y_N.z (by omega) | exact y_N.dn r34 r33 (by omega) (by omega) (by omega)) r35 (by first | exact y_X.cg r33 (by omega) (by omega) | exact y_X.sk r33 (by omega) (by omega) | exact y_X.ne r33 (by omega) (by omega) | exact y_X.st (by omega)) (by omega) (by omega) (2147483647 - a3) (by omega) (fun s' v3 c' f' w3 z0 z1 z2 z3 z4 z5 z6 z7 pg => ih s' v3 c' f' w3 z0 z1 z2 z3 z4 z5 z6 z7 (by omega)) hk
        · exact sj_X12_laysBest_309_J122 hfu r0 s18 c19 f21 a1 a2 a3 (by omega) (by omega) (by omega) (by omega) (by omega) (by first | exact y_N.cg r34 (by omega) | exact y_N.z (by omega) | exact y_N.dn r34 r33 (by omega) (by omega) (by omega)) r35 (by first | exact y_X.cg r33 (by omega) (by omega) | exact y_X.sk r33 (by omega) (by omega) | exact y_X.ne r33 (by omega) (by omega) | exact y_X.st (by omega)) (by omega) (by omega) (2147483647 - a3) (by omega) (fun s' v3 c' f' w3 z0 z1 z2 z3 z4 z5 z6 z7 pg => ih s' v3 c' f' w3 z0 z1 z2 z3 z4 z5 z6 z7 (by omega)) hk
theorem sl_X12_laysBest_309_L17 {fu : Nat} (hfu : 8589934592 ≤ fu) (r0 : z_M) (a1 : Int) (b1 : -2147483648 ≤ a1 ∧ a1 ≤ 2147483647) {k : z_M → z_O} (hk : ∀ (s' : z_M), z_CI s' → z_Fr R_X12_laysBest_309 r0 s' → (y_N s' 0) → (s' 309 43 = 0 ∨ s' 309 36 = 0 ∨ (r0 309 36 ≠ 0 ∧ r0 309 43 ≠ 0)) → (r0 309 36 = 0 ∨ s' 309 36 ≠ 0) → z_T (k s') (P_X12_laysBest_309 r0)) : ∀ (F : Nat) (s : z_M) (a2 : Int), z_CI s → z_Fr R_X12_laysBest_309 r0 s → ((-1) ≤ a2 ∧ a2 ≤ 199) → (y_N s (a2 + 1)) → (a2 < s 309 20) → (y_B s) → (s 309 43 = 0 ∨ s 309 36 = 0 ∨ (r0 309 36 ≠ 0 ∧ r0 309 43 ≠ 0)) → (r0 309 36 = 0 ∨ s 309 36 ≠ 0) → (a2 + 2147483648 < (F : Int)) → z_T (fX12_laysBest_L17 fu 309 a1 F s a2 k) (P_X12_laysBest_309 r0) := by
  intro F
  induction F with
  | zero =>
    intro s a2 c f b2 i0 i1 i2 i3 i4 hm
    have u38 := CI_b c (k := 309) (j := 20) bd_309_20
    have u39 := CI_b c (k := 309) (j := 36) bd_309_36
    have u40 := CI_b c (k := 309) (j := 43) bd_309_43
    have u41 := CI_b c (k := 316) (j := 0) bd_316_0
    exfalso; omega
  | succ F ih =>
    intro s a2 c f b2 i0 i1 i2 i3 i4 hm
    refine T_of (fX12_laysBest_L17.eq_2 ..) ?_
    have u1 := CI_b c (k := 309) (j := 20) bd_309_20
    have u2 := CI_b c (k := 309) (j := 36) bd_309_36
    have u3 := CI_b c (k := 309) (j := 43) bd_309_43
    have u4 := CI_b c (k := 316) (j := 0) bd_316_0
    have t5 : s 309 20 = r0 309 20 := f 309 20 (by decide)
    have t6 : s 316 0 = r0 316 0 := f 316 0 (by decide)
    refine T_ite (fun h7 => ?_) (fun h7 => ?_)
    · exact hk s c f (by first | exact y_N.cg i0 (by omega) | exact y_N.z (by omega)) (by omega) (by omega)
    · refine T_if1 (by decide +kernel) ?_
      refine T_let 3439 (by decide +kernel) ?_
      refine T_if1 (z_ixl (n := 201) (by decide +kernel) (by omega) (by omega)) ?_
      refine T_upg c (bdr_3439 a2) (by omega) (fun s8 c9 g11 g12 e13 => ?_)
      have f10 := z_Fr.up (R := R_X12_laysBest_309) f g11 (fun _ => (Or.inl (⟨by decide, by decide⟩)))
      have t14 : s8 309 20 = s 309 20 := g11 309 20 (by decide)
      have t15 : s8 309 36 = s 309 36 := g11 309 36 (by decide)
      have t16 : s8 309 43 = s 309 43 := g11 309 43 (by decide)
      have t17 : s8 316 0 = s 316 0 := g11 316 0 (by decide)
      have r18 := y_N.fr i0 (g11 309 20 (by decide)) (fun b => g11 3440 b (by decide))
      have r19 := y_B.fr i2 (g11 309 20 (by decide)) (g11 316 0 (by decide)) (fun b => g11 3220 b (by decide)) (fun b => g11 3221 b (by decide)) (fun b => g11 3222 b (by decide)) (fun b => g11 361 b (by decide))
      have r20 : y_X s8 a2 a2 := y_X.mk (by omega) (by omega)
      refine sl_X12_laysBest_309_L32 hfu r0 a1 a2 (by omega) (by omega) (fun s21 c22 f23 g24 g25 g26 g27 g28 => ?_) fu s8 a2 c9 f10 (by omega) (by first | exact y_X.cg r20 (by omega) (by omega) | exact y_X.sk r20 (by omega) (by omega) | exact y_X.ne r20 (by omega) (by omega) | exact y_X.st (by omega)) (by first | exact y_N.cg r18 (by omega) | exact y_N.z (by omega) | exact y_N.dn r18 r20 (by omega) (by omega) (by omega)) (by omega) (by omega) (by omega) r19 (by omega) (by omega) (by omega)
      have u29 := CI_b c22 (k := 309) (j := 20) bd_309_20
      have u30 := CI_b c22 (k := 309) (j := 36) bd_309_36
      have u31 := CI_b c22 (k := 309) (j := 43) bd_309_43
      have u32 := CI_b c22 (k := 316) (j := 0) bd_316_0
      have t33 : s21 309 20 = r0 309 20 := f23 309 20 (by decide)
      have t34 : s21 316 0 = r0 316 0 := f23 316 0 (by decide)
      refine T_leq (fun x35 e36 => ?_)
      first | (have w37 := z_wx e36 (by omega)) | (have w37 := z_wr e36)
      exact ih s21 x35 c22 f23 (by omega) (by first | exact y_N.cg g24 (by omega) | exact y_N.z (by omega)) (by omega) g26 (by omega) (by omega) (by omega)
theorem sf_X12_laysBest_309 {fu : Nat} (hfu : 8589934592 ≤ fu) (r0 : z_M) (c0 : z_CI r0) (a1 : Int) (b1 : -2147483648 ≤ a1 ∧ a1 ≤ 2147483647) (p0 : y_B r0) : z_T (fX12_laysBest fu r0 309 a1) (P_X12_laysBest_309 r0) := by
  refine T_of (fX12_laysBest.eq_1 ..) ?_
  have u1 := CI_b c0 (k := 309) (j := 20) bd_309_20
  have u2 := CI_b c0 (k := 309) (j := 36) bd_309_36
  have u3 := CI_b c0 (k := 309) (j := 43) bd_309_43
  have u4 := CI_b c0 (k := 316) (j := 0) bd_316_0
  refine T_if1 (by decide +kernel) ?_
  refine T_let 3439 (by decide +kernel) ?_
  refine T_if1 (by decide +kernel) ?_
  refine T_leq (fun x5 e6 => ?_)
  have u7 := CI_b c0 (k := 309) (j := 20) bd_309_20
  refine T_if1 (z_ixl (n := 201) (by decide +kernel) (by omega) (by omega)) ?_
  refine T_upg c0 (bdr_3439 x5) (by omega) (fun s8 c9 g11 g12 e13 => ?_)
  have f10 := z_Fr.up (R := R_X12_laysBest_309) z_Fr.rf g11 (fun _ => (Or.inl (⟨by decide, by decide⟩)))
  have t14 : s8 309 20 = x5 := (g11 309 20 (by decide)).trans e6
  have t15 : s8 309 36 = r0 309 36 := g11 309 36 (by decide)
  have t16 : s8 309 43 = r0 309 43 := g11 309 43 (by decide)
  have t17 : s8 316 0 = r0 316 0 := g11 316 0 (by decide)
  have r18 := y_B.fr p0 (g11 309 20 (by decide)) (g11 316 0 (by decide)) (fun b => g11 3220 b (by decide)) (fun b => g11 3221 b (by decide)) (fun b => g11 3222 b (by decide)) (fun b => g11 361 b (by decide))
  refine T_if1 (by decide +kernel) ?_
  refine T_leq (fun x19 e20 => ?_)
  have q21 : x5 = x19 := t14.symm.trans e20
  subst q21
  refine T_leq (fun x22 e23 => ?_)
  first | (have w24 := z_wx e23 (by omega)) | (have w24 := z_wr e23)
  refine sl_X12_laysBest_309_L17 hfu r0 a1 (by omega) (fun s25 c26 f27 g28 g29 g30 => ?_) fu s8 x22 c9 f10 (by omega) (by first | exact y_N.z (by omega)) (by omega) r18 (by omega) (by omega) (by omega)
  have u31 := CI_b c26 (k := 309) (j := 20) bd_309_20
  have u32 := CI_b c26 (k := 309) (j := 36) bd_309_36
  have u33 := CI_b c26 (k := 309) (j := 43) bd_309_43
  have u34 := CI_b c26 (k := 316) (j := 0) bd_316_0
  have t35 : s25 309 20 = r0 309 20 := f27 309 20 (by decide)
  have t36 : s25 316 0 = r0 316 0 := f27 316 0 (by decide)
  exact T_ret ⟨c26, f27, (by first | exact y_N.cg g28 (by omega) | exact y_N.z (by omega)), (by omega), (by omega), rfl⟩
abbrev R_X12_breaks_309 (a b : Int) : Prop := (3224 ≤ a ∧ a ≤ 3440) ∨ (a = 309 ∧ (b = 35 ∨ b = 36 ∨ b = 38 ∨ b = 39 ∨ b = 43))
abbrev P_X12_breaks_309 (r0 : z_M) : z_V → z_M → Prop := fun v s' => z_CI s' ∧ z_Fr R_X12_breaks_309 r0 s' ∧ (s' 309 43 = 0 ∨ s' 309 36 = 0 ∨ (r0 309 36 ≠ 0 ∧ r0 309 43 ≠ 0)) ∧ (r0 309 36 = 0 ∨ s' 309 36 ≠ 0) ∧ (∃ x, v = vI x ∧ 0 ≤ x ∧ x ≤ 200 ∧ (y_L s' x))
theorem rs_X12_comes_309__X12_breaks_309 (a b : Int) (h : R_X12_comes_309 a b) : R_X12_breaks_309 a b := (h.elim (fun h => (Or.inl (⟨by omega, by omega⟩))) (fun h => (Or.inr (⟨h.1, by omega⟩))))
theorem nr_X12_comes_309__3440 (b : Int) : ¬ R_X12_comes_309 3440 b := by
  unfold R_X12_comes_309; omega
theorem nr_X12_comes_309__3220 (b : Int) : ¬ R_X12_comes_309 3220 b := by
  unfold R_X12_comes_309; omega
theorem nr_X12_comes_309__3221 (b : Int) : ¬ R_X12_comes_309 3221 b := by
  unfold R_X12_comes_309; omega
theorem nr_X12_comes_309__3222 (b : Int) : ¬ R_X12_comes_309 3222 b := by
  unfold R_X12_comes_309; omega
theorem nr_X12_comes_309__361 (b : Int) : ¬ R_X12_comes_309 361 b := by
  unfold R_X12_comes_309; omega
theorem nr_X12_comes_309__3438 (b : Int) : ¬ R_X12_comes_309 3438 b := by
  unfold R_X12_comes_309; omega
theorem sj_X12_breaks_309_J57 {fu : Nat} (hfu : 8589934592 ≤ fu) (r0 s : z_M) (c : z_CI s) (f : z_Fr R_X12_breaks_309 r0 s) (a1 : Int) (a2 : Int) (a3 : Int) (t0 : Int) (b1 : -2147483648 ≤ a1 ∧ a1 ≤ 2147483647) (b2 : -2147483648 ≤ a2 ∧ a2 ≤ 2147483647) (b3 : 0 ≤ a3 ∧ a3 ≤ 200) (d0 : 0 ≤ t0 ∧ t0 ≤ 199) (p0 : y_LP s 3438 a3 (t0 + 1)) (p1 : a3 ≤ t0 + 1) (p2 : t0 < s 309 20) (p3 : y_M1 s a2) (p4 : y_B s) (p5 : s 309 43 = 0 ∨ s 309 36 = 0 ∨ (r0 309 36 ≠ 0 ∧ r0 309 43 ≠ 0)) (p6 : r0 309 36 = 0 ∨ s 309 36 ≠ 0) (M : Int) (pm : 201 - t0 ≤ M) {r : z_M → Int → Int → z_O} {k : z_M → Int → z_O} (hr : ∀ (s' : z_M) (v3 : Int) (v4 : Int), z_CI s' → z_Fr R_X12_breaks_309 r0 s' → (0 ≤ v3 ∧ v3 ≤ 200) → (0 ≤ v4 ∧ v4 ≤ 200) → (y_LP s' 3438 v3 v4) → (v3 ≤ v4) → (v4 ≤ s' 309 20) → (y_M1 s' a2) → (y_B s') → (s' 309 43 = 0 ∨ s' 309 36 = 0 ∨ (r0 309 36 ≠ 0 ∧ r0 309 43 ≠ 0)) → (r0 309 36 = 0 ∨ s' 309 36 ≠ 0) → (201 - v4 < M) → z_T (r s' v3 v4) (P_X12_breaks_309 r0)) (hk : ∀ (s' : z_M) (v3 : Int), z_CI s' → z_Fr R_X12_breaks_309 r0 s' → (0 ≤ v3 ∧ v3 ≤ 200) → (y_LP s' 3438 v3 (s' 309 20)) → (v3 ≤ s' 309 20) → (s' 309 43 = 0 ∨ s' 309 36 = 0 ∨ (r0 309 36 ≠ 0 ∧ r0 309 43 ≠ 0)) → (r0 309 36 = 0 ∨ s' 309 36 ≠ 0) → z_T (k s' v3) (P_X12_breaks_309 r0)) : z_T (fX12_breaks_J57 fu s 309 a1 a2 a3 t0 r k) (P_X12_breaks_309 r0) := by
  refine T_of (fX12_breaks_J57.eq_1 ..) ?_
  have u1 := CI_b c (k := 309) (j := 20) bd_309_20
  have u2 := CI_b c (k := 309) (j := 36) bd_309_36
  have u3 := CI_b c (k := 309) (j := 43) bd_309_43
  have u4 := CI_b c (k := 309) (j := 44) bd_309_44
  have u5 := CI_b c (k := 316) (j := 0) bd_316_0
  have t6 : s 309 20 = r0 309 20 := f 309 20 (by decide)
  have t7 : s 309 44 = r0 309 44 := f 309 44 (by decide)
  have t8 : s 316 0 = r0 316 0 := f 316 0 (by decide)
  refine T_leq (fun x9 e10 => ?_)
  first | (have w11 := z_wx e10 (by omega)) | (have w11 := z_wr e10)
  exact hr s a3 x9 c f (by omega) (by omega) (by first | exact y_LP.cg p0 (by omega) (by omega) | exact y_LP.z (by omega) (by omega)) (by omega) (by omega) (by first | exact y_M1.cg p3 (by omega) | exact y_M1.no (by omega)) p4 (by omega) (by omega) (by omega)
theorem sl_X12_breaks_309_L15 {fu : Nat} (hfu : 8589934592 ≤ fu) (r0 : z_M) (a1 : Int) (a2 : Int) (b1 : -2147483648 ≤ a1 ∧ a1 ≤ 2147483647) (b2 : -2147483648 ≤ a2 ∧ a2 ≤ 2147483647) {k : z_M → Int → z_O} (hk : ∀ (s' : z_M) (v3 : Int), z_CI s' → z_Fr R_X12_breaks_309 r0 s' → (0 ≤ v3 ∧ v3 ≤ 200) → (y_LP s' 3438 v3 (s' 309 20)) → (v3 ≤ s' 309 20) → (s' 309 43 = 0 ∨ s' 309 36 = 0 ∨ (r0 309 36 ≠ 0 ∧ r0 309 43 ≠ 0)) → (r0 309 36 = 0 ∨ s' 309 36 ≠ 0) → z_T (k s' v3) (P_X12_breaks_309 r0)) : ∀ (F : Nat) (s : z_M) (a3 : Int) (a4 : Int), z_CI s → z_Fr R_X12_breaks_309 r0 s → (0 ≤ a3 ∧ a3 ≤ 200) → (0 ≤ a4 ∧ a4 ≤ 200) → (y_LP s 3438 a3 a4) → (a3 ≤ a4) → (a4 ≤ s 309 20) → (y_M1 s a2) → (y_B s) → (s 309 43 = 0 ∨ s 309 36 = 0 ∨ (r0 309 36 ≠ 0 ∧ r0 309 43 ≠ 0)) → (r0 309 36 = 0 ∨ s 309 36 ≠ 0) → (201 - a4 < (F : Int)) → z_T (fX12_breaks_L15 fu 309 a1 a2 F s a3 a4 k) (P_X12_breaks_309 r0) := by
  intro F
  induction F with
  | zero =>
    intro s a3 a4 c f b3 b4 i0 i1 i2 i3 i4 i5 i6 hm
    have u55 := CI_b c (k := 309) (j := 20) bd_309_20
    have u56 := CI_b c (k := 309) (j := 36) bd_309_36
    have u57 := CI_b c (k := 309) (j := 43) bd_309_43
    have u58 := CI_b c (k := 309) (j := 44) bd_309_44
    have u59 := CI_b c (k := 316) (j := 0) bd_316_0
    exfalso; omega
  | succ F ih =>
    intro s a3 a4 c f b3 b4 i0 i1 i2 i3 i4 i5 i6 hm
    refine T_of (fX12_breaks_L15.eq_2 ..) ?_
    have u1 := CI_b c (k := 309) (j := 20) bd_309_20
    have u2 := CI_b c (k := 309) (j := 36) bd_309_36
    have u3 := CI_b c (k := 309) (j := 43) bd_309_43
    have u4 := CI_b c (k := 309) (j := 44) bd_309_44
    have u5 := CI_b c (k := 316) (j := 0) bd_316_0
    have t6 : s 309 20 = r0 309 20 := f 309 20 (by decide)
    have t7 : s 309 44 = r0 309 44 := f 309 44 (by decide)
    have t8 : s 316 0 = r0 316 0 := f 316 0 (by decide)
    refine T_if1 (by decide +kernel) ?_
    refine T_leq (fun x9 e10 => ?_)
    have u11 := CI_b c (k := 309) (j := 20) bd_309_20
    refine T_ite (fun h12 => ?_) (fun h12 => ?_)
    · exact hk s a3 c f (by omega) (by first | exact y_LP.cg i0 (by omega) (by omega) | exact y_LP.z (by omega) (by omega)) (by omega) (by omega) (by omega)
    · refine T_if1 (by decide +kernel) ?_
      refine T_let 3438 (by decide +kernel) ?_
      refine T_if1 (z_ixl (n := 201) (by decide +kernel) (by omega) (by omega)) ?_
      refine T_upg c (bdr_3438 a3) (by omega) (fun s13 c14 g16 g17 e18 => ?_)
      have f15 := z_Fr.up (R := R_X12_breaks_309) f g16 (fun _ => (Or.inl (⟨by decide, by decide⟩)))
      have t19 : s13 309 20 = x9 := (g16 309 20 (by decide)).trans e10
      have t20 : s13 309 36 = s 309 36 := g16 309 36 (by decide)
      have t21 : s13 309 43 = s 309 43 := g16 309 43 (by decide)
      have t22 : s13 309 44 = s 309 44 := g16 309 44 (by decide)
      have t23 : s13 316 0 = s 316 0 := g16 316 0 (by decide)
      have r24 := y_M1.fr i3 (g16 309 20 (by decide)) (fun b => g16 3440 b (by decide))
      have r25 := y_B.fr i4 (g16 309 20 (by decide)) (g16 316 0 (by decide)) (fun b => g16 3220 b (by decide)) (fun b => g16 3221 b (by decide)) (fun b => g16 3222 b (by decide)) (fun b => g16 361 b (by decide))
      have r26 : y_LP s13 3438 (a3 + 1) (a4 + 1) := y_LP.st i0 g17 e18 rfl rfl rfl (Int.le_refl _)
      refine T_leq (fun x27 e28 => ?_)
      first | (have w29 := z_wx e28 (by omega)) | (have w29 := z_wr e28)
      refine T_ite (fun h30 => ?_) (fun h30 => ?_)
      · refine T_if1 (by decide +kernel) ?_
        refine T_useI (sf_X12_comes_309 hfu s13 c14 a4 a1 (by omega) (by omega) r25 (by omega)) (fun v36 s31 hq => ?_)
        obtain ⟨c32, f33, o37, o38, ⟨x35, rfl, b39, b40, o41, o42⟩⟩ := hq
        refine T_vI ?_
        have f34 := z_Fr.tr (R := R_X12_breaks_309) f15 f33 rs_X12_comes_309__X12_breaks_309
        have t43 : s31 309 20 = x9 := (f33 309 20 (by decide)).trans t19
        have t44 : s31 309 44 = s 309 44 := (f33 309 44 (by decide)).trans t22
        have t45 : s31 316 0 = s 316 0 := (f33 316 0 (by decide)).trans t23
        have u46 := CI_b c32 (k := 309) (j := 36) bd_309_36
        have u47 := CI_b c32 (k := 309) (j := 43) bd_309_43
        have r48 := y_M1.fr r24 (f33 309 20 (by decide)) (fun b => f33 3440 b (nr_X12_comes_309__3440 b))
        have r49 := y_B.fr r25 (f33 309 20 (by decide)) (f33 316 0 (by decide)) (fun b => f33 3220 b (nr_X12_comes_309__3220 b)) (fun b => f33 3221 b (nr_X12_comes_309__3221 b)) (fun b => f33 3222 b (nr_X12_comes_309__3222 b)) (fun b => f33 361 b (nr_X12_comes_309__361 b))
        have r50 := y_LP.fr r26 (fun b => f33 3438 b (nr_X12_comes_309__3438 b))
        clear t19
        clear t22
        clear t23
        exact sj_X12_breaks_309_J57 hfu r0 s31 c32 f34 a1 a2 x27 x35 (by omega) (by omega) (by omega) (by omega) (by first | exact y_LP.cg r50 (by omega) (by omega) | exact y_LP.z (by omega) (by omega)) (by omega) (by omega) (by first | exact y_M1.cg r48 (by omega) | exact y_M1.no (by omega)) r49 (by omega) (by omega) (201 - a4) (by omega) (fun s' v3 v4 c' f' w3 w4 z0 z1 z2 z3 z4 z5 z6 pg => ih s' v3 v4 c' f' w3 w4 z0 z1 z2 z3 z4 z5 z6 (by omega)) hk
      · refine T_if1 (by decide +kernel) ?_
        refine T_let 3440 (by decide +kernel) ?_
        have n51 := y_M1.at r24 (a := a4) (by omega) (by omega) (by omega)
        refine T_if1 (z_ixl (n := 200) (by decide +kernel) (by omega) (by omega)) ?_
        refine T_leq (fun x52 e53 => ?_)
        have u54 := CI_b c14 (k := 3440) (j := a4) (bdr_3440 a4)
        exact sj_X12_breaks_309_J57 hfu r0 s13 c14 f15 a1 a2 x27 x52 (by omega) (by omega) (by omega) (by omega) (by first | exact y_LP.cg r26 (by omega) (by omega) | exact y_LP.z (by omega) (by omega)) (by omega) (by omega) (by first | exact y_M1.cg r24 (by omega) | exact y_M1.no (by omega)) r25 (by omega) (by omega) (201 - a4) (by omega) (fun s' v3 v4 c' f' w3 w4 z0 z1 z2 z3 z4 z5 z6 pg => ih s' v3 v4 c' f' w3 w4 z0 z1 z2 z3 z4 z5 z6 (by omega)) hk
theorem rs_X12_laysBest_309__X12_breaks_309 (a b : Int) (h : R_X12_laysBest_309 a b) : R_X12_breaks_309 a b := (h.elim (fun h => (Or.inl (⟨by omega, by omega⟩))) (fun h => (Or.inr (⟨h.1, by omega⟩))))
theorem nr_X12_laysBest_309__3220 (b : Int) : ¬ R_X12_laysBest_309 3220 b := by
  unfold R_X12_laysBest_309; omega
theorem nr_X12_laysBest_309__3221 (b : Int) : ¬ R_X12_laysBest_309 3221 b := by
  unfold R_X12_laysBest_309; omega
theorem nr_X12_laysBest_309__3222 (b : Int) : ¬ R_X12_laysBest_309 3222 b := by
  unfold R_X12_laysBest_309; omega
theorem nr_X12_laysBest_309__361 (b : Int) : ¬ R_X12_laysBest_309 361 b := by
  unfold R_X12_laysBest_309; omega
theorem sf_X12_breaks_309 {fu : Nat} (hfu : 8589934592 ≤ fu) (r0 : z_M) (c0 : z_CI r0) (a1 : Int) (a2 : Int) (b1 : -2147483648 ≤ a1 ∧ a1 ≤ 2147483647) (b2 : -2147483648 ≤ a2 ∧ a2 ≤ 2147483647) (p0 : y_B r0) : z_T (fX12_breaks fu r0 309 a1 a2) (P_X12_breaks_309 r0) := by
  refine T_of (fX12_breaks.eq_1 ..) ?_
  have u1 := CI_b c0 (k := 309) (j := 20) bd_309_20
  have u2 := CI_b c0 (k := 309) (j := 36) bd_309_36
  have u3 := CI_b c0 (k := 309) (j := 43) bd_309_43
  have u4 := CI_b c0 (k := 309) (j := 44) bd_309_44
  have u5 := CI_b c0 (k := 316) (j := 0) bd_316_0
  refine T_ite (fun h6 => ?_) (fun h6 => ?_)
  · refine sl_X12_breaks_309_L15 hfu r0 a1 a2 (by omega) (by omega) (fun s7 y10 c8 f9 b11 g12 g13 g14 g15 => ?_) fu r0 0 0 c0 z_Fr.rf (by omega) (by omega) (by first | exact y_LP.z (by omega) (by omega)) (by omega) (by omega) (by first | exact y_M1.no (by omega)) p0 (by omega) (by omega) (by omega)
    have u16 := CI_b c8 (k := 309) (j := 20) bd_309_20
    have u17 := CI_b c8 (k := 309) (j := 36) bd_309_36
    have u18 := CI_b c8 (k := 309) (j := 43) bd_309_43
    have u19 := CI_b c8 (k := 309) (j := 44) bd_309_44
    have u20 := CI_b c8 (k := 316) (j := 0) bd_316_0
    have t21 : s7 309 20 = r0 309 20 := f9 309 20 (by decide)
    have t22 : s7 309 44 = r0 309 44 := f9 309 44 (by decide)
    have t23 : s7 316 0 = r0 316 0 := f9 316 0 (by decide)
    refine T_if1 (by decide +kernel) ?_
    refine T_let 3438 (by decide +kernel) ?_
    refine T_if1 (by decide +kernel) ?_
    refine T_leq (fun x24 e25 => ?_)
    have u26 := CI_b c8 (k := 309) (j := 20) bd_309_20
    refine T_if1 (z_ixl (n := 201) (by decide +kernel) (by omega) (by omega)) ?_
    refine T_upg c8 (bdr_3438 y10) (by omega) (fun s27 c28 g30 g31 e32 => ?_)
    have f29 := z_Fr.up (R := R_X12_breaks_309) f9 g30 (fun _ => (Or.inl (⟨by decide, by decide⟩)))
    have t33 : s27 309 20 = x24 := (g30 309 20 (by decide)).trans e25
    have t34 : s27 309 36 = s7 309 36 := g30 309 36 (by decide)
    have t35 : s27 309 43 = s7 309 43 := g30 309 43 (by decide)
    have t36 : s27 309 44 = s7 309 44 := g30 309 44 (by decide)
    have t37 : s27 316 0 = s7 316 0 := g30 316 0 (by decide)
    have r38 := y_LP.end g12 g31 e32 rfl rfl (by omega)
    exact T_ret ⟨c28, f29, (by omega), (by omega), ⟨y10, rfl, by omega, by omega, (by first | exact y_L.of r38 (by omega))⟩⟩
  · refine T_if1 (by decide +kernel) ?_
    refine T_useN (sf_X12_laysBest_309 hfu r0 c0 a1 (by omega) p0) (fun v44 s39 hq => ?_)
    obtain ⟨c40, f41, o45, o46, o47, rfl⟩ := hq
    refine T_vN ?_
    have f42 := z_Fr.tr (R := R_X12_breaks_309) z_Fr.rf f41 rs_X12_laysBest_309__X12_breaks_309
    have t50 : s39 309 20 = r0 309 20 := f41 309 20 (by decide)
    have t51 : s39 309 44 = r0 309 44 := f41 309 44 (by decide)
    have t52 : s39 316 0 = r0 316 0 := f41 316 0 (by decide)
    have u53 := CI_b c40 (k := 309) (j := 36) bd_309_36
    have u54 := CI_b c40 (k := 309) (j := 43) bd_309_43
    have r55 := y_B.fr p0 (f41 309 20 (by decide)) (f41 316 0 (by decide)) (fun b => f41 3220 b (nr_X12_laysBest_309__3220 b)) (fun b => f41 3221 b (nr_X12_laysBest_309__3221 b)) (fun b => f41 3222 b (nr_X12_laysBest_309__3222 b)) (fun b => f41 361 b (nr_X12_laysBest_309__361 b))
    refine sl_X12_breaks_309_L15 hfu r0 a1 a2 (by omega) (by omega) (fun s56 y59 c57 f58 b60 g61 g62 g63 g64 => ?_) fu s39 0 0 c40 f42 (by omega) (by omega) (by first | exact y_LP.z (by omega) (by omega)) (by omega) (by omega) (by first | exact y_M1.no (by omega) | exact y_M1.of o45 (by omega)) r55 (by omega) (by omega) (by omega)
    have u65 := CI_b c57 (k := 309) (j := 20) bd_309_20
    have u66 := CI_b c57 (k := 309) (j := 36) bd_309_36
    have u67 := CI_b c57 (k := 309) (j := 43) bd_309_43
    have u68 := CI_b c57 (k := 309) (j := 44) bd_309_44
    have u69 := CI_b c57 (k := 316) (j := 0) bd_316_0
    have t70 : s56 309 20 = r0 309 20 := f58 309 20 (by decide)
    have t71 : s56 309 44 = r0 309 44 := f58 309 44 (by decide)
    have t72 : s56 316 0 = r0 316 0 := f58 316 0 (by decide)
    refine T_if1 (by decide +kernel) ?_
    refine T_let 3438 (by decide +kernel) ?_
    refine T_if1 (by decide +kernel) ?_
    refine T_leq (fun x73 e74 => ?_)
    have u75 := CI_b c57 (k := 309) (j := 20) bd_309_20
    refine T_if1 (z_ixl (n := 201) (by decide +kernel) (by omega) (by omega)) ?_
    refine T_upg c57 (bdr_3438 y59) (by omega) (fun s76 c77 g79 g80 e81 => ?_)
    have f78 := z_Fr.up (R := R_X12_breaks_309) f58 g79 (fun _ => (Or.inl (⟨by decide, by decide⟩)))
    have t82 : s76 309 20 = x73 := (g79 309 20 (by decide)).trans e74
    have t83 : s76 309 36 = s56 309 36 := g79 309 36 (by decide)
    have t84 : s76 309 43 = s56 309 43 := g79 309 43 (by decide)
    have t85 : s76 309 44 = s56 309 44 := g79 309 44 (by decide)
    have t86 : s76 316 0 = s56 316 0 := g79 316 0 (by decide)
    have r87 := y_LP.end g61 g80 e81 rfl rfl (by omega)
    exact T_ret ⟨c77, f78, (by omega), (by omega), ⟨y59, rfl, by omega, by omega, (by first | exact y_L.of r87 (by omega))⟩⟩
abbrev R_X12_isGap_309 (a b : Int) : Prop := (3235 ≤ a ∧ a ≤ 3437) ∨ (a = 309 ∧ (b = 36 ∨ b = 38 ∨ b = 39 ∨ b = 43))
abbrev P_X12_isGap_309 (r0 : z_M) : z_V → z_M → Prop := fun v s' => z_CI s' ∧ z_Fr R_X12_isGap_309 r0 s' ∧ (s' 309 43 = 0 ∨ s' 309 36 = 0 ∨ (r0 309 36 ≠ 0 ∧ r0 309 43 ≠ 0)) ∧ (r0 309 36 = 0 ∨ s' 309 36 ≠ 0) ∧ (∃ x, v = vI x ∧ 0 ≤ x ∧ x ≤ 1)
theorem sj_X12_isGap_309_J64 {fu : Nat} (hfu : 8589934592 ≤ fu) (r0 s : z_M) (c : z_CI s) (f : z_Fr R_X12_isGap_309 r0 s) (t0 : Int) (d0 : 0 ≤ t0 ∧ t0 ≤ 1) (p0 : s 309 43 = 0 ∨ s 309 36 = 0 ∨ (r0 309 36 ≠ 0 ∧ r0 309 43 ≠ 0)) (p1 : r0 309 36 = 0 ∨ s 309 36 ≠ 0) : z_T (fX12_isGap_J64 fu s t0) (P_X12_isGap_309 r0) := by
  refine T_of (fX12_isGap_J64.eq_1 ..) ?_
  have u1 := CI_b c (k := 309) (j := 20) bd_309_20
  have u2 := CI_b c (k := 309) (j := 36) bd_309_36
  have u3 := CI_b c (k := 309) (j := 43) bd_309_43
  have u4 := CI_b c (k := 316) (j := 0) bd_316_0
  have t5 : s 309 20 = r0 309 20 := f 309 20 (by decide)
  have t6 : s 316 0 = r0 316 0 := f 316 0 (by decide)
  refine T_if1 (by unfold z_bl; omega) ?_
  exact T_ret ⟨c, f, (by omega), (by omega), ⟨t0, rfl, by omega, by omega⟩⟩
theorem sj_X12_isGap_309_J63 {fu : Nat} (hfu : 8589934592 ≤ fu) (r0 s : z_M) (c : z_CI s) (f : z_Fr R_X12_isGap_309 r0 s) (p0 : s 309 43 = 0 ∨ s 309 36 = 0 ∨ (r0 309 36 ≠ 0 ∧ r0 309 43 ≠ 0)) (p1 : r0 309 36 = 0 ∨ s 309 36 ≠ 0) : z_T (fX12_isGap_J63 fu s) (P_X12_isGap_309 r0) := by
  refine T_of (fX12_isGap_J63.eq_1 ..) ?_
  have u1 := CI_b c (k := 309) (j := 20) bd_309_20
  have u2 := CI_b c (k := 309) (j := 36) bd_309_36
  have u3 := CI_b c (k := 309) (j := 43) bd_309_43
  have u4 := CI_b c (k := 316) (j := 0) bd_316_0
  have t5 : s 309 20 = r0 309 20 := f 309 20 (by decide)
  have t6 : s 316 0 = r0 316 0 := f 316 0 (by decide)
  exact sj_X12_isGap_309_J64 hfu r0 s c f 0 (by omega) (by omega) (by omega)
theorem rs_X12_mayEnd_309__X12_isGap_309 (a b : Int) (h : R_X12_mayEnd_309 a b) : R_X12_isGap_309 a b := (h.elim (fun h => (Or.inl (⟨by omega, by omega⟩))) (fun h => (Or.inr (⟨h.1, by omega⟩))))
theorem sj_X12_isGap_309_J59 {fu : Nat} (hfu : 8589934592 ≤ fu) (r0 s : z_M) (c : z_CI s) (f : z_Fr R_X12_isGap_309 r0 s) (p0 : s 309 43 = 0 ∨ s 309 36 = 0 ∨ (r0 309 36 ≠ 0 ∧ r0 309 43 ≠ 0)) (p1 : r0 309 36 = 0 ∨ s 309 36 ≠ 0) : z_T (fX12_isGap_J59 fu s) (P_X12_isGap_309 r0) := by
  refine T_of (fX12_isGap_J59.eq_1 ..) ?_
  have u1 := CI_b c (k := 309) (j := 20) bd_309_20
  have u2 := CI_b c (k := 309) (j := 36) bd_309_36
  have u3 := CI_b c (k := 309) (j := 43) bd_309_43
  have u4 := CI_b c (k := 316) (j := 0) bd_316_0
  have t5 : s 309 20 = r0 309 20 := f 309 20 (by decide)
  have t6 : s 316 0 = r0 316 0 := f 316 0 (by decide)
  exact sj_X12_isGap_309_J64 hfu r0 s c f 1 (by omega) (by omega) (by omega)
theorem sf_X12_isGap_309 {fu : Nat} (hfu : 8589934592 ≤ fu) (r0 : z_M) (c0 : z_CI r0) (a1 : Int) (a2 : Int) (b1 : 0 ≤ a1 ∧ a1 ≤ 199) (b2 : 0 ≤ a2 ∧ a2 ≤ 199) (p0 : y_B r0) (p1 : a1 < r0 309 20) (p2 : a2 < r0 309 20) : z_T (fX12_isGap fu r0 309 a1 a2) (P_X12_isGap_309 r0) := by
  refine T_of (fX12_isGap.eq_1 ..) ?_
  have u1 := CI_b c0 (k := 309) (j := 20) bd_309_20
  have u2 := CI_b c0 (k := 309) (j := 36) bd_309_36
  have u3 := CI_b c0 (k := 309) (j := 43) bd_309_43
  have u4 := CI_b c0 (k := 316) (j := 0) bd_316_0
  refine T_ite (fun h5 => ?_) (fun h5 => ?_)
  · exact sj_X12_isGap_309_J63 hfu r0 r0 c0 z_Fr.rf (by omega) (by omega)
  · refine T_if1 (by decide +kernel) ?_
    refine T_useI (sf_X12_mayEnd_309 hfu r0 c0 a1 (by omega) p0) (fun v11 s6 hq => ?_)
    obtain ⟨c7, f8, o12, o13, o14, ⟨x10, rfl, b15, b16⟩⟩ := hq
    refine T_vI ?_
    have f9 := z_Fr.tr (R := R_X12_isGap_309) z_Fr.rf f8 rs_X12_mayEnd_309__X12_isGap_309
    have t17 : s6 309 20 = r0 309 20 := f8 309 20 (by decide)
    have t18 : s6 316 0 = r0 316 0 := f8 316 0 (by decide)
    have u19 := CI_b c7 (k := 309) (j := 36) bd_309_36
    have u20 := CI_b c7 (k := 309) (j := 43) bd_309_43
    have r21 := y_B.fr p0 (f8 309 20 (by decide)) (f8 316 0 (by decide)) (fun b => f8 3220 b (nr_X12_mayEnd_309__3220 b)) (fun b => f8 3221 b (nr_X12_mayEnd_309__3221 b)) (fun b => f8 3222 b (nr_X12_mayEnd_309__3222 b)) (fun b => f8 361 b (nr_X12_mayEnd_309__361 b))
    refine T_ite (fun h22 => ?_) (fun h22 => ?_)
    · exact sj_X12_isGap_309_J63 hfu r0 s6 c7 f9 (by omega) (by omega)
    · refine T_if1 (by decide +kernel) ?_
      refine T_let 3224 (by decide +kernel) ?_
      refine T_if1 (z_ixl (n := 200) (by decide +kernel) (by omega) (by omega)) ?_
      refine T_leq (fun x23 e24 => ?_)
      have u25 := CI_b c7 (k := 3224) (j := a1) (bdr_3224 a1)
      refine T_ite (fun h26 => ?_) (fun h26 => ?_)
      · exact sj_X12_isGap_309_J63 hfu r0 s6 c7 f9 (by omega) (by omega)
      · refine T_if1 (by decide +kernel) ?_
        refine T_let 3224 (by decide +kernel) ?_
        refine T_leq (fun x27 e28 => ?_)
        first | (have w29 := z_wx e28 (by omega)) | (have w29 := z_wr e28)
        refine T_if1 (z_ixl (n := 200) (by decide +kernel) (by omega) (by omega)) ?_
        refine T_leq (fun x30 e31 => ?_)
        have u32 := CI_b c7 (k := 3224) (j := x27) (bdr_3224 x27)
        refine T_ite (fun h33 => ?_) (fun h33 => ?_)
        · exact sj_X12_isGap_309_J63 hfu r0 s6 c7 f9 (by omega) (by omega)
        · refine T_if1 (by decide +kernel) ?_
          refine T_let 3220 (by decide +kernel) ?_
          refine T_if1 (z_ixl (n := 200) (by decide +kernel) (by omega) (by omega)) ?_
          refine T_leq (fun x34 e35 => ?_)
          have u36 := CI_b c7 (k := 3220) (j := a1) (bdr_3220 a1)
          refine T_ite (fun h37 => ?_) (fun h37 => ?_)
          · exact sj_X12_isGap_309_J59 hfu r0 s6 c7 f9 (by omega) (by omega)
          · refine T_if1 (by decide +kernel) ?_
            refine T_useI (sf_X12_group_309 hfu s6 c7 a1 (by omega) r21 (by omega)) (fun v43 s38 hq => ?_)
            obtain ⟨c39, f40, ⟨x42, rfl, b44, b45, o46, o47, o48⟩⟩ := hq
            refine T_vI ?_
            have q49 := z_Fr.eq (fun a b h => h) f40
            subst q49
            refine T_leq (fun x50 e51 => ?_)
            have q52 : x27 = x50 := e28.symm.trans e51
            subst q52
            refine T_if1 (by decide +kernel) ?_
            refine T_useI (sf_X12_group_309 hfu s6 c7 x27 (by omega) r21 (by omega)) (fun v58 s53 hq => ?_)
            obtain ⟨c54, f55, ⟨x57, rfl, b59, b60, o61, o62, o63⟩⟩ := hq
            refine T_vI ?_
            have q64 := z_Fr.eq (fun a b h => h) f55
            subst q64
            refine T_ite (fun h65 => ?_) (fun h65 => ?_)
            · exact sj_X12_isGap_309_J63 hfu r0 s6 c7 f9 (by omega) (by omega)
            · exact sj_X12_isGap_309_J59 hfu r0 s6 c7 f9 (by omega) (by omega)
abbrev R_X12_addsBlock_309 (a b : Int) : Prop := (3448 ≤ a ∧ a ≤ 3448) ∨ (3452 ≤ a ∧ a ≤ 3651) ∨ (a = 309 ∧ (b = 58))
abbrev P_X12_addsBlock_309 (r0 : z_M) (a1 : Int) : z_V → z_M → Prop := fun v s' => z_CI s' ∧ z_Fr R_X12_addsBlock_309 r0 s' ∧ (y_AB r0 s' a1) ∧ (v = vN)
set_option maxHeartbeats 4000000 in
theorem sf_X12_addsBlock_309 {fu : Nat} (hfu : 8589934592 ≤ fu) (r0 : z_M) (c0 : z_CI r0) (a1 : Int) (a2 : Int) (b1 : 0 ≤ a1 ∧ a1 ≤ 199) (b2 : 0 ≤ a2 ∧ a2 ≤ 199) (p0 : r0 309 58 ≤ 199) (p1 : 0 < r0 3229 a1) (p2 : a1 + r0 3229 a1 ≤ 200) : z_T (fX12_addsBlock fu r0 309 a1 a2) (P_X12_addsBlock_309 r0 a1) := by
  refine T_of (fX12_addsBlock.eq_1 ..) ?_
  have u1 := CI_b c0 (k := 309) (j := 58) bd_309_58
  refine T_if1 (by decide +kernel) ?_
  refine T_let 3451 (by decide +kernel) ?_
  refine T_if1 (by decide +kernel) ?_
  refine T_leq (fun x2 e3 => ?_)
  have u4 := CI_b c0 (k := 309) (j := 58) bd_309_58
  refine T_if1 (z_ixl (n := 200) (by decide +kernel) (by omega) (by omega)) ?_
  refine T_let (3452 + x2) (gr_3451 x2) ?_
  refine T_if1 (by decide +kernel) ?_
  refine T_let 3229 (by decide +kernel) ?_
  refine T_if1 (z_ixl (n := 200) (by decide +kernel) (by omega) (by omega)) ?_
  refine T_leq (fun x5 e6 => ?_)
  have u7 := CI_b c0 (k := 3229) (j := a1) (bdr_3229 a1)
  refine T_leq (fun x8 e9 => ?_)
  first | (have w10 := z_wx e9 (by omega)) | (have w10 := z_wr e9)
  refine T_leq (fun x11 e12 => ?_)
  first | (have w13 := z_wx e12 (by omega)) | (have w13 := z_wr e12)
  have hAB0 : 0 ≤ x2 ∧ x2 ≤ 199 := by omega
  have hABp : 0 < x5 := by omega
  have r14 : y_RK r0 r0 x2 := y_RK.z
  refine T_if1 (z_ixs (sh_r3451 (by omega)) (by omega) (by omega) (by omega)) ?_
  refine T_upg c0 (bds_r3451_0 (by omega)) (by omega) (fun s15 c16 g18 g19 e20 => ?_)
  have f17 := z_Fr.up (R := R_X12_addsBlock_309) z_Fr.rf g18 (fun b => by unfold R_X12_addsBlock_309; omega)
  have t21 : s15 309 58 = x2 := (g18 309 58 (by omega)).trans e3
  have t22 : s15 3229 a1 = x5 := by first | exact (g18 3229 a1 (by omega)).trans e6 | exact (g19 a1 (by omega)).trans e6
  have r23 := y_RK.st r14 g18
  refine T_if1 (by decide +kernel) ?_
  refine T_let 3229 (by decide +kernel) ?_
  refine T_if1 (z_ixl (n := 200) (by decide +kernel) (by omega) (by omega)) ?_
  refine T_leq (fun x24 e25 => ?_)
  have q26 : x5 = x24 := t22.symm.trans e25
  subst q26
  refine T_if1 (z_ixs (sh_r3451 (by omega)) (by omega) (by omega) (by omega)) ?_
  refine T_upg c16 (bds_r3451_1 (by omega)) (by omega) (fun s27 c28 g30 g31 e32 => ?_)
  have f29 := z_Fr.up (R := R_X12_addsBlock_309) f17 g30 (fun b => by unfold R_X12_addsBlock_309; omega)
  have t33 : s27 309 58 = x2 := (g30 309 58 (by omega)).trans t21
  have t34 : s27 3229 a1 = x5 := by first | exact (g30 3229 a1 (by omega)).trans t22 | exact (g31 a1 (by omega)).trans t22
  have t35 : s27 (3452 + x2) 0 = a1 := by first | exact (g30 (3452 + x2) 0 (by omega)).trans e20 | exact (g31 0 (by omega)).trans e20
  have r36 := y_RK.st r23 g30
  clear t21
  clear t22
  refine T_if1 (by decide +kernel) ?_
  refine T_let 3233 (by decide +kernel) ?_
  refine T_if1 (z_ixl (n := 200) (by decide +kernel) (by omega) (by omega)) ?_
  refine T_leq (fun x37 e38 => ?_)
  have u39 := CI_b c28 (k := 3233) (j := a1) (bdr_3233 a1)
  refine T_if1 (z_ixs (sh_r3451 (by omega)) (by omega) (by omega) (by omega)) ?_
  refine T_upg c28 (bds_r3451_2 (by omega)) (by omega) (fun s40 c41 g43 g44 e45 => ?_)
  have f42 := z_Fr.up (R := R_X12_addsBlock_309) f29 g43 (fun b => by unfold R_X12_addsBlock_309; omega)
  have t46 : s40 309 58 = x2 := (g43 309 58 (by omega)).trans t33
  have t47 : s40 3229 a1 = x5 := by first | exact (g43 3229 a1 (by omega)).trans t34 | exact (g44 a1 (by omega)).trans t34
  have t48 : s40 (3452 + x2) 0 = a1 := by first | exact (g43 (3452 + x2) 0 (by omega)).trans t35 | exact (g44 0 (by omega)).trans t35
  have t49 : s40 (3452 + x2) 1 = x5 := by first | exact (g43 (3452 + x2) 1 (by omega)).trans e32 | exact (g44 1 (by omega)).trans e32
  have r50 := y_RK.st r36 g43
  clear e45
  clear t33
  clear t34
  clear t35
  refine T_if1 (by decide +kernel) ?_
  refine T_let 3232 (by decide +kernel) ?_
  refine T_if1 (z_ixl (n := 200) (by decide +kernel) (by omega) (by omega)) ?_
  refine T_leq (fun x51 e52 => ?_)
  have u53 := CI_b c41 (k := 3232) (j := a1) (bdr_3232 a1)
  refine T_if1 (z_ixs (sh_r3451 (by omega)) (by omega) (by omega) (by omega)) ?_
  refine T_upg c41 (bds_r3451_3 (by omega)) (by omega) (fun s54 c55 g57 g58 e59 => ?_)
  have f56 := z_Fr.up (R := R_X12_addsBlock_309) f42 g57 (fun b => by unfold R_X12_addsBlock_309; omega)
  have t60 : s54 309 58 = x2 := (g57 309 58 (by omega)).trans t46
  have t61 : s54 3229 a1 = x5 := by first | exact (g57 3229 a1 (by omega)).trans t47 | exact (g58 a1 (by omega)).trans t47
  have t62 : s54 (3452 + x2) 0 = a1 := by first | exact (g57 (3452 + x2) 0 (by omega)).trans t48 | exact (g58 0 (by omega)).trans t48
  have t63 : s54 (3452 + x2) 1 = x5 := by first | exact (g57 (3452 + x2) 1 (by omega)).trans t49 | exact (g58 1 (by omega)).trans t49
  have r64 := y_RK.st r50 g57
  clear e59
  clear t46
  clear t47
  clear t48
  clear t49
  refine T_if1 (by decide +kernel) ?_
  refine T_let 3230 (by decide +kernel) ?_
  refine T_if1 (z_ixl (n := 200) (by decide +kernel) (by omega) (by omega)) ?_
  refine T_leq (fun x65 e66 => ?_)
  have u67 := CI_b c55 (k := 3230) (j := a1) (bdr_3230 a1)
  refine T_if1 (by decide +kernel) ?_
  refine T_let 3227 (by decide +kernel) ?_
  refine T_if1 (z_ixl (n := 200) (by decide +kernel) (by omega) (by omega)) ?_
  refine T_leq (fun x68 e69 => ?_)
  have u70 := CI_b c55 (k := 3227) (j := a1) (bdr_3227 a1)
  refine T_leq (fun x71 e72 => ?_)
  first | (have w73 := z_wx e72 (by omega)) | (have w73 := z_wr e72)
  refine T_if1 (z_ixs (sh_r3451 (by omega)) (by omega) (by omega) (by omega)) ?_
  refine T_upg c55 (bds_r3451_4 (by omega)) (by omega) (fun s74 c75 g77 g78 e79 => ?_)
  have f76 := z_Fr.up (R := R_X12_addsBlock_309) f56 g77 (fun b => by unfold R_X12_addsBlock_309; omega)
  have t80 : s74 309 58 = x2 := (g77 309 58 (by omega)).trans t60
  have t81 : s74 3229 a1 = x5 := by first | exact (g77 3229 a1 (by omega)).trans t61 | exact (g78 a1 (by omega)).trans t61
  have t82 : s74 (3452 + x2) 0 = a1 := by first | exact (g77 (3452 + x2) 0 (by omega)).trans t62 | exact (g78 0 (by omega)).trans t62
  have t83 : s74 (3452 + x2) 1 = x5 := by first | exact (g77 (3452 + x2) 1 (by omega)).trans t63 | exact (g78 1 (by omega)).trans t63
  have r84 := y_RK.st r64 g77
  clear e79
  clear t60
  clear t61
  clear t62
  clear t63
  refine T_if1 (by decide +kernel) ?_
  refine T_let 3231 (by decide +kernel) ?_
  refine T_if1 (z_ixl (n := 200) (by decide +kernel) (by omega) (by omega)) ?_
  refine T_leq (fun x85 e86 => ?_)
  have u87 := CI_b c75 (k := 3231) (j := x11) (bdr_3231 x11)
  refine T_if1 (by decide +kernel) ?_
  refine T_let 3228 (by decide +kernel) ?_
  refine T_if1 (z_ixl (n := 200) (by decide +kernel) (by omega) (by omega)) ?_
  refine T_leq (fun x88 e89 => ?_)
  have u90 := CI_b c75 (k := 3228) (j := x11) (bdr_3228 x11)
  refine T_leq (fun x91 e92 => ?_)
  first | (have w93 := z_wx e92 (by omega)) | (have w93 := z_wr e92)
  refine T_if1 (z_ixs (sh_r3451 (by omega)) (by omega) (by omega) (by omega)) ?_
  refine T_upg c75 (bds_r3451_5 (by omega)) (by omega) (fun s94 c95 g97 g98 e99 => ?_)
  have f96 := z_Fr.up (R := R_X12_addsBlock_309) f76 g97 (fun b => by unfold R_X12_addsBlock_309; omega)
  have t100 : s94 309 58 = x2 := (g97 309 58 (by omega)).trans t80
  have t101 : s94 3229 a1 = x5 := by first | exact (g97 3229 a1 (by omega)).trans t81 | exact (g98 a1 (by omega)).trans t81
  have t102 : s94 (3452 + x2) 0 = a1 := by first | exact (g97 (3452 + x2) 0 (by omega)).trans t82 | exact (g98 0 (by omega)).trans t82
  have t103 : s94 (3452 + x2) 1 = x5 := by first | exact (g97 (3452 + x2) 1 (by omega)).trans t83 | exact (g98 1 (by omega)).trans t83
  have r104 := y_RK.st r84 g97
  clear e99
  clear t80
  clear t81
  clear t82
  clear t83
  refine T_if1 (by decide +kernel) ?_
  refine T_let 3227 (by decide +kernel) ?_
  refine T_if1 (z_ixl (n := 200) (by decide +kernel) (by omega) (by omega)) ?_
  refine T_leq (fun x105 e106 => ?_)
  have u107 := CI_b c95 (k := 3227) (j := a1) (bdr_3227 a1)
  refine T_if1 (z_ixs (sh_r3451 (by omega)) (by omega) (by omega) (by omega)) ?_
  refine T_upg c95 (bds_r3451_6 (by omega)) (by omega) (fun s108 c109 g111 g112 e113 => ?_)
  have f110 := z_Fr.up (R := R_X12_addsBlock_309) f96 g111 (fun b => by unfold R_X12_addsBlock_309; omega)
  have t114 : s108 309 58 = x2 := (g111 309 58 (by omega)).trans t100
  have t115 : s108 3229 a1 = x5 := by first | exact (g111 3229 a1 (by omega)).trans t101 | exact (g112 a1 (by omega)).trans t101
  have t116 : s108 (3452 + x2) 0 = a1 := by first | exact (g111 (3452 + x2) 0 (by omega)).trans t102 | exact (g112 0 (by omega)).trans t102
  have t117 : s108 (3452 + x2) 1 = x5 := by first | exact (g111 (3452 + x2) 1 (by omega)).trans t103 | exact (g112 1 (by omega)).trans t103
  have r118 := y_RK.st r104 g111
  clear e113
  clear t100
  clear t101
  clear t102
  clear t103
  refine T_if1 (by decide +kernel) ?_
  refine T_let 3228 (by decide +kernel) ?_
  refine T_if1 (z_ixl (n := 200) (by decide +kernel) (by omega) (by omega)) ?_
  refine T_leq (fun x119 e120 => ?_)
  have u121 := CI_b c109 (k := 3228) (j := x11) (bdr_3228 x11)
  refine T_if1 (z_ixs (sh_r3451 (by omega)) (by omega) (by omega) (by omega)) ?_
  refine T_upg c109 (bds_r3451_7 (by omega)) (by omega) (fun s122 c123 g125 g126 e127 => ?_)
  have f124 := z_Fr.up (R := R_X12_addsBlock_309) f110 g125 (fun b => by unfold R_X12_addsBlock_309; omega)
  have t128 : s122 309 58 = x2 := (g125 309 58 (by omega)).trans t114
  have t129 : s122 3229 a1 = x5 := by first | exact (g125 3229 a1 (by omega)).trans t115 | exact (g126 a1 (by omega)).trans t115
  have t130 : s122 (3452 + x2) 0 = a1 := by first | exact (g125 (3452 + x2) 0 (by omega)).trans t116 | exact (g126 0 (by omega)).trans t116
  have t131 : s122 (3452 + x2) 1 = x5 := by first | exact (g125 (3452 + x2) 1 (by omega)).trans t117 | exact (g126 1 (by omega)).trans t117
  have r132 := y_RK.st r118 g125
  clear e127
  clear t114
  clear t115
  clear t116
  clear t117
  refine T_if1 (by decide +kernel) ?_
  refine T_leq (fun x133 e134 => ?_)
  have q135 : x2 = x133 := t128.symm.trans e134
  subst q135
  refine T_leq (fun x136 e137 => ?_)
  first | (have w138 := z_wx e137 (by omega)) | (have w138 := z_wr e137)
  refine T_if1 (by decide +kernel) ?_
  refine T_upg c123 bd_309_58 (by omega) (fun s139 c140 g142 g143 e144 => ?_)
  have f141 := z_Fr.upf (R := R_X12_addsBlock_309) f124 g142 g143 (Or.inr (Or.inr (⟨rfl, by decide⟩)))
  have u145 := CI_b c140 (k := 309) (j := 58) bd_309_58
  have t146 : s139 3229 a1 = x5 := by first | exact (g142 3229 a1 (by omega)).trans t129 | exact (g143 a1 (by omega)).trans t129
  have t147 : s139 (3452 + x2) 0 = a1 := by first | exact (g142 (3452 + x2) 0 (by omega)).trans t130 | exact (g143 0 (by omega)).trans t130
  have t148 : s139 (3452 + x2) 1 = x5 := by first | exact (g142 (3452 + x2) 1 (by omega)).trans t131 | exact (g143 1 (by omega)).trans t131
  have r149 := y_RK.st2 r132 g142 g143
  clear t129
  clear t130
  clear t131
  have hABc : x136 = x2 + 1 := by omega
  refine T_if1 (by decide +kernel) ?_
  refine T_let 3448 (by decide +kernel) ?_
  refine T_if1 (z_ixl (n := 200) (by decide +kernel) (by omega) (by omega)) ?_
  refine T_leq (fun x150 e151 => ?_)
  have u152 := CI_b c140 (k := 3448) (j := a2) (bdr_3448 a2)
  refine T_leq (fun x153 e154 => ?_)
  first | (have w155 := z_wx e154 (by omega)) | (have w155 := z_wr e154)
  refine T_if1 (z_ixl (n := 200) (by decide +kernel) (by omega) (by omega)) ?_
  refine T_upg c140 (bdr_3448 a2) (by omega) (fun s156 c157 g159 g160 e161 => ?_)
  have f158 := z_Fr.up (R := R_X12_addsBlock_309) f141 g159 (fun _ => (Or.inl (⟨by decide, by decide⟩)))
  have t162 : s156 309 58 = s139 309 58 := g159 309 58 (by decide)
  have t163 : s156 3229 a1 = x5 := by first | exact (g159 3229 a1 (by omega)).trans t146 | exact (g160 a1 (by omega)).trans t146
  have t164 : s156 (3452 + x2) 0 = a1 := by first | exact (g159 (3452 + x2) 0 (by omega)).trans t147 | exact (g160 0 (by omega)).trans t147
  have t165 : s156 (3452 + x2) 1 = x5 := by first | exact (g159 (3452 + x2) 1 (by omega)).trans t148 | exact (g160 1 (by omega)).trans t148
  have t166 : s156 309 58 = x136 := by first | exact (g159 309 58 (by omega)).trans e144 | exact (g160 58 (by omega)).trans e144
  have r167 := y_RK.st3 r149 g159
  have r168 := y_AB.mk r167 e3 hAB0.1 hAB0.2 e6 hABp t164 t165 (t166.trans hABc)
  clear e161
  clear t146
  clear t147
  clear t148
  exact T_ret ⟨c157, f158, r168, rfl⟩
abbrev R_X12_laysLine_309 (a b : Int) : Prop := (3224 ≤ a ∧ a ≤ 3437) ∨ (3441 ≤ a ∧ a ≤ 3651) ∨ (a = 309 ∧ (b = 35 ∨ b = 36 ∨ b = 38 ∨ b = 39 ∨ b = 43 ∨ b = 58))
abbrev P_X12_laysLine_309 (r0 : z_M) (a1 : Int) : z_V → z_M → Prop := fun v s' => z_CI s' ∧ z_Fr R_X12_laysLine_309 r0 s' ∧ (y_BL s' (a1 + 1)) ∧ (s' 309 43 = 0 ∨ s' 309 36 = 0 ∨ (r0 309 36 ≠ 0 ∧ r0 309 43 ≠ 0)) ∧ (r0 309 36 = 0 ∨ s' 309 36 ≠ 0) ∧ (v = vN)
theorem rs_X12_lays_309__X12_laysLine_309 (a b : Int) (h : R_X12_lays_309 a b) : R_X12_laysLine_309 a b := (h.elim (fun h => (Or.inl (⟨by omega, by omega⟩))) (fun h => (Or.inr (Or.inr (⟨h.1, by omega⟩)))))
theorem nr_X12_lays_309__3438 (b : Int) : ¬ R_X12_lays_309 3438 b := by
  unfold R_X12_lays_309; omega
theorem nq_X12_lays_309__3452 (a b : Int) (h : 3452 ≤ a ∧ a ≤ 3651) : ¬ R_X12_lays_309 a b := by
  unfold R_X12_lays_309; omega
theorem rs_X12_isGap_309__X12_laysLine_309 (a b : Int) (h : R_X12_isGap_309 a b) : R_X12_laysLine_309 a b := (h.elim (fun h => (Or.inl (⟨by omega, by omega⟩))) (fun h => (Or.inr (Or.inr (⟨h.1, by omega⟩)))))
theorem nr_X12_isGap_309__3220 (b : Int) : ¬ R_X12_isGap_309 3220 b := by
  unfold R_X12_isGap_309; omega
theorem nr_X12_isGap_309__3221 (b : Int) : ¬ R_X12_isGap_309 3221 b := by
  unfold R_X12_isGap_309; omega
theorem nr_X12_isGap_309__3222 (b : Int) : ¬ R_X12_isGap_309 3222 b := by
  unfold R_X12_isGap_309; omega
theorem nr_X12_isGap_309__361 (b : Int) : ¬ R_X12_isGap_309 361 b := by
  unfold R_X12_isGap_309; omega
theorem nr_X12_isGap_309__3438 (b : Int) : ¬ R_X12_isGap_309 3438 b := by
  unfold R_X12_isGap_309; omega
theorem nr_X12_isGap_309__3229 (b : Int) : ¬ R_X12_isGap_309 3229 b := by
  unfold R_X12_isGap_309; omega
theorem nq_X12_isGap_309__3452 (a b : Int) (h : 3452 ≤ a ∧ a ≤ 3651) : ¬ R_X12_isGap_309 a b := by
  unfold R_X12_isGap_309; omega
theorem sj_X12_laysLine_309_J69 {fu : Nat} (hfu : 8589934592 ≤ fu) (r0 s : z_M) (c : z_CI s) (f : z_Fr R_X12_laysLine_309 r0 s) (a1 : Int) (a2 : Int) (a3 : Int) (a4 : Int) (a6 : Int) (a7 : Int) (a8 : Int) (t0 : Int) (t1 : Int) (b1 : 0 ≤ a1 ∧ a1 ≤ 199) (b2 : 0 ≤ a2 ∧ a2 ≤ 199) (b3 : 0 ≤ a3 ∧ a3 ≤ 199) (b4 : -2147483648 ≤ a4 ∧ a4 ≤ 2147483647) (b6 : -2147483648 ≤ a6 ∧ a6 ≤ 2147483647) (b7 : -2147483648 ≤ a7 ∧ a7 ≤ 2147483647) (b8 : 0 ≤ a8 ∧ a8 ≤ 199) (d0 : -2147483648 ≤ t0 ∧ t0 ≤ 2147483647) (d1 : 0 ≤ t1 ∧ t1 ≤ 1) (p0 : a8 ≤ a3) (p1 : a3 < s 309 20) (p2 : a2 ≤ a3) (p3 : y_B s) (p4 : y_L s (s 309 44)) (p5 : y_E s a2 a3) (p6 : y_BP s a2) (p7 : y_LE s a1 a3) (p8 : s 309 43 = 0 ∨ s 309 36 = 0 ∨ (r0 309 36 ≠ 0 ∧ r0 309 43 ≠ 0)) (p9 : r0 309 36 = 0 ∨ s 309 36 ≠ 0) (M : Int) (pm : 2147483647 - a8 ≤ M) {r : z_M → Int → Int → z_O} {k : z_M → Int → z_O} (hr : ∀ (s' : z_M) (v5 : Int) (v8 : Int), z_CI s' → z_Fr R_X12_laysLine_309 r0 s' → (-2147483648 ≤ v5 ∧ v5 ≤ 2147483647) → (0 ≤ v8 ∧ v8 ≤ 200) → (v8 ≤ a3 + 1) → (a3 < s' 309 20) → (a2 ≤ a3) → (y_B s') → (y_L s' (s' 309 44)) → (y_E s' a2 a3) → (y_BP s' a2) → (y_LE s' a1 a3) → (s' 309 43 = 0 ∨ s' 309 36 = 0 ∨ (r0 309 36 ≠ 0 ∧ r0 309 43 ≠ 0)) → (r0 309 36 = 0 ∨ s' 309 36 ≠ 0) → (2147483647 - v8 < M) → z_T (r s' v5 v8) (P_X12_laysLine_309 r0 a1)) (hk : ∀ (s' : z_M) (v5 : Int), z_CI s' → z_Fr R_X12_laysLine_309 r0 s' → (-2147483648 ≤ v5 ∧ v5 ≤ 2147483647) → (a3 < s' 309 20) → (a2 ≤ a3) → (y_B s') → (y_L s' (s' 309 44)) → (y_E s' a2 a3) → (y_BP s' a2) → (y_LE s' a1 a3) → (s' 309 43 = 0 ∨ s' 309 36 = 0 ∨ (r0 309 36 ≠ 0 ∧ r0 309 43 ≠ 0)) → (r0 309 36 = 0 ∨ s' 309 36 ≠ 0) → z_T (k s' v5) (P_X12_laysLine_309 r0 a1)) : z_T (fX12_laysLine_J69 fu s 309 a1 a2 a3 a4 a6 a7 a8 t0 t1 r k) (P_X12_laysLine_309 r0 a1) := by
  refine T_of (fX12_laysLine_J69.eq_1 ..) ?_
  have u1 := CI_b c (k := 309) (j := 20) bd_309_20
  have u2 := CI_b c (k := 309) (j := 36) bd_309_36
  have u3 := CI_b c (k := 309) (j := 43) bd_309_43
  have u4 := CI_b c (k := 309) (j := 44) bd_309_44
  have u5 := CI_b c (k := 309) (j := 58) bd_309_58
  have u6 := CI_b c (k := 316) (j := 0) bd_316_0
  have t7 : s 309 20 = r0 309 20 := f 309 20 (by decide)
  have t8 : s 309 44 = r0 309 44 := f 309 44 (by decide)
  have t9 : s 316 0 = r0 316 0 := f 316 0 (by decide)
  refine T_leq (fun x10 e11 => ?_)
  first | (have w12 := z_wx e11 (by omega)) | (have w12 := z_wr e11)
  refine T_leq (fun x13 e14 => ?_)
  first | (have w15 := z_wx e14 (by omega)) | (have w15 := z_wr e14)
  exact hr s x10 x13 c f (by omega) (by omega) (by omega) (by omega) (by omega) p3 (by first | exact y_L.cg p4 (by omega)) (by first | exact y_E.cg p5 (by omega) (by omega)) (by first | exact y_BP.cg p6 (by omega)) (by first | exact y_LE.cg p7 (by omega) (by omega)) (by omega) (by omega) (by omega)
theorem sl_X12_laysLine_309_L46 {fu : Nat} (hfu : 8589934592 ≤ fu) (r0 : z_M) (a1 : Int) (a2 : Int) (a3 : Int) (a4 : Int) (a6 : Int) (a7 : Int) (b1 : 0 ≤ a1 ∧ a1 ≤ 199) (b2 : 0 ≤ a2 ∧ a2 ≤ 199) (b3 : 0 ≤ a3 ∧ a3 ≤ 199) (b4 : -2147483648 ≤ a4 ∧ a4 ≤ 2147483647) (b6 : -2147483648 ≤ a6 ∧ a6 ≤ 2147483647) (b7 : -2147483648 ≤ a7 ∧ a7 ≤ 2147483647) {k : z_M → Int → z_O} (hk : ∀ (s' : z_M) (v5 : Int), z_CI s' → z_Fr R_X12_laysLine_309 r0 s' → (-2147483648 ≤ v5 ∧ v5 ≤ 2147483647) → (a3 < s' 309 20) → (a2 ≤ a3) → (y_B s') → (y_L s' (s' 309 44)) → (y_E s' a2 a3) → (y_BP s' a2) → (y_LE s' a1 a3) → (s' 309 43 = 0 ∨ s' 309 36 = 0 ∨ (r0 309 36 ≠ 0 ∧ r0 309 43 ≠ 0)) → (r0 309 36 = 0 ∨ s' 309 36 ≠ 0) → z_T (k s' v5) (P_X12_laysLine_309 r0 a1)) : ∀ (F : Nat) (s : z_M) (a5 : Int) (a8 : Int), z_CI s → z_Fr R_X12_laysLine_309 r0 s → (-2147483648 ≤ a5 ∧ a5 ≤ 2147483647) → (0 ≤ a8 ∧ a8 ≤ 200) → (a8 ≤ a3 + 1) → (a3 < s 309 20) → (a2 ≤ a3) → (y_B s) → (y_L s (s 309 44)) → (y_E s a2 a3) → (y_BP s a2) → (y_LE s a1 a3) → (s 309 43 = 0 ∨ s 309 36 = 0 ∨ (r0 309 36 ≠ 0 ∧ r0 309 43 ≠ 0)) → (r0 309 36 = 0 ∨ s 309 36 ≠ 0) → (2147483647 - a8 < (F : Int)) → z_T (fX12_laysLine_L46 fu 309 a1 a2 a3 a4 a6 a7 F s a5 a8 k) (P_X12_laysLine_309 r0 a1) := by
  intro F
  induction F with
  | zero =>
    intro s a5 a8 c f b5 b8 i0 i1 i2 i3 i4 i5 i6 i7 i8 i9 hm
    have u33 := CI_b c (k := 309) (j := 20) bd_309_20
    have u34 := CI_b c (k := 309) (j := 36) bd_309_36
    have u35 := CI_b c (k := 309) (j := 43) bd_309_43
    have u36 := CI_b c (k := 309) (j := 44) bd_309_44
    have u37 := CI_b c (k := 309) (j := 58) bd_309_58
    have u38 := CI_b c (k := 316) (j := 0) bd_316_0
    exfalso; omega
  | succ F ih =>
    intro s a5 a8 c f b5 b8 i0 i1 i2 i3 i4 i5 i6 i7 i8 i9 hm
    refine T_of (fX12_laysLine_L46.eq_2 ..) ?_
    have u1 := CI_b c (k := 309) (j := 20) bd_309_20
    have u2 := CI_b c (k := 309) (j := 36) bd_309_36
    have u3 := CI_b c (k := 309) (j := 43) bd_309_43
    have u4 := CI_b c (k := 309) (j := 44) bd_309_44
    have u5 := CI_b c (k := 309) (j := 58) bd_309_58
    have u6 := CI_b c (k := 316) (j := 0) bd_316_0
    have t7 : s 309 20 = r0 309 20 := f 309 20 (by decide)
    have t8 : s 309 44 = r0 309 44 := f 309 44 (by decide)
    have t9 : s 316 0 = r0 316 0 := f 316 0 (by decide)
    refine T_ite (fun h10 => ?_) (fun h10 => ?_)
    · exact hk s a5 c f (by omega) (by omega) (by omega) i3 (by first | exact y_L.cg i4 (by omega)) (by first | exact y_E.cg i5 (by omega) (by omega)) (by first | exact y_BP.cg i6 (by omega)) (by first | exact y_LE.cg i7 (by omega) (by omega)) (by omega) (by omega)
    · refine T_if1 (by decide +kernel) ?_
      refine T_useI (sf_X12_isGap_309 hfu s c a8 a3 (by omega) (by omega) i3 (by omega) (by omega)) (fun v16 s11 hq => ?_)
      obtain ⟨c12, f13, o17, o18, ⟨x15, rfl, b19, b20⟩⟩ := hq
      refine T_vI ?_
      have f14 := z_Fr.tr (R := R_X12_laysLine_309) f f13 rs_X12_isGap_309__X12_laysLine_309
      have t21 : s11 309 20 = s 309 20 := f13 309 20 (by decide)
      have t22 : s11 309 44 = s 309 44 := f13 309 44 (by decide)
      have t23 : s11 309 58 = s 309 58 := f13 309 58 (by decide)
      have t24 : s11 316 0 = s 316 0 := f13 316 0 (by decide)
      have u25 := CI_b c12 (k := 309) (j := 36) bd_309_36
      have u26 := CI_b c12 (k := 309) (j := 43) bd_309_43
      have r27 := y_B.fr i3 (f13 309 20 (by decide)) (f13 316 0 (by decide)) (fun b => f13 3220 b (nr_X12_isGap_309__3220 b)) (fun b => f13 3221 b (nr_X12_isGap_309__3221 b)) (fun b => f13 3222 b (nr_X12_isGap_309__3222 b)) (fun b => f13 361 b (nr_X12_isGap_309__361 b))
      have r28 := y_L.fr i4 (f13 309 20 (by decide)) (fun b => f13 3438 b (nr_X12_isGap_309__3438 b))
      have r29 := y_E.fr i5 (fun b => f13 3229 b (nr_X12_isGap_309__3229 b)) (fun b => f13 3220 b (nr_X12_isGap_309__3220 b))
      have r30 := y_BP.fr i6 (by omega) (f13 309 58 (by decide)) (fun b => f13 3220 b (nr_X12_isGap_309__3220 b)) (fun a b h => f13 a b (nq_X12_isGap_309__3452 a b h))
      have r31 := y_LE.fr i7 (fun b => f13 3438 b (nr_X12_isGap_309__3438 b))
      refine T_ite (fun h32 => ?_) (fun h32 => ?_)
      · exact sj_X12_laysLine_309_J69 hfu r0 s11 c12 f14 a1 a2 a3 a4 a6 a7 a8 a5 0 (by omega) (by omega) (by omega) (by omega) (by omega) (by omega) (by omega) (by omega) (by omega) (by omega) (by omega) (by omega) r27 (by first | exact y_L.cg r28 (by omega)) (by first | exact y_E.cg r29 (by omega) (by omega)) (by first | exact y_BP.cg r30 (by omega)) (by first | exact y_LE.cg r31 (by omega) (by omega)) (by omega) (by omega) (2147483647 - a8) (by omega) (fun s' v5 v8 c' f' w5 w8 z0 z1 z2 z3 z4 z5 z6 z7 z8 z9 pg => ih s' v5 v8 c' f' w5 w8 z0 z1 z2 z3 z4 z5 z6 z7 z8 z9 (by omega)) hk
      · exact sj_X12_laysLine_309_J69 hfu r0 s11 c12 f14 a1 a2 a3 a4 a6 a7 a8 a5 1 (by omega) (by omega) (by omega) (by omega) (by omega) (by omega) (by omega) (by omega) (by omega) (by omega) (by omega) (by omega) r27 (by first | exact y_L.cg r28 (by omega)) (by first | exact y_E.cg r29 (by omega) (by omega)) (by first | exact y_BP.cg r30 (by omega)) (by first | exact y_LE.cg r31 (by omega) (by omega)) (by omega) (by omega) (2147483647 - a8) (by omega) (fun s' v5 v8 c' f' w5 w8 z0 z1 z2 z3 z4 z5 z6 z7 z8 z9 pg => ih s' v5 v8 c' f' w5 w8 z0 z1 z2 z3 z4 z5 z6 z7 z8 z9 (by omega)) hk
theorem sj_X12_laysLine_309_J328 {fu : Nat} (hfu : 8589934592 ≤ fu) (r0 s : z_M) (c : z_CI s) (f : z_Fr R_X12_laysLine_309 r0 s) (a1 : Int) (a3 : Int) (a5 : Int) (a6 : Int) (a7 : Int) (a8 : Int) (a9 : Int) (a10 : Int) (a12 : Int) (t0 : Int) (t1 : Int) (b1 : 0 ≤ a1 ∧ a1 ≤ 199) (b3 : 0 ≤ a3 ∧ a3 ≤ 199) (b5 : -2147483648 ≤ a5 ∧ a5 ≤ 2147483647) (b6 : -2147483648 ≤ a6 ∧ a6 ≤ 2147483647) (b7 : -2147483648 ≤ a7 ∧ a7 ≤ 2147483647) (b8 : 0 ≤ a8 ∧ a8 ≤ 1) (b9 : -2147483648 ≤ a9 ∧ a9 ≤ 2147483647) (b10 : 0 ≤ a10 ∧ a10 ≤ 199) (b12 : 0 ≤ a12 ∧ a12 ≤ 199) (d0 : -2147483648 ≤ t0 ∧ t0 ≤ 2147483647) (d1 : -2147483648 ≤ t1 ∧ t1 ≤ 2147483647) (p0 : a10 ≤ a3) (p1 : y_BX s (a10 + 1) a3) (p2 : a3 < s 309 20) (p3 : y_B s) (p4 : y_L s (s 309 44)) (p5 : y_E s a10 a3) (p6 : y_LE s a1 a3) (p7 : s 309 43 = 0 ∨ s 309 36 = 0 ∨ (r0 309 36 ≠ 0 ∧ r0 309 43 ≠ 0)) (p8 : r0 309 36 = 0 ∨ s 309 36 ≠ 0) (M : Int) (pm : 2147483647 - a12 ≤ M) {r : z_M → Int → Int → z_O} {k : z_M → z_O} (hr : ∀ (s' : z_M) (v11 : Int) (v12 : Int), z_CI s' → z_Fr R_X12_laysLine_309 r0 s' → (-2147483648 ≤ v11 ∧ v11 ≤ 2147483647) → (0 ≤ v12 ∧ v12 ≤ 200) → (a10 ≤ a3) → (y_BX s' (a10 + 1) a3) → (a3 < s' 309 20) → (y_B s') → (y_L s' (s' 309 44)) → (y_E s' a10 a3) → (y_LE s' a1 a3) → (s' 309 43 = 0 ∨ s' 309 36 = 0 ∨ (r0 309 36 ≠ 0 ∧ r0 309 43 ≠ 0)) → (r0 309 36 = 0 ∨ s' 309 36 ≠ 0) → (2147483647 - v12 < M) → z_T (r s' v11 v12) (P_X12_laysLine_309 r0 a1)) (hk : ∀ (s' : z_M), z_CI s' → z_Fr R_X12_laysLine_309 r0 s' → (y_BX s' (a10 + 1) a3) → (a3 < s' 309 20) → (y_B s') → (y_L s' (s' 309 44)) → (y_E s' a10 a3) → (y_LE s' a1 a3) → (s' 309 43 = 0 ∨ s' 309 36 = 0 ∨ (r0 309 36 ≠ 0 ∧ r0 309 43 ≠ 0)) → (r0 309 36 = 0 ∨ s' 309 36 ≠ 0) → z_T (k s') (P_X12_laysLine_309 r0 a1)) : z_T (fX12_laysLine_J328 fu s 309 a1 a3 a5 a6 a7 a8 a9 a10 a12 t0 t1 r k) (P_X12_laysLine_309 r0 a1) := by
  refine T_of (fX12_laysLine_J328.eq_1 ..) ?_
  have u1 := CI_b c (k := 309) (j := 20) bd_309_20
  have u2 := CI_b c (k := 309) (j := 36) bd_309_36
  have u3 := CI_b c (k := 309) (j := 43) bd_309_43
  have u4 := CI_b c (k := 309) (j := 44) bd_309_44
  have u5 := CI_b c (k := 309) (j := 58) bd_309_58
  have u6 := CI_b c (k := 316) (j := 0) bd_316_0
  have t7 : s 309 20 = r0 309 20 := f 309 20 (by decide)
  have t8 : s 309 44 = r0 309 44 := f 309 44 (by decide)
  have t9 : s 316 0 = r0 316 0 := f 316 0 (by decide)
  refine T_leq (fun x10 e11 => ?_)
  first | (have w12 := z_wx e11 (by omega)) | (have w12 := z_wr e11)
  refine T_leq (fun x13 e14 => ?_)
  first | (have w15 := z_wx e14 (by omega)) | (have w15 := z_wr e14)
  exact hr s x10 x13 c f (by omega) (by omega) (by omega) (by first | exact y_BX.cg p1 (by omega) (by omega)) (by omega) p3 (by first | exact y_L.cg p4 (by omega)) (by first | exact y_E.cg p5 (by omega) (by omega)) (by first | exact y_LE.cg p6 (by omega) (by omega)) (by omega) (by omega) (by omega)
theorem sl_X12_laysLine_309_L278 {fu : Nat} (hfu : 8589934592 ≤ fu) (r0 : z_M) (a1 : Int) (a3 : Int) (a5 : Int) (a6 : Int) (a7 : Int) (a8 : Int) (a9 : Int) (a10 : Int) (b1 : 0 ≤ a1 ∧ a1 ≤ 199) (b3 : 0 ≤ a3 ∧ a3 ≤ 199) (b5 : -2147483648 ≤ a5 ∧ a5 ≤ 2147483647) (b6 : -2147483648 ≤ a6 ∧ a6 ≤ 2147483647) (b7 : -2147483648 ≤ a7 ∧ a7 ≤ 2147483647) (b8 : 0 ≤ a8 ∧ a8 ≤ 1) (b9 : -2147483648 ≤ a9 ∧ a9 ≤ 2147483647) (b10 : 0 ≤ a10 ∧ a10 ≤ 199) {k : z_M → z_O} (hk : ∀ (s' : z_M), z_CI s' → z_Fr R_X12_laysLine_309 r0 s' → (y_BX s' (a10 + 1) a3) → (a3 < s' 309 20) → (y_B s') → (y_L s' (s' 309 44)) → (y_E s' a10 a3) → (y_LE s' a1 a3) → (s' 309 43 = 0 ∨ s' 309 36 = 0 ∨ (r0 309 36 ≠ 0 ∧ r0 309 43 ≠ 0)) → (r0 309 36 = 0 ∨ s' 309 36 ≠ 0) → z_T (k s') (P_X12_laysLine_309 r0 a1)) : ∀ (F : Nat) (s : z_M) (a11 : Int) (a12 : Int), z_CI s → z_Fr R_X12_laysLine_309 r0 s → (-2147483648 ≤ a11 ∧ a11 ≤ 2147483647) → (0 ≤ a12 ∧ a12 ≤ 200) → (a10 ≤ a3) → (y_BX s (a10 + 1) a3) → (a3 < s 309 20) → (y_B s) → (y_L s (s 309 44)) → (y_E s a10 a3) → (y_LE s a1 a3) → (s 309 43 = 0 ∨ s 309 36 = 0 ∨ (r0 309 36 ≠ 0 ∧ r0 309 43 ≠ 0)) → (r0 309 36 = 0 ∨ s 309 36 ≠ 0) → (2147483647 - a12 < (F : Int)) → z_T (fX12_laysLine_L278 fu 309 a1 a3 a5 a6 a7 a8 a9 a10 F s a11 a12 k) (P_X12_laysLine_309 r0 a1) := by
  intro F
  induction F with
  | zero =>
    intro s a11 a12 c f b11 b12 i0 i1 i2 i3 i4 i5 i6 i7 i8 hm
    have u57 := CI_b c (k := 309) (j := 20) bd_309_20
    have u58 := CI_b c (k := 309) (j := 36) bd_309_36
    have u59 := CI_b c (k := 309) (j := 43) bd_309_43
    have u60 := CI_b c (k := 309) (j := 44) bd_309_44
    have u61 := CI_b c (k := 309) (j := 58) bd_309_58
    have u62 := CI_b c (k := 316) (j := 0) bd_316_0
    exfalso; omega
  | succ F ih =>
    intro s a11 a12 c f b11 b12 i0 i1 i2 i3 i4 i5 i6 i7 i8 hm
    refine T_of (fX12_laysLine_L278.eq_2 ..) ?_
    have u1 := CI_b c (k := 309) (j := 20) bd_309_20
    have u2 := CI_b c (k := 309) (j := 36) bd_309_36
    have u3 := CI_b c (k := 309) (j := 43) bd_309_43
    have u4 := CI_b c (k := 309) (j := 44) bd_309_44
    have u5 := CI_b c (k := 309) (j := 58) bd_309_58
    have u6 := CI_b c (k := 316) (j := 0) bd_316_0
    have t7 : s 309 20 = r0 309 20 := f 309 20 (by decide)
    have t8 : s 309 44 = r0 309 44 := f 309 44 (by decide)
    have t9 : s 316 0 = r0 316 0 := f 316 0 (by decide)
    have n10 := y_B.at i3 (u := a10) (by omega) (by omega)
    refine T_if1 (by decide +kernel) ?_
    refine T_let 3221 (by decide +kernel) ?_
    refine T_if1 (z_ixl (n := 200) (by decide +kernel) (by omega) (by omega)) ?_
    refine T_leq (fun x11 e12 => ?_)
    have u13 := CI_b c (k := 3221) (j := a10) (bdr_3221 a10)
    refine T_if1 (by decide +kernel) ?_
    refine T_let 3222 (by decide +kernel) ?_
    refine T_if1 (z_ixl (n := 200) (by decide +kernel) (by omega) (by omega)) ?_
    refine T_leq (fun x14 e15 => ?_)
    have u16 := CI_b c (k := 3222) (j := a10) (bdr_3222 a10)
    refine T_leq (fun x17 e18 => ?_)
    first | (have w19 := z_wx e18 (by omega)) | (have w19 := z_wr e18)
    refine T_ite (fun h20 => ?_) (fun h20 => ?_)
    · exact hk s c f (by first | exact y_BX.cg i1 (by omega) (by omega)) (by omega) i3 (by first | exact y_L.cg i4 (by omega)) (by first | exact y_E.cg i5 (by omega) (by omega)) (by first | exact y_LE.cg i6 (by omega) (by omega)) (by omega) (by omega)
    · refine T_if1 (by decide +kernel) ?_
      refine T_let 3443 (by decide +kernel) ?_
      refine T_if1 (z_ixl (n := 200) (by decide +kernel) (by omega) (by omega)) ?_
      refine T_upg c (bdr_3443 a12) (by omega) (fun s21 c22 g24 g25 e26 => ?_)
      have f23 := z_Fr.up (R := R_X12_laysLine_309) f g24 (fun _ => (Or.inr (Or.inl (⟨by decide, by decide⟩))))
      have t27 : s21 309 20 = s 309 20 := g24 309 20 (by decide)
      have t28 : s21 309 36 = s 309 36 := g24 309 36 (by decide)
      have t29 : s21 309 43 = s 309 43 := g24 309 43 (by decide)
      have t30 : s21 309 44 = s 309 44 := g24 309 44 (by decide)
      have t31 : s21 309 58 = s 309 58 := g24 309 58 (by decide)
      have t32 : s21 316 0 = s 316 0 := g24 316 0 (by decide)
      have r33 := y_BX.fr i1 (by omega) (g24 309 58 (by decide)) (fun b => g24 3220 b (by decide)) (fun b => g24 3229 b (by decide)) (fun a b h => g24 a b (by omega))
      have r34 := y_B.fr i3 (g24 309 20 (by decide)) (g24 316 0 (by decide)) (fun b => g24 3220 b (by decide)) (fun b => g24 3221 b (by decide)) (fun b => g24 3222 b (by decide)) (fun b => g24 361 b (by decide))
      have r35 := y_L.fr i4 (g24 309 20 (by decide)) (fun b => g24 3438 b (by decide))
      have r36 := y_E.fr i5 (fun b => g24 3229 b (by decide)) (fun b => g24 3220 b (by decide))
      have r37 := y_LE.fr i6 (fun b => g24 3438 b (by decide))
      refine T_if1 (by decide +kernel) ?_
      refine T_useI (sf_X12_isAcross_309 hfu s21 c22 a10 (by omega)) (fun v43 s38 hq => ?_)
      obtain ⟨c39, f40, ⟨x42, rfl, b44, b45⟩⟩ := hq
      refine T_vI ?_
      have q46 := z_Fr.eq (fun a b h => h) f40
      subst q46
      refine T_ite (fun h47 => ?_) (fun h47 => ?_)
      · refine T_if1 (by decide +kernel) ?_
        refine T_useI (sf_X12_signLong_309 hfu s21 c22 a12 (by omega)) (fun v53 s48 hq => ?_)
        obtain ⟨c49, f50, ⟨x52, rfl, b54, b55⟩⟩ := hq
        refine T_vI ?_
        have q56 := z_Fr.eq (fun a b h => h) f50
        subst q56
        exact sj_X12_laysLine_309_J328 hfu r0 s21 c22 f23 a1 a3 a5 a6 a7 a8 a9 a10 a12 a11 x52 (by omega) (by omega) (by omega) (by omega) (by omega) (by omega) (by omega) (by omega) (by omega) (by omega) (by omega) (by omega) (by first | exact y_BX.cg r33 (by omega) (by omega)) (by omega) r34 (by first | exact y_L.cg r35 (by omega)) (by first | exact y_E.cg r36 (by omega) (by omega)) (by first | exact y_LE.cg r37 (by omega) (by omega)) (by omega) (by omega) (2147483647 - a12) (by omega) (fun s' v11 v12 c' f' w11 w12 z0 z1 z2 z3 z4 z5 z6 z7 z8 pg => ih s' v11 v12 c' f' w11 w12 z0 z1 z2 z3 z4 z5 z6 z7 z8 (by omega)) hk
      · exact sj_X12_laysLine_309_J328 hfu r0 s21 c22 f23 a1 a3 a5 a6 a7 a8 a9 a10 a12 a11 0 (by omega) (by omega) (by omega) (by omega) (by omega) (by omega) (by omega) (by omega) (by omega) (by omega) (by omega) (by omega) (by first | exact y_BX.cg r33 (by omega) (by omega)) (by omega) r34 (by first | exact y_L.cg r35 (by omega)) (by first | exact y_E.cg r36 (by omega) (by omega)) (by first | exact y_LE.cg r37 (by omega) (by omega)) (by omega) (by omega) (2147483647 - a12) (by omega) (fun s' v11 v12 c' f' w11 w12 z0 z1 z2 z3 z4 z5 z6 z7 z8 pg => ih s' v11 v12 c' f' w11 w12 z0 z1 z2 z3 z4 z5 z6 z7 z8 (by omega)) hk
theorem sj_X12_laysLine_309_J436 {fu : Nat} (hfu : 8589934592 ≤ fu) (r0 s : z_M) (c : z_CI s) (f : z_Fr R_X12_laysLine_309 r0 s) (a1 : Int) (a3 : Int) (a5 : Int) (a6 : Int) (a7 : Int) (a8 : Int) (a9 : Int) (a10 : Int) (b1 : 0 ≤ a1 ∧ a1 ≤ 199) (b3 : 0 ≤ a3 ∧ a3 ≤ 199) (b5 : -2147483648 ≤ a5 ∧ a5 ≤ 2147483647) (b6 : -2147483648 ≤ a6 ∧ a6 ≤ 2147483647) (b7 : -2147483648 ≤ a7 ∧ a7 ≤ 2147483647) (b8 : 0 ≤ a8 ∧ a8 ≤ 1) (b9 : -2147483648 ≤ a9 ∧ a9 ≤ 2147483647) (b10 : 0 ≤ a10 ∧ a10 ≤ 199) (p0 : a10 ≤ a3) (p1 : y_BX s (a10 + 1) a3) (p2 : a8 = 0 ∨ 1 ≤ a5) (p3 : a3 < s 309 20) (p4 : y_B s) (p5 : y_L s (s 309 44)) (p6 : y_E s a10 a3) (p7 : y_LE s a1 a3) (p8 : s 309 43 = 0 ∨ s 309 36 = 0 ∨ (r0 309 36 ≠ 0 ∧ r0 309 43 ≠ 0)) (p9 : r0 309 36 = 0 ∨ s 309 36 ≠ 0) (M : Int) (pm : 2147483647 - a10 ≤ M) {r : z_M → Int → Int → Int → z_O} {k : z_M → z_O} (hr : ∀ (s' : z_M) (v7 : Int) (v9 : Int) (v10 : Int), z_CI s' → z_Fr R_X12_laysLine_309 r0 s' → (-2147483648 ≤ v7 ∧ v7 ≤ 2147483647) → (-2147483648 ≤ v9 ∧ v9 ≤ 2147483647) → (0 ≤ v10 ∧ v10 ≤ 200) → (v10 ≤ a3 + 1) → (y_BX s' v10 a3) → (a8 = 0 ∨ 1 ≤ a5) → (a3 < s' 309 20) → (y_B s') → (y_L s' (s' 309 44)) → (y_E s' v10 a3) → (y_LE s' a1 a3) → (s' 309 43 = 0 ∨ s' 309 36 = 0 ∨ (r0 309 36 ≠ 0 ∧ r0 309 43 ≠ 0)) → (r0 309 36 = 0 ∨ s' 309 36 ≠ 0) → (2147483647 - v10 < M) → z_T (r s' v7 v9 v10) (P_X12_laysLine_309 r0 a1)) (hk : ∀ (s' : z_M), z_CI s' → z_Fr R_X12_laysLine_309 r0 s' → (y_BL s' (a1 + 1)) → (s' 309 43 = 0 ∨ s' 309 36 = 0 ∨ (r0 309 36 ≠ 0 ∧ r0 309 43 ≠ 0)) → (r0 309 36 = 0 ∨ s' 309 36 ≠ 0) → z_T (k s') (P_X12_laysLine_309 r0 a1)) : z_T (fX12_laysLine_J436 fu s 309 a1 a3 a5 a6 a7 a8 a9 a10 r k) (P_X12_laysLine_309 r0 a1) := by
  refine T_of (fX12_laysLine_J436.eq_1 ..) ?_
  have u1 := CI_b c (k := 309) (j := 20) bd_309_20
  have u2 := CI_b c (k := 309) (j := 36) bd_309_36
  have u3 := CI_b c (k := 309) (j := 43) bd_309_43
  have u4 := CI_b c (k := 309) (j := 44) bd_309_44
  have u5 := CI_b c (k := 309) (j := 58) bd_309_58
  have u6 := CI_b c (k := 316) (j := 0) bd_316_0
  have t7 : s 309 20 = r0 309 20 := f 309 20 (by decide)
  have t8 : s 309 44 = r0 309 44 := f 309 44 (by decide)
  have t9 : s 316 0 = r0 316 0 := f 316 0 (by decide)
  refine T_leq (fun x10 e11 => ?_)
  first | (have w12 := z_wx e11 (by omega)) | (have w12 := z_wr e11)
  exact hr s a7 a9 x10 c f (by omega) (by omega) (by omega) (by omega) (by first | exact y_BX.cg p1 (by omega) (by omega)) (by omega) (by omega) p4 (by first | exact y_L.cg p5 (by omega)) (by first | exact y_E.cg p6 (by omega) (by omega)) (by first | exact y_LE.cg p7 (by omega) (by omega)) (by omega) (by omega) (by omega)
theorem sj_X12_laysLine_309_J429 {fu : Nat} (hfu : 8589934592 ≤ fu) (r0 s : z_M) (c : z_CI s) (f : z_Fr R_X12_laysLine_309 r0 s) (a1 : Int) (a3 : Int) (a5 : Int) (a6 : Int) (a8 : Int) (a9 : Int) (a10 : Int) (t0 : Int) (t1 : Int) (t2 : Int) (b1 : 0 ≤ a1 ∧ a1 ≤ 199) (b3 : 0 ≤ a3 ∧ a3 ≤ 199) (b5 : -2147483648 ≤ a5 ∧ a5 ≤ 2147483647) (b6 : -2147483648 ≤ a6 ∧ a6 ≤ 2147483647) (b8 : 0 ≤ a8 ∧ a8 ≤ 1) (b9 : -2147483648 ≤ a9 ∧ a9 ≤ 2147483647) (b10 : 0 ≤ a10 ∧ a10 ≤ 199) (d0 : -2147483648 ≤ t0 ∧ t0 ≤ 2147483647) (d1 : -2147483648 ≤ t1 ∧ t1 ≤ 2147483647) (d2 : 0 ≤ t2 ∧ t2 ≤ 1) (p0 : a10 ≤ a3) (p1 : y_BX s (a10 + 1) a3) (p2 : a8 = 0 ∨ 1 ≤ a5) (p3 : a3 < s 309 20) (p4 : y_B s) (p5 : y_L s (s 309 44)) (p6 : y_E s a10 a3) (p7 : y_LE s a1 a3) (p8 : s 309 43 = 0 ∨ s 309 36 = 0 ∨ (r0 309 36 ≠ 0 ∧ r0 309 43 ≠ 0)) (p9 : r0 309 36 = 0 ∨ s 309 36 ≠ 0) (M : Int) (pm : 2147483647 - a10 ≤ M) {r : z_M → Int → Int → Int → z_O} {k : z_M → z_O} (hr : ∀ (s' : z_M) (v7 : Int) (v9 : Int) (v10 : Int), z_CI s' → z_Fr R_X12_laysLine_309 r0 s' → (-2147483648 ≤ v7 ∧ v7 ≤ 2147483647) → (-2147483648 ≤ v9 ∧ v9 ≤ 2147483647) → (0 ≤ v10 ∧ v10 ≤ 200) → (v10 ≤ a3 + 1) → (y_BX s' v10 a3) → (a8 = 0 ∨ 1 ≤ a5) → (a3 < s' 309 20) → (y_B s') → (y_L s' (s' 309 44)) → (y_E s' v10 a3) → (y_LE s' a1 a3) → (s' 309 43 = 0 ∨ s' 309 36 = 0 ∨ (r0 309 36 ≠ 0 ∧ r0 309 43 ≠ 0)) → (r0 309 36 = 0 ∨ s' 309 36 ≠ 0) → (2147483647 - v10 < M) → z_T (r s' v7 v9 v10) (P_X12_laysLine_309 r0 a1)) (hk : ∀ (s' : z_M), z_CI s' → z_Fr R_X12_laysLine_309 r0 s' → (y_BL s' (a1 + 1)) → (s' 309 43 = 0 ∨ s' 309 36 = 0 ∨ (r0 309 36 ≠ 0 ∧ r0 309 43 ≠ 0)) → (r0 309 36 = 0 ∨ s' 309 36 ≠ 0) → z_T (k s') (P_X12_laysLine_309 r0 a1)) : z_T (fX12_laysLine_J429 fu s 309 a1 a3 a5 a6 a8 a9 a10 t0 t1 t2 r k) (P_X12_laysLine_309 r0 a1) := by
  refine T_of (fX12_laysLine_J429.eq_1 ..) ?_
  have u1 := CI_b c (k := 309) (j := 20) bd_309_20
  have u2 := CI_b c (k := 309) (j := 36) bd_309_36
  have u3 := CI_b c (k := 309) (j := 43) bd_309_43
  have u4 := CI_b c (k := 309) (j := 44) bd_309_44
  have u5 := CI_b c (k := 309) (j := 58) bd_309_58
  have u6 := CI_b c (k := 316) (j := 0) bd_316_0
  have t7 : s 309 20 = r0 309 20 := f 309 20 (by decide)
  have t8 : s 309 44 = r0 309 44 := f 309 44 (by decide)
  have t9 : s 316 0 = r0 316 0 := f 316 0 (by decide)
  refine T_leq (fun x10 e11 => ?_)
  first | (have w12 := z_wx e11 (by omega)) | (have w12 := z_wr e11)
  refine T_leq (fun x13 e14 => ?_)
  first | (have w15 := z_wx e14 (by omega)) | (have w15 := z_wr e14)
  refine T_leq (fun x16 e17 => ?_)
  first | (have w18 := z_wx e17 (by omega)) | (have w18 := z_wr e17)
  exact sj_X12_laysLine_309_J436 hfu r0 s c f a1 a3 a5 a6 x13 a8 x16 a10 (by omega) (by omega) (by omega) (by omega) (by omega) (by omega) (by omega) (by omega) (by omega) (by first | exact y_BX.cg p1 (by omega) (by omega)) (by omega) (by omega) p4 (by first | exact y_L.cg p5 (by omega)) (by first | exact y_E.cg p6 (by omega) (by omega)) (by first | exact y_LE.cg p7 (by omega) (by omega)) (by omega) (by omega) M (by omega) (fun s' v7 v9 v10 c' f' w7 w9 w10 z0 z1 z2 z3 z4 z5 z6 z7 z8 z9 pg => hr s' v7 v9 v10 c' f' w7 w9 w10 z0 z1 z2 z3 z4 z5 z6 z7 z8 z9 (by omega)) hk
set_option maxHeartbeats 4000000 in
theorem sj_X12_laysLine_309_J192 {fu : Nat} (hfu : 8589934592 ≤ fu) (r0 s : z_M) (c : z_CI s) (f : z_Fr R_X12_laysLine_309 r0 s) (a1 : Int) (a3 : Int) (a5 : Int) (a6 : Int) (a7 : Int) (a8 : Int) (a9 : Int) (a10 : Int) (b1 : 0 ≤ a1 ∧ a1 ≤ 199) (b3 : 0 ≤ a3 ∧ a3 ≤ 199) (b5 : -2147483648 ≤ a5 ∧ a5 ≤ 2147483647) (b6 : -2147483648 ≤ a6 ∧ a6 ≤ 2147483647) (b7 : -2147483648 ≤ a7 ∧ a7 ≤ 2147483647) (b8 : 0 ≤ a8 ∧ a8 ≤ 1) (b9 : -2147483648 ≤ a9 ∧ a9 ≤ 2147483647) (b10 : 0 ≤ a10 ∧ a10 ≤ 199) (p0 : a10 ≤ a3) (p1 : y_BX s (a10 + 1) a3) (p2 : a8 = 0 ∨ 1 ≤ a5) (p3 : a3 < s 309 20) (p4 : y_B s) (p5 : y_L s (s 309 44)) (p6 : y_E s a10 a3) (p7 : y_LE s a1 a3) (p8 : s 309 43 = 0 ∨ s 309 36 = 0 ∨ (r0 309 36 ≠ 0 ∧ r0 309 43 ≠ 0)) (p9 : r0 309 36 = 0 ∨ s 309 36 ≠ 0) (M : Int) (pm : 2147483647 - a10 ≤ M) {r : z_M → Int → Int → Int → z_O} {k : z_M → z_O} (hr : ∀ (s' : z_M) (v7 : Int) (v9 : Int) (v10 : Int), z_CI s' → z_Fr R_X12_laysLine_309 r0 s' → (-2147483648 ≤ v7 ∧ v7 ≤ 2147483647) → (-2147483648 ≤ v9 ∧ v9 ≤ 2147483647) → (0 ≤ v10 ∧ v10 ≤ 200) → (v10 ≤ a3 + 1) → (y_BX s' v10 a3) → (a8 = 0 ∨ 1 ≤ a5) → (a3 < s' 309 20) → (y_B s') → (y_L s' (s' 309 44)) → (y_E s' v10 a3) → (y_LE s' a1 a3) → (s' 309 43 = 0 ∨ s' 309 36 = 0 ∨ (r0 309 36 ≠ 0 ∧ r0 309 43 ≠ 0)) → (r0 309 36 = 0 ∨ s' 309 36 ≠ 0) → (2147483647 - v10 < M) → z_T (r s' v7 v9 v10) (P_X12_laysLine_309 r0 a1)) (hk : ∀ (s' : z_M), z_CI s' → z_Fr R_X12_laysLine_309 r0 s' → (y_BL s' (a1 + 1)) → (s' 309 43 = 0 ∨ s' 309 36 = 0 ∨ (r0 309 36 ≠ 0 ∧ r0 309 43 ≠ 0)) → (r0 309 36 = 0 ∨ s' 309 36 ≠ 0) → z_T (k s') (P_X12_laysLine_309 r0 a1)) : z_T (fX12_laysLine_J192 fu s 309 a1 a3 a5 a6 a7 a8 a9 a10 r k) (P_X12_laysLine_309 r0 a1) := by
  refine T_of (fX12_laysLine_J192.eq_1 ..) ?_
  have u1 := CI_b c (k := 309) (j := 20) bd_309_20
  have u2 := CI_b c (k := 309) (j := 36) bd_309_36
  have u3 := CI_b c (k := 309) (j := 43) bd_309_43
  have u4 := CI_b c (k := 309) (j := 44) bd_309_44
  have u5 := CI_b c (k := 309) (j := 58) bd_309_58
  have u6 := CI_b c (k := 316) (j := 0) bd_316_0
  have t7 : s 309 20 = r0 309 20 := f 309 20 (by decide)
  have t8 : s 309 44 = r0 309 44 := f 309 44 (by decide)
  have t9 : s 316 0 = r0 316 0 := f 316 0 (by decide)
  refine T_if1 (by decide +kernel) ?_
  refine T_let 3227 (by decide +kernel) ?_
  refine T_if1 (z_ixl (n := 200) (by decide +kernel) (by omega) (by omega)) ?_
  refine T_leq (fun x10 e11 => ?_)
  have u12 := CI_b c (k := 3227) (j := a10) (bdr_3227 a10)
  refine T_if1 (by decide +kernel) ?_
  refine T_let 3225 (by decide +kernel) ?_
  refine T_if1 (z_ixl (n := 200) (by decide +kernel) (by omega) (by omega)) ?_
  refine T_leq (fun x13 e14 => ?_)
  have u15 := CI_b c (k := 3225) (j := a10) (bdr_3225 a10)
  refine T_leq (fun x16 e17 => ?_)
  first | (have w18 := z_wx e17 (by omega)) | (have w18 := z_wr e17)
  refine T_leq (fun x19 e20 => ?_)
  first | (have w21 := z_wx e20 (by omega)) | (have w21 := z_wr e20)
  refine T_if1 (by decide +kernel) ?_
  refine T_let 3441 (by decide +kernel) ?_
  refine T_if1 (z_ixl (n := 200) (by decide +kernel) (by omega) (by omega)) ?_
  refine T_upg c (bdr_3441 a10) (by omega) (fun s22 c23 g25 g26 e27 => ?_)
  have f24 := z_Fr.up (R := R_X12_laysLine_309) f g25 (fun _ => (Or.inr (Or.inl (⟨by decide, by decide⟩))))
  have t28 : s22 309 20 = s 309 20 := g25 309 20 (by decide)
  have t29 : s22 309 36 = s 309 36 := g25 309 36 (by decide)
  have t30 : s22 309 43 = s 309 43 := g25 309 43 (by decide)
  have t31 : s22 309 44 = s 309 44 := g25 309 44 (by decide)
  have t32 : s22 309 58 = s 309 58 := g25 309 58 (by decide)
  have t33 : s22 316 0 = s 316 0 := g25 316 0 (by decide)
  have r34 := y_BX.fr p1 (by omega) (g25 309 58 (by decide)) (fun b => g25 3220 b (by decide)) (fun b => g25 3229 b (by decide)) (fun a b h => g25 a b (by omega))
  have r35 := y_B.fr p4 (g25 309 20 (by decide)) (g25 316 0 (by decide)) (fun b => g25 3220 b (by decide)) (fun b => g25 3221 b (by decide)) (fun b => g25 3222 b (by decide)) (fun b => g25 361 b (by decide))
  have r36 := y_L.fr p5 (g25 309 20 (by decide)) (fun b => g25 3438 b (by decide))
  have r37 := y_E.fr p6 (fun b => g25 3229 b (by decide)) (fun b => g25 3220 b (by decide))
  have r38 := y_LE.fr p7 (fun b => g25 3438 b (by decide))
  refine T_if1 (by decide +kernel) ?_
  refine T_let 3442 (by decide +kernel) ?_
  refine T_if1 (z_ixl (n := 200) (by decide +kernel) (by omega) (by omega)) ?_
  refine T_upg c23 (bdr_3442 a10) (by omega) (fun s39 c40 g42 g43 e44 => ?_)
  have f41 := z_Fr.up (R := R_X12_laysLine_309) f24 g42 (fun _ => (Or.inr (Or.inl (⟨by decide, by decide⟩))))
  have t45 : s39 309 20 = s 309 20 := (g42 309 20 (by decide)).trans t28
  have t46 : s39 309 36 = s 309 36 := (g42 309 36 (by decide)).trans t29
  have t47 : s39 309 43 = s 309 43 := (g42 309 43 (by decide)).trans t30
  have t48 : s39 309 44 = s 309 44 := (g42 309 44 (by decide)).trans t31
  have t49 : s39 309 58 = s 309 58 := (g42 309 58 (by decide)).trans t32
  have t50 : s39 316 0 = s 316 0 := (g42 316 0 (by decide)).trans t33
  have r51 := y_BX.fr r34 (by omega) (g42 309 58 (by decide)) (fun b => g42 3220 b (by decide)) (fun b => g42 3229 b (by decide)) (fun a b h => g42 a b (by omega))
  have r52 := y_B.fr r35 (g42 309 20 (by decide)) (g42 316 0 (by decide)) (fun b => g42 3220 b (by decide)) (fun b => g42 3221 b (by decide)) (fun b => g42 3222 b (by decide)) (fun b => g42 361 b (by decide))
  have r53 := y_L.fr r36 (g42 309 20 (by decide)) (fun b => g42 3438 b (by decide))
  have r54 := y_E.fr r37 (fun b => g42 3229 b (by decide)) (fun b => g42 3220 b (by decide))
  have r55 := y_LE.fr r38 (fun b => g42 3438 b (by decide))
  clear t28
  clear t29
  clear t30
  clear t31
  clear t32
  clear t33
  refine T_if1 (by decide +kernel) ?_
  refine T_let 3444 (by decide +kernel) ?_
  refine T_if1 (by decide +kernel) ?_
  refine T_let 3225 (by decide +kernel) ?_
  refine T_if1 (z_ixl (n := 200) (by decide +kernel) (by omega) (by omega)) ?_
  refine T_leq (fun x56 e57 => ?_)
  have u58 := CI_b c40 (k := 3225) (j := a10) (bdr_3225 a10)
  refine T_if1 (by decide +kernel) ?_
  refine T_let 3226 (by decide +kernel) ?_
  refine T_if1 (z_ixl (n := 200) (by decide +kernel) (by omega) (by omega)) ?_
  refine T_leq (fun x59 e60 => ?_)
  have u61 := CI_b c40 (k := 3226) (j := a10) (bdr_3226 a10)
  refine T_leq (fun x62 e63 => ?_)
  first | (have w64 := z_wx e63 (by omega)) | (have w64 := z_wr e63)
  refine T_if1 (z_ixl (n := 200) (by decide +kernel) (by omega) (by omega)) ?_
  refine T_upg c40 (bdr_3444 a10) (by omega) (fun s65 c66 g68 g69 e70 => ?_)
  have f67 := z_Fr.up (R := R_X12_laysLine_309) f41 g68 (fun _ => (Or.inr (Or.inl (⟨by decide, by decide⟩))))
  have t71 : s65 309 20 = s 309 20 := (g68 309 20 (by decide)).trans t45
  have t72 : s65 309 36 = s 309 36 := (g68 309 36 (by decide)).trans t46
  have t73 : s65 309 43 = s 309 43 := (g68 309 43 (by decide)).trans t47
  have t74 : s65 309 44 = s 309 44 := (g68 309 44 (by decide)).trans t48
  have t75 : s65 309 58 = s 309 58 := (g68 309 58 (by decide)).trans t49
  have t76 : s65 316 0 = s 316 0 := (g68 316 0 (by decide)).trans t50
  have r77 := y_BX.fr r51 (by omega) (g68 309 58 (by decide)) (fun b => g68 3220 b (by decide)) (fun b => g68 3229 b (by decide)) (fun a b h => g68 a b (by omega))
  have r78 := y_B.fr r52 (g68 309 20 (by decide)) (g68 316 0 (by decide)) (fun b => g68 3220 b (by decide)) (fun b => g68 3221 b (by decide)) (fun b => g68 3222 b (by decide)) (fun b => g68 361 b (by decide))
  have r79 := y_L.fr r53 (g68 309 20 (by decide)) (fun b => g68 3438 b (by decide))
  have r80 := y_E.fr r54 (fun b => g68 3229 b (by decide)) (fun b => g68 3220 b (by decide))
  have r81 := y_LE.fr r55 (fun b => g68 3438 b (by decide))
  clear t45
  clear t46
  clear t47
  clear t48
  clear t49
  clear t50
  refine T_if1 (by decide +kernel) ?_
  refine T_let 3445 (by decide +kernel) ?_
  refine T_if1 (by decide +kernel) ?_
  refine T_let 3224 (by decide +kernel) ?_
  refine T_if1 (z_ixl (n := 200) (by decide +kernel) (by omega) (by omega)) ?_
  refine T_leq (fun x82 e83 => ?_)
  have u84 := CI_b c66 (k := 3224) (j := a10) (bdr_3224 a10)
  refine T_if1 (z_ixl (n := 200) (by decide +kernel) (by omega) (by omega)) ?_
  refine T_upg c66 (bdr_3445 a10) (by omega) (fun s85 c86 g88 g89 e90 => ?_)
  have f87 := z_Fr.up (R := R_X12_laysLine_309) f67 g88 (fun _ => (Or.inr (Or.inl (⟨by decide, by decide⟩))))
  have t91 : s85 309 20 = s 309 20 := (g88 309 20 (by decide)).trans t71
  have t92 : s85 309 36 = s 309 36 := (g88 309 36 (by decide)).trans t72
  have t93 : s85 309 43 = s 309 43 := (g88 309 43 (by decide)).trans t73
  have t94 : s85 309 44 = s 309 44 := (g88 309 44 (by decide)).trans t74
  have t95 : s85 309 58 = s 309 58 := (g88 309 58 (by decide)).trans t75
  have t96 : s85 316 0 = s 316 0 := (g88 316 0 (by decide)).trans t76
  have r97 := y_BX.fr r77 (by omega) (g88 309 58 (by decide)) (fun b => g88 3220 b (by decide)) (fun b => g88 3229 b (by decide)) (fun a b h => g88 a b (by omega))
  have r98 := y_B.fr r78 (g88 309 20 (by decide)) (g88 316 0 (by decide)) (fun b => g88 3220 b (by decide)) (fun b => g88 3221 b (by decide)) (fun b => g88 3222 b (by decide)) (fun b => g88 361 b (by decide))
  have r99 := y_L.fr r79 (g88 309 20 (by decide)) (fun b => g88 3438 b (by decide))
  have r100 := y_E.fr r80 (fun b => g88 3229 b (by decide)) (fun b => g88 3220 b (by decide))
  have r101 := y_LE.fr r81 (fun b => g88 3438 b (by decide))
  clear t71
  clear t72
  clear t73
  clear t74
  clear t75
  clear t76
  refine T_if1 (by decide +kernel) ?_
  refine T_let 3221 (by decide +kernel) ?_
  refine T_if1 (z_ixl (n := 200) (by decide +kernel) (by omega) (by omega)) ?_
  refine T_leq (fun x102 e103 => ?_)
  have u104 := CI_b c86 (k := 3221) (j := a10) (bdr_3221 a10)
  refine sl_X12_laysLine_309_L278 hfu r0 a1 a3 a5 a6 x19 a8 a9 a10 (by omega) (by omega) (by omega) (by omega) (by omega) (by omega) (by omega) (by omega) (fun s105 c106 f107 g108 g109 g110 g111 g112 g113 g114 g115 => ?_) fu s85 x19 x102 c86 f87 (by omega) (by omega) (by omega) (by first | exact y_BX.cg r97 (by omega) (by omega)) (by omega) r98 (by first | exact y_L.cg r99 (by omega)) (by first | exact y_E.cg r100 (by omega) (by omega)) (by first | exact y_LE.cg r101 (by omega) (by omega)) (by omega) (by omega) (by omega)
  have u116 := CI_b c106 (k := 309) (j := 20) bd_309_20
  have u117 := CI_b c106 (k := 309) (j := 36) bd_309_36
  have u118 := CI_b c106 (k := 309) (j := 43) bd_309_43
  have u119 := CI_b c106 (k := 309) (j := 44) bd_309_44
  have u120 := CI_b c106 (k := 309) (j := 58) bd_309_58
  have u121 := CI_b c106 (k := 316) (j := 0) bd_316_0
  have t122 : s105 309 20 = r0 309 20 := f107 309 20 (by decide)
  have t123 : s105 309 44 = r0 309 44 := f107 309 44 (by decide)
  have t124 : s105 316 0 = r0 316 0 := f107 316 0 (by decide)
  refine T_if1 (by decide +kernel) ?_
  refine T_let 3449 (by decide +kernel) ?_
  refine T_if1 (z_ixl (n := 200) (by decide +kernel) (by omega) (by omega)) ?_
  refine T_leq (fun x125 e126 => ?_)
  have u127 := CI_b c106 (k := 3449) (j := a1) (bdr_3449 a1)
  refine T_if1 (by decide +kernel) ?_
  refine T_let 3227 (by decide +kernel) ?_
  refine T_if1 (z_ixl (n := 200) (by decide +kernel) (by omega) (by omega)) ?_
  refine T_leq (fun x128 e129 => ?_)
  have u130 := CI_b c106 (k := 3227) (j := a10) (bdr_3227 a10)
  refine T_if1 (by decide +kernel) ?_
  refine T_let 3228 (by decide +kernel) ?_
  refine T_if1 (z_ixl (n := 200) (by decide +kernel) (by omega) (by omega)) ?_
  refine T_leq (fun x131 e132 => ?_)
  have u133 := CI_b c106 (k := 3228) (j := a10) (bdr_3228 a10)
  refine T_leq (fun x134 e135 => ?_)
  first | (have w136 := z_wx e135 (by omega)) | (have w136 := z_wr e135)
  refine T_leq (fun x137 e138 => ?_)
  first | (have w139 := z_wx e138 (by omega)) | (have w139 := z_wr e138)
  refine T_if1 (z_ixl (n := 200) (by decide +kernel) (by omega) (by omega)) ?_
  refine T_upg c106 (bdr_3449 a1) (by omega) (fun s140 c141 g143 g144 e145 => ?_)
  have f142 := z_Fr.up (R := R_X12_laysLine_309) f107 g143 (fun _ => (Or.inr (Or.inl (⟨by decide, by decide⟩))))
  have t146 : s140 309 20 = s105 309 20 := g143 309 20 (by decide)
  have t147 : s140 309 36 = s105 309 36 := g143 309 36 (by decide)
  have t148 : s140 309 43 = s105 309 43 := g143 309 43 (by decide)
  have t149 : s140 309 44 = s105 309 44 := g143 309 44 (by decide)
  have t150 : s140 309 58 = s105 309 58 := g143 309 58 (by decide)
  have t151 : s140 316 0 = s105 316 0 := g143 316 0 (by decide)
  have r152 := y_BX.fr g108 (by omega) (g143 309 58 (by decide)) (fun b => g143 3220 b (by decide)) (fun b => g143 3229 b (by decide)) (fun a b h => g143 a b (by omega))
  have r153 := y_B.fr g110 (g143 309 20 (by decide)) (g143 316 0 (by decide)) (fun b => g143 3220 b (by decide)) (fun b => g143 3221 b (by decide)) (fun b => g143 3222 b (by decide)) (fun b => g143 361 b (by decide))
  have r154 := y_L.fr g111 (g143 309 20 (by decide)) (fun b => g143 3438 b (by decide))
  have r155 := y_E.fr g112 (fun b => g143 3229 b (by decide)) (fun b => g143 3220 b (by decide))
  have r156 := y_LE.fr g113 (fun b => g143 3438 b (by decide))
  refine T_if1 (by decide +kernel) ?_
  refine T_let 3224 (by decide +kernel) ?_
  refine T_if1 (z_ixl (n := 200) (by decide +kernel) (by omega) (by omega)) ?_
  refine T_leq (fun x157 e158 => ?_)
  have u159 := CI_b c141 (k := 3224) (j := a10) (bdr_3224 a10)
  refine T_if1 (by decide +kernel) ?_
  refine T_let 3226 (by decide +kernel) ?_
  refine T_if1 (z_ixl (n := 200) (by decide +kernel) (by omega) (by omega)) ?_
  refine T_leq (fun x160 e161 => ?_)
  have u162 := CI_b c141 (k := 3226) (j := a10) (bdr_3226 a10)
  refine T_leq (fun x163 e164 => ?_)
  first | (have w165 := z_wx e164 (by omega)) | (have w165 := z_wr e164)
  refine T_if1 (by decide +kernel) ?_
  refine T_let 3228 (by decide +kernel) ?_
  refine T_if1 (z_ixl (n := 200) (by decide +kernel) (by omega) (by omega)) ?_
  refine T_leq (fun x166 e167 => ?_)
  have u168 := CI_b c141 (k := 3228) (j := a10) (bdr_3228 a10)
  refine T_leq (fun x169 e170 => ?_)
  first | (have w171 := z_wx e170 (by omega)) | (have w171 := z_wr e170)
  refine T_leq (fun x172 e173 => ?_)
  first | (have w174 := z_wx e173 (by omega)) | (have w174 := z_wr e173)
  refine T_ite (fun h175 => ?_) (fun h175 => ?_)
  · exact sj_X12_laysLine_309_J436 hfu r0 s140 c141 f142 a1 a3 a5 a6 x172 a8 a9 a10 (by omega) (by omega) (by omega) (by omega) (by omega) (by omega) (by omega) (by omega) (by omega) (by first | exact y_BX.cg r152 (by omega) (by omega)) (by omega) (by omega) r153 (by first | exact y_L.cg r154 (by omega)) (by first | exact y_E.cg r155 (by omega) (by omega)) (by first | exact y_LE.cg r156 (by omega) (by omega)) (by omega) (by omega) M (by omega) (fun s' v7 v9 v10 c' f' w7 w9 w10 z0 z1 z2 z3 z4 z5 z6 z7 z8 z9 pg => hr s' v7 v9 v10 c' f' w7 w9 w10 z0 z1 z2 z3 z4 z5 z6 z7 z8 z9 (by omega)) hk
  · refine T_if1 (by decide +kernel) ?_
    refine T_useI (sf_X12_isGap_309 hfu s140 c141 a10 a3 (by omega) (by omega) r153 (by omega) (by omega)) (fun v181 s176 hq => ?_)
    obtain ⟨c177, f178, o182, o183, ⟨x180, rfl, b184, b185⟩⟩ := hq
    refine T_vI ?_
    have f179 := z_Fr.tr (R := R_X12_laysLine_309) f142 f178 rs_X12_isGap_309__X12_laysLine_309
    have t186 : s176 309 20 = s105 309 20 := (f178 309 20 (by decide)).trans t146
    have t187 : s176 309 44 = s105 309 44 := (f178 309 44 (by decide)).trans t149
    have t188 : s176 309 58 = s105 309 58 := (f178 309 58 (by decide)).trans t150
    have t189 : s176 316 0 = s105 316 0 := (f178 316 0 (by decide)).trans t151
    have u190 := CI_b c177 (k := 309) (j := 36) bd_309_36
    have u191 := CI_b c177 (k := 309) (j := 43) bd_309_43
    have r192 := y_BX.fr r152 (by omega) (f178 309 58 (by decide)) (fun b => f178 3220 b (nr_X12_isGap_309__3220 b)) (fun b => f178 3229 b (nr_X12_isGap_309__3229 b)) (fun a b h => f178 a b (nq_X12_isGap_309__3452 a b h))
    have r193 := y_B.fr r153 (f178 309 20 (by decide)) (f178 316 0 (by decide)) (fun b => f178 3220 b (nr_X12_isGap_309__3220 b)) (fun b => f178 3221 b (nr_X12_isGap_309__3221 b)) (fun b => f178 3222 b (nr_X12_isGap_309__3222 b)) (fun b => f178 361 b (nr_X12_isGap_309__361 b))
    have r194 := y_L.fr r154 (f178 309 20 (by decide)) (fun b => f178 3438 b (nr_X12_isGap_309__3438 b))
    have r195 := y_E.fr r155 (fun b => f178 3229 b (nr_X12_isGap_309__3229 b)) (fun b => f178 3220 b (nr_X12_isGap_309__3220 b))
    have r196 := y_LE.fr r156 (fun b => f178 3438 b (nr_X12_isGap_309__3438 b))
    clear t146
    clear t149
    clear t150
    clear t151
    refine T_ite (fun h197 => ?_) (fun h197 => ?_)
    · refine T_if1 (by omega) ?_
      refine T_leq (fun x198 e199 => ?_)
      have w200 := z_wr e199
      refine T_if1 (by omega) ?_
      refine T_leq (fun x201 e202 => ?_)
      have w203 := z_tmb e202 (by omega)
      refine T_ite (fun h204 => ?_) (fun h204 => ?_)
      · exact sj_X12_laysLine_309_J429 hfu r0 s176 c177 f179 a1 a3 a5 a6 a8 a9 a10 x172 x198 0 (by omega) (by omega) (by omega) (by omega) (by omega) (by omega) (by omega) (by omega) (by omega) (by omega) (by omega) (by first | exact y_BX.cg r192 (by omega) (by omega)) (by omega) (by omega) r193 (by first | exact y_L.cg r194 (by omega)) (by first | exact y_E.cg r195 (by omega) (by omega)) (by first | exact y_LE.cg r196 (by omega) (by omega)) (by omega) (by omega) M (by omega) (fun s' v7 v9 v10 c' f' w7 w9 w10 z0 z1 z2 z3 z4 z5 z6 z7 z8 z9 pg => hr s' v7 v9 v10 c' f' w7 w9 w10 z0 z1 z2 z3 z4 z5 z6 z7 z8 z9 (by omega)) hk
      · exact sj_X12_laysLine_309_J429 hfu r0 s176 c177 f179 a1 a3 a5 a6 a8 a9 a10 x172 x198 1 (by omega) (by omega) (by omega) (by omega) (by omega) (by omega) (by omega) (by omega) (by omega) (by omega) (by omega) (by first | exact y_BX.cg r192 (by omega) (by omega)) (by omega) (by omega) r193 (by first | exact y_L.cg r194 (by omega)) (by first | exact y_E.cg r195 (by omega) (by omega)) (by first | exact y_LE.cg r196 (by omega) (by omega)) (by omega) (by omega) M (by omega) (fun s' v7 v9 v10 c' f' w7 w9 w10 z0 z1 z2 z3 z4 z5 z6 z7 z8 z9 pg => hr s' v7 v9 v10 c' f' w7 w9 w10 z0 z1 z2 z3 z4 z5 z6 z7 z8 z9 (by omega)) hk
    · exact sj_X12_laysLine_309_J436 hfu r0 s176 c177 f179 a1 a3 a5 a6 x172 a8 a9 a10 (by omega) (by omega) (by omega) (by omega) (by omega) (by omega) (by omega) (by omega) (by omega) (by first | exact y_BX.cg r192 (by omega) (by omega)) (by omega) (by omega) r193 (by first | exact y_L.cg r194 (by omega)) (by first | exact y_E.cg r195 (by omega) (by omega)) (by first | exact y_LE.cg r196 (by omega) (by omega)) (by omega) (by omega) M (by omega) (fun s' v7 v9 v10 c' f' w7 w9 w10 z0 z1 z2 z3 z4 z5 z6 z7 z8 z9 pg => hr s' v7 v9 v10 c' f' w7 w9 w10 z0 z1 z2 z3 z4 z5 z6 z7 z8 z9 (by omega)) hk
theorem rs_X12_addsBlock_309__X12_laysLine_309 (a b : Int) (h : R_X12_addsBlock_309 a b) : R_X12_laysLine_309 a b := (h.elim (fun h => (Or.inr (Or.inl (⟨by omega, by omega⟩)))) (fun h => (h.elim (fun h => (Or.inr (Or.inl (⟨by omega, by omega⟩)))) (fun h => (Or.inr (Or.inr (⟨h.1, by omega⟩)))))))
theorem nr_X12_addsBlock_309__3220 (b : Int) : ¬ R_X12_addsBlock_309 3220 b := by
  unfold R_X12_addsBlock_309; omega
theorem nr_X12_addsBlock_309__3229 (b : Int) : ¬ R_X12_addsBlock_309 3229 b := by
  unfold R_X12_addsBlock_309; omega
theorem nr_X12_addsBlock_309__3221 (b : Int) : ¬ R_X12_addsBlock_309 3221 b := by
  unfold R_X12_addsBlock_309; omega
theorem nr_X12_addsBlock_309__3222 (b : Int) : ¬ R_X12_addsBlock_309 3222 b := by
  unfold R_X12_addsBlock_309; omega
theorem nr_X12_addsBlock_309__361 (b : Int) : ¬ R_X12_addsBlock_309 361 b := by
  unfold R_X12_addsBlock_309; omega
theorem nr_X12_addsBlock_309__3438 (b : Int) : ¬ R_X12_addsBlock_309 3438 b := by
  unfold R_X12_addsBlock_309; omega
theorem sl_X12_laysLine_309_L169 {fu : Nat} (hfu : 8589934592 ≤ fu) (r0 : z_M) (a1 : Int) (a3 : Int) (a5 : Int) (a6 : Int) (a8 : Int) (b1 : 0 ≤ a1 ∧ a1 ≤ 199) (b3 : 0 ≤ a3 ∧ a3 ≤ 199) (b5 : -2147483648 ≤ a5 ∧ a5 ≤ 2147483647) (b6 : -2147483648 ≤ a6 ∧ a6 ≤ 2147483647) (b8 : 0 ≤ a8 ∧ a8 ≤ 1) {k : z_M → z_O} (hk : ∀ (s' : z_M), z_CI s' → z_Fr R_X12_laysLine_309 r0 s' → (y_BL s' (a1 + 1)) → (s' 309 43 = 0 ∨ s' 309 36 = 0 ∨ (r0 309 36 ≠ 0 ∧ r0 309 43 ≠ 0)) → (r0 309 36 = 0 ∨ s' 309 36 ≠ 0) → z_T (k s') (P_X12_laysLine_309 r0 a1)) : ∀ (F : Nat) (s : z_M) (a7 : Int) (a9 : Int) (a10 : Int), z_CI s → z_Fr R_X12_laysLine_309 r0 s → (-2147483648 ≤ a7 ∧ a7 ≤ 2147483647) → (-2147483648 ≤ a9 ∧ a9 ≤ 2147483647) → (0 ≤ a10 ∧ a10 ≤ 200) → (a10 ≤ a3 + 1) → (y_BX s a10 a3) → (a8 = 0 ∨ 1 ≤ a5) → (a3 < s 309 20) → (y_B s) → (y_L s (s 309 44)) → (y_E s a10 a3) → (y_LE s a1 a3) → (s 309 43 = 0 ∨ s 309 36 = 0 ∨ (r0 309 36 ≠ 0 ∧ r0 309 43 ≠ 0)) → (r0 309 36 = 0 ∨ s 309 36 ≠ 0) → (2147483647 - a10 < (F : Int)) → z_T (fX12_laysLine_L169 fu 309 a1 a3 a5 a6 a8 F s a7 a9 a10 k) (P_X12_laysLine_309 r0 a1) := by
  intro F
  induction F with
  | zero =>
    intro s a7 a9 a10 c f b7 b9 b10 i0 i1 i2 i3 i4 i5 i6 i7 i8 i9 hm
    have u37 := CI_b c (k := 309) (j := 20) bd_309_20
    have u38 := CI_b c (k := 309) (j := 36) bd_309_36
    have u39 := CI_b c (k := 309) (j := 43) bd_309_43
    have u40 := CI_b c (k := 309) (j := 44) bd_309_44
    have u41 := CI_b c (k := 309) (j := 58) bd_309_58
    have u42 := CI_b c (k := 316) (j := 0) bd_316_0
    exfalso; omega
  | succ F ih =>
    intro s a7 a9 a10 c f b7 b9 b10 i0 i1 i2 i3 i4 i5 i6 i7 i8 i9 hm
    refine T_of (fX12_laysLine_L169.eq_2 ..) ?_
    have u1 := CI_b c (k := 309) (j := 20) bd_309_20
    have u2 := CI_b c (k := 309) (j := 36) bd_309_36
    have u3 := CI_b c (k := 309) (j := 43) bd_309_43
    have u4 := CI_b c (k := 309) (j := 44) bd_309_44
    have u5 := CI_b c (k := 309) (j := 58) bd_309_58
    have u6 := CI_b c (k := 316) (j := 0) bd_316_0
    have t7 : s 309 20 = r0 309 20 := f 309 20 (by decide)
    have t8 : s 309 44 = r0 309 44 := f 309 44 (by decide)
    have t9 : s 316 0 = r0 316 0 := f 316 0 (by decide)
    refine T_ite (fun h10 => ?_) (fun h10 => ?_)
    · exact hk s c f (by first | exact y_BL.x i1 i7 (by omega) (by omega) | exact y_BL.z (by omega) (by omega)) (by omega) (by omega)
    · refine T_if1 (by decide +kernel) ?_
      refine T_let 3229 (by decide +kernel) ?_
      refine T_if1 (z_ixl (n := 200) (by decide +kernel) (by omega) (by omega)) ?_
      refine T_leq (fun x11 e12 => ?_)
      have u13 := CI_b c (k := 3229) (j := a10) (bdr_3229 a10)
      refine T_ite (fun h14 => ?_) (fun h14 => ?_)
      · exact sj_X12_laysLine_309_J192 hfu r0 s c f a1 a3 a5 a6 a7 a8 a9 a10 (by omega) (by omega) (by omega) (by omega) (by omega) (by omega) (by omega) (by omega) (by omega) (by first | exact y_BX.cg i1 (by omega) (by omega)) (by omega) (by omega) i4 (by first | exact y_L.cg i5 (by omega)) (by first | exact y_E.cg i6 (by omega) (by omega)) (by first | exact y_LE.cg i7 (by omega) (by omega)) (by omega) (by omega) (2147483647 - a10) (by omega) (fun s' v7 v9 v10 c' f' w7 w9 w10 z0 z1 z2 z3 z4 z5 z6 z7 z8 z9 pg => ih s' v7 v9 v10 c' f' w7 w9 w10 z0 z1 z2 z3 z4 z5 z6 z7 z8 z9 (by omega)) hk
      · have n15 := y_E.at i6 (u := a10) (by assumption) (by omega) (by omega)
        have n16 := (i1).1
        refine T_if1 (by decide +kernel) ?_
        refine T_useN (sf_X12_addsBlock_309 hfu s c a10 a1 (by omega) (by omega) (by omega) (by omega) (by omega)) (fun v22 s17 hq => ?_)
        obtain ⟨c18, f19, o23, rfl⟩ := hq
        refine T_vN ?_
        have f20 := z_Fr.tr (R := R_X12_laysLine_309) f f19 rs_X12_addsBlock_309__X12_laysLine_309
        have t26 : s17 309 20 = s 309 20 := f19 309 20 (by decide)
        have t27 : s17 309 36 = s 309 36 := f19 309 36 (by decide)
        have t28 : s17 309 43 = s 309 43 := f19 309 43 (by decide)
        have t29 : s17 309 44 = s 309 44 := f19 309 44 (by decide)
        have t30 : s17 316 0 = s 316 0 := f19 316 0 (by decide)
        have u31 := CI_b c18 (k := 309) (j := 58) bd_309_58
        have r32 := y_B.fr i4 (f19 309 20 (by decide)) (f19 316 0 (by decide)) (fun b => f19 3220 b (nr_X12_addsBlock_309__3220 b)) (fun b => f19 3221 b (nr_X12_addsBlock_309__3221 b)) (fun b => f19 3222 b (nr_X12_addsBlock_309__3222 b)) (fun b => f19 361 b (nr_X12_addsBlock_309__361 b))
        have r33 := y_L.fr i5 (f19 309 20 (by decide)) (fun b => f19 3438 b (nr_X12_addsBlock_309__3438 b))
        have r34 := y_E.fr i6 (fun b => f19 3229 b (nr_X12_addsBlock_309__3229 b)) (fun b => f19 3220 b (nr_X12_addsBlock_309__3220 b))
        have r35 := y_LE.fr i7 (fun b => f19 3438 b (nr_X12_addsBlock_309__3438 b))
        have r36 := o23 a3 (by omega) (y_E.cg i6 (by omega) (by omega)) (y_BX.cg i1 (by omega) (by omega))
        exact sj_X12_laysLine_309_J192 hfu r0 s17 c18 f20 a1 a3 a5 a6 a7 a8 a9 a10 (by omega) (by omega) (by omega) (by omega) (by omega) (by omega) (by omega) (by omega) (by omega) (by first | exact y_BX.cg r36 (by omega) (by omega)) (by omega) (by omega) r32 (by first | exact y_L.cg r33 (by omega)) (by first | exact y_E.cg r34 (by omega) (by omega)) (by first | exact y_LE.cg r35 (by omega) (by omega)) (by omega) (by omega) (2147483647 - a10) (by omega) (fun s' v7 v9 v10 c' f' w7 w9 w10 z0 z1 z2 z3 z4 z5 z6 z7 z8 z9 pg => ih s' v7 v9 v10 c' f' w7 w9 w10 z0 z1 z2 z3 z4 z5 z6 z7 z8 z9 (by omega)) hk
theorem sj_X12_laysLine_309_J161 {fu : Nat} (hfu : 8589934592 ≤ fu) (r0 s : z_M) (c : z_CI s) (f : z_Fr R_X12_laysLine_309 r0 s) (a1 : Int) (a2 : Int) (a3 : Int) (a5 : Int) (a6 : Int) (a7 : Int) (t0 : Int) (b1 : 0 ≤ a1 ∧ a1 ≤ 199) (b2 : 0 ≤ a2 ∧ a2 ≤ 199) (b3 : 0 ≤ a3 ∧ a3 ≤ 199) (b5 : -2147483648 ≤ a5 ∧ a5 ≤ 2147483647) (b6 : -2147483648 ≤ a6 ∧ a6 ≤ 2147483647) (b7 : -2147483648 ≤ a7 ∧ a7 ≤ 2147483647) (d0 : 0 ≤ t0 ∧ t0 ≤ 1) (p0 : a3 < s 309 20) (p1 : a2 ≤ a3) (p2 : y_B s) (p3 : y_L s (s 309 44)) (p4 : y_E s a2 a3) (p5 : y_BP s a2) (p6 : y_LE s a1 a3) (p7 : t0 = 0 ∨ 1 ≤ a5) (p8 : s 309 43 = 0 ∨ s 309 36 = 0 ∨ (r0 309 36 ≠ 0 ∧ r0 309 43 ≠ 0)) (p9 : r0 309 36 = 0 ∨ s 309 36 ≠ 0) : z_T (fX12_laysLine_J161 fu s 309 a1 a2 a3 a5 a6 a7 t0) (P_X12_laysLine_309 r0 a1) := by
  refine T_of (fX12_laysLine_J161.eq_1 ..) ?_
  have u1 := CI_b c (k := 309) (j := 20) bd_309_20
  have u2 := CI_b c (k := 309) (j := 36) bd_309_36
  have u3 := CI_b c (k := 309) (j := 43) bd_309_43
  have u4 := CI_b c (k := 309) (j := 44) bd_309_44
  have u5 := CI_b c (k := 309) (j := 58) bd_309_58
  have u6 := CI_b c (k := 316) (j := 0) bd_316_0
  have t7 : s 309 20 = r0 309 20 := f 309 20 (by decide)
  have t8 : s 309 44 = r0 309 44 := f 309 44 (by decide)
  have t9 : s 316 0 = r0 316 0 := f 316 0 (by decide)
  refine sl_X12_laysLine_309_L169 hfu r0 a1 a3 a5 a6 t0 (by omega) (by omega) (by omega) (by omega) (by omega) (fun s10 c11 f12 g13 g14 g15 => ?_) fu s a7 0 a2 c f (by omega) (by omega) (by omega) (by omega) (by first | exact y_BX.of p5 (by omega) (by omega)) (by omega) (by omega) p2 (by first | exact y_L.cg p3 (by omega)) (by first | exact y_E.cg p4 (by omega) (by omega)) (by first | exact y_LE.cg p6 (by omega) (by omega)) (by omega) (by omega) (by omega)
  have u16 := CI_b c11 (k := 309) (j := 20) bd_309_20
  have u17 := CI_b c11 (k := 309) (j := 36) bd_309_36
  have u18 := CI_b c11 (k := 309) (j := 43) bd_309_43
  have u19 := CI_b c11 (k := 309) (j := 44) bd_309_44
  have u20 := CI_b c11 (k := 309) (j := 58) bd_309_58
  have u21 := CI_b c11 (k := 316) (j := 0) bd_316_0
  have t22 : s10 309 20 = r0 309 20 := f12 309 20 (by decide)
  have t23 : s10 309 44 = r0 309 44 := f12 309 44 (by decide)
  have t24 : s10 316 0 = r0 316 0 := f12 316 0 (by decide)
  exact T_ret ⟨c11, f12, (by first | exact y_BL.cg g13 (by omega) | exact y_BL.z (by omega) (by omega)), (by omega), (by omega), rfl⟩
theorem sj_X12_laysLine_309_J160 {fu : Nat} (hfu : 8589934592 ≤ fu) (r0 s : z_M) (c : z_CI s) (f : z_Fr R_X12_laysLine_309 r0 s) (a1 : Int) (a2 : Int) (a3 : Int) (a5 : Int) (a6 : Int) (a7 : Int) (b1 : 0 ≤ a1 ∧ a1 ≤ 199) (b2 : 0 ≤ a2 ∧ a2 ≤ 199) (b3 : 0 ≤ a3 ∧ a3 ≤ 199) (b5 : -2147483648 ≤ a5 ∧ a5 ≤ 2147483647) (b6 : -2147483648 ≤ a6 ∧ a6 ≤ 2147483647) (b7 : -2147483648 ≤ a7 ∧ a7 ≤ 2147483647) (p0 : a3 < s 309 20) (p1 : a2 ≤ a3) (p2 : y_B s) (p3 : y_L s (s 309 44)) (p4 : y_E s a2 a3) (p5 : y_BP s a2) (p6 : y_LE s a1 a3) (p7 : s 309 43 = 0 ∨ s 309 36 = 0 ∨ (r0 309 36 ≠ 0 ∧ r0 309 43 ≠ 0)) (p8 : r0 309 36 = 0 ∨ s 309 36 ≠ 0) : z_T (fX12_laysLine_J160 fu s 309 a1 a2 a3 a5 a6 a7) (P_X12_laysLine_309 r0 a1) := by
  refine T_of (fX12_laysLine_J160.eq_1 ..) ?_
  have u1 := CI_b c (k := 309) (j := 20) bd_309_20
  have u2 := CI_b c (k := 309) (j := 36) bd_309_36
  have u3 := CI_b c (k := 309) (j := 43) bd_309_43
  have u4 := CI_b c (k := 309) (j := 44) bd_309_44
  have u5 := CI_b c (k := 309) (j := 58) bd_309_58
  have u6 := CI_b c (k := 316) (j := 0) bd_316_0
  have t7 : s 309 20 = r0 309 20 := f 309 20 (by decide)
  have t8 : s 309 44 = r0 309 44 := f 309 44 (by decide)
  have t9 : s 316 0 = r0 316 0 := f 316 0 (by decide)
  exact sj_X12_laysLine_309_J161 hfu r0 s c f a1 a2 a3 a5 a6 a7 0 (by omega) (by omega) (by omega) (by omega) (by omega) (by omega) (by omega) (by omega) (by omega) p2 (by first | exact y_L.cg p3 (by omega)) (by first | exact y_E.cg p4 (by omega) (by omega)) (by first | exact y_BP.cg p5 (by omega)) (by first | exact y_LE.cg p6 (by omega) (by omega)) (by omega) (by omega) (by omega)
theorem sj_X12_laysLine_309_J125 {fu : Nat} (hfu : 8589934592 ≤ fu) (r0 s : z_M) (c : z_CI s) (f : z_Fr R_X12_laysLine_309 r0 s) (a1 : Int) (a2 : Int) (a3 : Int) (a5 : Int) (a6 : Int) (a7 : Int) (t1 : Int) (t2 : Int) (b1 : 0 ≤ a1 ∧ a1 ≤ 199) (b2 : 0 ≤ a2 ∧ a2 ≤ 199) (b3 : 0 ≤ a3 ∧ a3 ≤ 199) (b5 : -2147483648 ≤ a5 ∧ a5 ≤ 2147483647) (b6 : -2147483648 ≤ a6 ∧ a6 ≤ 2147483647) (b7 : -2147483648 ≤ a7 ∧ a7 ≤ 2147483647) (d1 : 0 ≤ t1 ∧ t1 ≤ 199) (d2 : 0 ≤ t2 ∧ t2 ≤ 1) (p0 : a3 < s 309 20) (p1 : a2 ≤ a3) (p2 : y_B s) (p3 : y_L s (s 309 44)) (p4 : y_E s a2 a3) (p5 : y_BP s a2) (p6 : y_LE s a1 a3) (p7 : s 309 43 = 0 ∨ s 309 36 = 0 ∨ (r0 309 36 ≠ 0 ∧ r0 309 43 ≠ 0)) (p8 : r0 309 36 = 0 ∨ s 309 36 ≠ 0) : z_T (fX12_laysLine_J125 fu s 309 a1 a2 a3 a5 a6 a7 3450 t1 t2) (P_X12_laysLine_309 r0 a1) := by
  refine T_of (fX12_laysLine_J125.eq_1 ..) ?_
  have u1 := CI_b c (k := 309) (j := 20) bd_309_20
  have u2 := CI_b c (k := 309) (j := 36) bd_309_36
  have u3 := CI_b c (k := 309) (j := 43) bd_309_43
  have u4 := CI_b c (k := 309) (j := 44) bd_309_44
  have u5 := CI_b c (k := 309) (j := 58) bd_309_58
  have u6 := CI_b c (k := 316) (j := 0) bd_316_0
  have t7 : s 309 20 = r0 309 20 := f 309 20 (by decide)
  have t8 : s 309 44 = r0 309 44 := f 309 44 (by decide)
  have t9 : s 316 0 = r0 316 0 := f 316 0 (by decide)
  refine T_if1 (z_ixl (n := 200) (by decide +kernel) (by omega) (by omega)) ?_
  refine T_upg c (bdr_3450 t1) (by omega) (fun s10 c11 g13 g14 e15 => ?_)
  have f12 := z_Fr.up (R := R_X12_laysLine_309) f g13 (fun _ => (Or.inr (Or.inl (⟨by decide, by decide⟩))))
  have t16 : s10 309 20 = s 309 20 := g13 309 20 (by decide)
  have t17 : s10 309 36 = s 309 36 := g13 309 36 (by decide)
  have t18 : s10 309 43 = s 309 43 := g13 309 43 (by decide)
  have t19 : s10 309 44 = s 309 44 := g13 309 44 (by decide)
  have t20 : s10 309 58 = s 309 58 := g13 309 58 (by decide)
  have t21 : s10 316 0 = s 316 0 := g13 316 0 (by decide)
  have r22 := y_B.fr p2 (g13 309 20 (by decide)) (g13 316 0 (by decide)) (fun b => g13 3220 b (by decide)) (fun b => g13 3221 b (by decide)) (fun b => g13 3222 b (by decide)) (fun b => g13 361 b (by decide))
  have r23 := y_L.fr p3 (g13 309 20 (by decide)) (fun b => g13 3438 b (by decide))
  have r24 := y_E.fr p4 (fun b => g13 3229 b (by decide)) (fun b => g13 3220 b (by decide))
  have r25 := y_BP.fr p5 (by omega) (g13 309 58 (by decide)) (fun b => g13 3220 b (by decide)) (fun a b h => g13 a b (by omega))
  have r26 := y_LE.fr p6 (fun b => g13 3438 b (by decide))
  refine T_if1 (by decide +kernel) ?_
  refine T_let 312 (by decide +kernel) ?_
  refine T_if1 (z_ixl (n := 9) (by decide +kernel) (by omega) (by omega)) ?_
  refine T_leq (fun x27 e28 => ?_)
  have u29 := CI_b c11 (k := 312) (j := 4) (bdr_312 4)
  refine T_ite (fun h30 => ?_) (fun h30 => ?_)
  · exact sj_X12_laysLine_309_J160 hfu r0 s10 c11 f12 a1 a2 a3 a5 a6 a7 (by omega) (by omega) (by omega) (by omega) (by omega) (by omega) (by omega) (by omega) r22 (by first | exact y_L.cg r23 (by omega)) (by first | exact y_E.cg r24 (by omega) (by omega)) (by first | exact y_BP.cg r25 (by omega)) (by first | exact y_LE.cg r26 (by omega) (by omega)) (by omega) (by omega)
  · refine T_ite (fun h31 => ?_) (fun h31 => ?_)
    · exact sj_X12_laysLine_309_J160 hfu r0 s10 c11 f12 a1 a2 a3 a5 a6 a7 (by omega) (by omega) (by omega) (by omega) (by omega) (by omega) (by omega) (by omega) r22 (by first | exact y_L.cg r23 (by omega)) (by first | exact y_E.cg r24 (by omega) (by omega)) (by first | exact y_BP.cg r25 (by omega)) (by first | exact y_LE.cg r26 (by omega) (by omega)) (by omega) (by omega)
    · refine T_if1 (by decide +kernel) ?_
      refine T_leq (fun x32 e33 => ?_)
      have u34 := CI_b c11 (k := 309) (j := 20) bd_309_20
      refine T_leq (fun x35 e36 => ?_)
      first | (have w37 := z_wx e36 (by omega)) | (have w37 := z_wr e36)
      refine T_ite (fun h38 => ?_) (fun h38 => ?_)
      · exact sj_X12_laysLine_309_J160 hfu r0 s10 c11 f12 a1 a2 a3 a5 a6 a7 (by omega) (by omega) (by omega) (by omega) (by omega) (by omega) (by omega) (by omega) r22 (by first | exact y_L.cg r23 (by omega)) (by first | exact y_E.cg r24 (by omega) (by omega)) (by first | exact y_BP.cg r25 (by omega)) (by first | exact y_LE.cg r26 (by omega) (by omega)) (by omega) (by omega)
      · refine T_ite (fun h39 => ?_) (fun h39 => ?_)
        · exact sj_X12_laysLine_309_J160 hfu r0 s10 c11 f12 a1 a2 a3 a5 a6 a7 (by omega) (by omega) (by omega) (by omega) (by omega) (by omega) (by omega) (by omega) r22 (by first | exact y_L.cg r23 (by omega)) (by first | exact y_E.cg r24 (by omega) (by omega)) (by first | exact y_BP.cg r25 (by omega)) (by first | exact y_LE.cg r26 (by omega) (by omega)) (by omega) (by omega)
        · exact sj_X12_laysLine_309_J161 hfu r0 s10 c11 f12 a1 a2 a3 a5 a6 a7 1 (by omega) (by omega) (by omega) (by omega) (by omega) (by omega) (by omega) (by omega) (by omega) r22 (by first | exact y_L.cg r23 (by omega)) (by first | exact y_E.cg r24 (by omega) (by omega)) (by first | exact y_BP.cg r25 (by omega)) (by first | exact y_LE.cg r26 (by omega) (by omega)) (by omega) (by omega) (by omega)
set_option maxHeartbeats 4000000 in
theorem sf_X12_laysLine_309 {fu : Nat} (hfu : 8589934592 ≤ fu) (r0 : z_M) (c0 : z_CI r0) (a1 : Int) (b1 : 0 ≤ a1 ∧ a1 ≤ 199) (p0 : y_B r0) (p1 : y_L r0 (r0 309 44)) (p2 : a1 < r0 309 44) (p3 : y_BL r0 a1) : z_T (fX12_laysLine fu r0 309 a1) (P_X12_laysLine_309 r0 a1) := by
  refine T_of (fX12_laysLine.eq_1 ..) ?_
  have u1 := CI_b c0 (k := 309) (j := 20) bd_309_20
  have u2 := CI_b c0 (k := 309) (j := 36) bd_309_36
  have u3 := CI_b c0 (k := 309) (j := 43) bd_309_43
  have u4 := CI_b c0 (k := 309) (j := 44) bd_309_44
  have u5 := CI_b c0 (k := 309) (j := 58) bd_309_58
  have u6 := CI_b c0 (k := 316) (j := 0) bd_316_0
  refine T_if1 (by decide +kernel) ?_
  refine T_let 3438 (by decide +kernel) ?_
  refine T_if1 (z_ixl (n := 201) (by decide +kernel) (by omega) (by omega)) ?_
  refine T_leq (fun x7 e8 => ?_)
  have u9 := CI_b c0 (k := 3438) (j := a1) (bdr_3438 a1)
  refine T_if1 (by decide +kernel) ?_
  refine T_let 3438 (by decide +kernel) ?_
  refine T_leq (fun x10 e11 => ?_)
  first | (have w12 := z_wx e11 (by omega)) | (have w12 := z_wr e11)
  have n13 := y_L.at p1 (i := a1) (j := x10) (by omega) (by omega) (by omega)
  refine T_if1 (z_ixl (n := 201) (by decide +kernel) (by omega) (by omega)) ?_
  refine T_leq (fun x14 e15 => ?_)
  have u16 := CI_b c0 (k := 3438) (j := x10) (bdr_3438 x10)
  refine T_leq (fun x17 e18 => ?_)
  first | (have w19 := z_wx e18 (by omega)) | (have w19 := z_wr e18)
  have r20 : y_LE r0 a1 x17 := y_LE.mk (j := x10) (by assumption) (by omega) (by omega)
  have r21 : y_BP r0 x7 := y_BL.to p3 (by assumption) (Int.le_refl _)
  refine T_if1 (by decide +kernel) ?_
  refine T_useI (sf_X12_lays_309 hfu r0 c0 x7 x17 (by omega) (by omega) p0 (by omega) (by omega)) (fun v27 s22 hq => ?_)
  obtain ⟨c23, f24, o28, ⟨x26, rfl, b29, b30⟩⟩ := hq
  refine T_vI ?_
  have f25 := z_Fr.tr (R := R_X12_laysLine_309) z_Fr.rf f24 rs_X12_lays_309__X12_laysLine_309
  have t31 : s22 309 20 = r0 309 20 := f24 309 20 (by decide)
  have t32 : s22 309 36 = r0 309 36 := f24 309 36 (by decide)
  have t33 : s22 309 43 = r0 309 43 := f24 309 43 (by decide)
  have t34 : s22 309 44 = r0 309 44 := f24 309 44 (by decide)
  have t35 : s22 309 58 = r0 309 58 := f24 309 58 (by decide)
  have t36 : s22 316 0 = r0 316 0 := f24 316 0 (by decide)
  have r37 := y_B.fr p0 (f24 309 20 (by decide)) (f24 316 0 (by decide)) (fun b => f24 3220 b (nr_X12_lays_309__3220 b)) (fun b => f24 3221 b (nr_X12_lays_309__3221 b)) (fun b => f24 3222 b (nr_X12_lays_309__3222 b)) (fun b => f24 361 b (nr_X12_lays_309__361 b))
  have r38 := y_L.fr p1 (f24 309 20 (by decide)) (fun b => f24 3438 b (nr_X12_lays_309__3438 b))
  have r39 := y_BL.fr p3 (by omega) (f24 309 58 (by decide)) (fun b => f24 3220 b (nr_X12_lays_309__3220 b)) (fun b => f24 3438 b (nr_X12_lays_309__3438 b)) (fun a b h => f24 a b (nq_X12_lays_309__3452 a b h))
  have r40 := y_LE.fr r20 (fun b => f24 3438 b (nr_X12_lays_309__3438 b))
  have r41 := y_BP.fr r21 (by omega) (f24 309 58 (by decide)) (fun b => f24 3220 b (nr_X12_lays_309__3220 b)) (fun a b h => f24 a b (nq_X12_lays_309__3452 a b h))
  refine T_if1 (by decide +kernel) ?_
  refine T_let 312 (by decide +kernel) ?_
  refine T_if1 (z_ixl (n := 9) (by decide +kernel) (by omega) (by omega)) ?_
  refine T_leq (fun x42 e43 => ?_)
  have u44 := CI_b c23 (k := 312) (j := 0) (bdr_312 0)
  refine T_leq (fun x45 e46 => ?_)
  first | (have w47 := z_wx e46 (by omega)) | (have w47 := z_wr e46)
  refine sl_X12_laysLine_309_L46 hfu r0 a1 x7 x17 x26 x45 0 (by omega) (by omega) (by omega) (by omega) (by omega) (by omega) (fun s48 y51 c49 f50 b52 g53 g54 g55 g56 g57 g58 g59 g60 g61 => ?_) fu s22 0 x7 c23 f25 (by omega) (by omega) (by omega) (by omega) (by omega) r37 (by first | exact y_L.cg r38 (by omega)) (by first | exact y_E.cg o28 (by omega) (by omega)) (by first | exact y_BP.cg r41 (by omega)) (by first | exact y_LE.cg r40 (by omega) (by omega)) (by omega) (by omega) (by omega)
  have u62 := CI_b c49 (k := 309) (j := 20) bd_309_20
  have u63 := CI_b c49 (k := 309) (j := 36) bd_309_36
  have u64 := CI_b c49 (k := 309) (j := 43) bd_309_43
  have u65 := CI_b c49 (k := 309) (j := 44) bd_309_44
  have u66 := CI_b c49 (k := 309) (j := 58) bd_309_58
  have u67 := CI_b c49 (k := 316) (j := 0) bd_316_0
  have t68 : s48 309 20 = r0 309 20 := f50 309 20 (by decide)
  have t69 : s48 309 44 = r0 309 44 := f50 309 44 (by decide)
  have t70 : s48 316 0 = r0 316 0 := f50 316 0 (by decide)
  refine T_if1 (by decide +kernel) ?_
  refine T_let 3446 (by decide +kernel) ?_
  refine T_if1 (z_ixl (n := 200) (by decide +kernel) (by omega) (by omega)) ?_
  refine T_upg c49 (bdr_3446 a1) (by omega) (fun s71 c72 g74 g75 e76 => ?_)
  have f73 := z_Fr.up (R := R_X12_laysLine_309) f50 g74 (fun _ => (Or.inr (Or.inl (⟨by decide, by decide⟩))))
  have t77 : s71 309 20 = s48 309 20 := g74 309 20 (by decide)
  have t78 : s71 309 36 = s48 309 36 := g74 309 36 (by decide)
  have t79 : s71 309 43 = s48 309 43 := g74 309 43 (by decide)
  have t80 : s71 309 44 = s48 309 44 := g74 309 44 (by decide)
  have t81 : s71 309 58 = s48 309 58 := g74 309 58 (by decide)
  have t82 : s71 316 0 = s48 316 0 := g74 316 0 (by decide)
  have r83 := y_B.fr g55 (g74 309 20 (by decide)) (g74 316 0 (by decide)) (fun b => g74 3220 b (by decide)) (fun b => g74 3221 b (by decide)) (fun b => g74 3222 b (by decide)) (fun b => g74 361 b (by decide))
  have r84 := y_L.fr g56 (g74 309 20 (by decide)) (fun b => g74 3438 b (by decide))
  have r85 := y_E.fr g57 (fun b => g74 3229 b (by decide)) (fun b => g74 3220 b (by decide))
  have r86 := y_BP.fr g58 (by omega) (g74 309 58 (by decide)) (fun b => g74 3220 b (by decide)) (fun a b h => g74 a b (by omega))
  have r87 := y_LE.fr g59 (fun b => g74 3438 b (by decide))
  refine T_if1 (by decide +kernel) ?_
  refine T_let 3447 (by decide +kernel) ?_
  refine T_if1 (z_ixl (n := 200) (by decide +kernel) (by omega) (by omega)) ?_
  refine T_upg c72 (bdr_3447 a1) (by omega) (fun s88 c89 g91 g92 e93 => ?_)
  have f90 := z_Fr.up (R := R_X12_laysLine_309) f73 g91 (fun _ => (Or.inr (Or.inl (⟨by decide, by decide⟩))))
  have t94 : s88 309 20 = s48 309 20 := (g91 309 20 (by decide)).trans t77
  have t95 : s88 309 36 = s48 309 36 := (g91 309 36 (by decide)).trans t78
  have t96 : s88 309 43 = s48 309 43 := (g91 309 43 (by decide)).trans t79
  have t97 : s88 309 44 = s48 309 44 := (g91 309 44 (by decide)).trans t80
  have t98 : s88 309 58 = s48 309 58 := (g91 309 58 (by decide)).trans t81
  have t99 : s88 316 0 = s48 316 0 := (g91 316 0 (by decide)).trans t82
  have r100 := y_B.fr r83 (g91 309 20 (by decide)) (g91 316 0 (by decide)) (fun b => g91 3220 b (by decide)) (fun b => g91 3221 b (by decide)) (fun b => g91 3222 b (by decide)) (fun b => g91 361 b (by decide))
  have r101 := y_L.fr r84 (g91 309 20 (by decide)) (fun b => g91 3438 b (by decide))
  have r102 := y_E.fr r85 (fun b => g91 3229 b (by decide)) (fun b => g91 3220 b (by decide))
  have r103 := y_BP.fr r86 (by omega) (g91 309 58 (by decide)) (fun b => g91 3220 b (by decide)) (fun a b h => g91 a b (by omega))
  have r104 := y_LE.fr r87 (fun b => g91 3438 b (by decide))
  clear t77
  clear t78
  clear t79
  clear t80
  clear t81
  clear t82
  refine T_if1 (by decide +kernel) ?_
  refine T_let 3448 (by decide +kernel) ?_
  refine T_if1 (z_ixl (n := 200) (by decide +kernel) (by omega) (by omega)) ?_
  refine T_upg c89 (bdr_3448 a1) (by omega) (fun s105 c106 g108 g109 e110 => ?_)
  have f107 := z_Fr.up (R := R_X12_laysLine_309) f90 g108 (fun _ => (Or.inr (Or.inl (⟨by decide, by decide⟩))))
  have t111 : s105 309 20 = s48 309 20 := (g108 309 20 (by decide)).trans t94
  have t112 : s105 309 36 = s48 309 36 := (g108 309 36 (by decide)).trans t95
  have t113 : s105 309 43 = s48 309 43 := (g108 309 43 (by decide)).trans t96
  have t114 : s105 309 44 = s48 309 44 := (g108 309 44 (by decide)).trans t97
  have t115 : s105 309 58 = s48 309 58 := (g108 309 58 (by decide)).trans t98
  have t116 : s105 316 0 = s48 316 0 := (g108 316 0 (by decide)).trans t99
  have r117 := y_B.fr r100 (g108 309 20 (by decide)) (g108 316 0 (by decide)) (fun b => g108 3220 b (by decide)) (fun b => g108 3221 b (by decide)) (fun b => g108 3222 b (by decide)) (fun b => g108 361 b (by decide))
  have r118 := y_L.fr r101 (g108 309 20 (by decide)) (fun b => g108 3438 b (by decide))
  have r119 := y_E.fr r102 (fun b => g108 3229 b (by decide)) (fun b => g108 3220 b (by decide))
  have r120 := y_BP.fr r103 (by omega) (g108 309 58 (by decide)) (fun b => g108 3220 b (by decide)) (fun a b h => g108 a b (by omega))
  have r121 := y_LE.fr r104 (fun b => g108 3438 b (by decide))
  clear t94
  clear t95
  clear t96
  clear t97
  clear t98
  clear t99
  refine T_if1 (by decide +kernel) ?_
  refine T_let 3449 (by decide +kernel) ?_
  refine T_if1 (z_ixl (n := 200) (by decide +kernel) (by omega) (by omega)) ?_
  refine T_upg c106 (bdr_3449 a1) (by omega) (fun s122 c123 g125 g126 e127 => ?_)
  have f124 := z_Fr.up (R := R_X12_laysLine_309) f107 g125 (fun _ => (Or.inr (Or.inl (⟨by decide, by decide⟩))))
  have t128 : s122 309 20 = s48 309 20 := (g125 309 20 (by decide)).trans t111
  have t129 : s122 309 36 = s48 309 36 := (g125 309 36 (by decide)).trans t112
  have t130 : s122 309 43 = s48 309 43 := (g125 309 43 (by decide)).trans t113
  have t131 : s122 309 44 = s48 309 44 := (g125 309 44 (by decide)).trans t114
  have t132 : s122 309 58 = s48 309 58 := (g125 309 58 (by decide)).trans t115
  have t133 : s122 316 0 = s48 316 0 := (g125 316 0 (by decide)).trans t116
  have r134 := y_B.fr r117 (g125 309 20 (by decide)) (g125 316 0 (by decide)) (fun b => g125 3220 b (by decide)) (fun b => g125 3221 b (by decide)) (fun b => g125 3222 b (by decide)) (fun b => g125 361 b (by decide))
  have r135 := y_L.fr r118 (g125 309 20 (by decide)) (fun b => g125 3438 b (by decide))
  have r136 := y_E.fr r119 (fun b => g125 3229 b (by decide)) (fun b => g125 3220 b (by decide))
  have r137 := y_BP.fr r120 (by omega) (g125 309 58 (by decide)) (fun b => g125 3220 b (by decide)) (fun a b h => g125 a b (by omega))
  have r138 := y_LE.fr r121 (fun b => g125 3438 b (by decide))
  clear t111
  clear t112
  clear t113
  clear t114
  clear t115
  clear t116
  refine T_if1 (by decide +kernel) ?_
  refine T_let 3450 (by decide +kernel) ?_
  refine T_if1 (by decide +kernel) ?_
  refine T_leq (fun x139 e140 => ?_)
  have u141 := CI_b c123 (k := 309) (j := 35) bd_309_35
  refine T_ite (fun h142 => ?_) (fun h142 => ?_)
  · exact sj_X12_laysLine_309_J125 hfu r0 s122 c123 f124 a1 x7 x17 y51 x45 0 a1 0 (by omega) (by omega) (by omega) (by omega) (by omega) (by omega) (by omega) (by omega) (by omega) (by omega) r134 (by first | exact y_L.cg r135 (by omega)) (by first | exact y_E.cg r136 (by omega) (by omega)) (by first | exact y_BP.cg r137 (by omega)) (by first | exact y_LE.cg r138 (by omega) (by omega)) (by omega) (by omega)
  · exact sj_X12_laysLine_309_J125 hfu r0 s122 c123 f124 a1 x7 x17 y51 x45 0 a1 1 (by omega) (by omega) (by omega) (by omega) (by omega) (by omega) (by omega) (by omega) (by omega) (by omega) r134 (by first | exact y_L.cg r135 (by omega)) (by first | exact y_E.cg r136 (by omega) (by omega)) (by first | exact y_BP.cg r137 (by omega)) (by first | exact y_LE.cg r138 (by omega) (by omega)) (by omega) (by omega)
abbrev R_X12_laysAll_309 (a b : Int) : Prop := (3224 ≤ a ∧ a ≤ 3651) ∨ (a = 309 ∧ (b = 35 ∨ b = 36 ∨ b = 38 ∨ b = 39 ∨ b = 43 ∨ b = 44 ∨ b = 58))
abbrev P_X12_laysAll_309 (r0 : z_M) : z_V → z_M → Prop := fun v s' => z_CI s' ∧ z_Fr R_X12_laysAll_309 r0 s' ∧ (y_K s') ∧ (y_L s' (s' 309 44)) ∧ (y_BK s') ∧ (s' 309 36 ≠ 0) ∧ (s' 309 43 ≠ 0) ∧ (r0 309 36 = 0 ∨ r0 309 43 = 0 ∨ s' 309 44 = r0 309 44) ∧ (v = vN)
theorem rs_X12_freshens_309__X12_laysAll_309 (a b : Int) (h : R_X12_freshens_309 a b) : R_X12_laysAll_309 a b := (h.elim (fun h => (Or.inl (⟨by omega, by omega⟩))) (fun h => (Or.inr (⟨h.1, by omega⟩))))
theorem nr_X12_freshens_309__3438 (b : Int) : ¬ R_X12_freshens_309 3438 b := by
  unfold R_X12_freshens_309; omega
theorem nq_X12_freshens_309__3452 (a b : Int) (h : 3452 ≤ a ∧ a ≤ 3651) : ¬ R_X12_freshens_309 a b := by
  unfold R_X12_freshens_309; omega
theorem rs_X12_breaks_309__X12_laysAll_309 (a b : Int) (h : R_X12_breaks_309 a b) : R_X12_laysAll_309 a b := (h.elim (fun h => (Or.inl (⟨by omega, by omega⟩))) (fun h => (Or.inr (⟨h.1, by omega⟩))))
theorem nr_X12_breaks_309__3220 (b : Int) : ¬ R_X12_breaks_309 3220 b := by
  unfold R_X12_breaks_309; omega
theorem nr_X12_breaks_309__3221 (b : Int) : ¬ R_X12_breaks_309 3221 b := by
  unfold R_X12_breaks_309; omega
theorem nr_X12_breaks_309__3222 (b : Int) : ¬ R_X12_breaks_309 3222 b := by
  unfold R_X12_breaks_309; omega
theorem nr_X12_breaks_309__361 (b : Int) : ¬ R_X12_breaks_309 361 b := by
  unfold R_X12_breaks_309; omega
theorem nq_X12_breaks_309__3452 (a b : Int) (h : 3452 ≤ a ∧ a ≤ 3651) : ¬ R_X12_breaks_309 a b := by
  unfold R_X12_breaks_309; omega
theorem rs_X12_laysLine_309__X12_laysAll_309 (a b : Int) (h : R_X12_laysLine_309 a b) : R_X12_laysAll_309 a b := (h.elim (fun h => (Or.inl (⟨by omega, by omega⟩))) (fun h => (h.elim (fun h => (Or.inl (⟨by omega, by omega⟩))) (fun h => (Or.inr (⟨h.1, by omega⟩))))))
theorem nr_X12_laysLine_309__3220 (b : Int) : ¬ R_X12_laysLine_309 3220 b := by
  unfold R_X12_laysLine_309; omega
theorem nr_X12_laysLine_309__3221 (b : Int) : ¬ R_X12_laysLine_309 3221 b := by
  unfold R_X12_laysLine_309; omega
theorem nr_X12_laysLine_309__3222 (b : Int) : ¬ R_X12_laysLine_309 3222 b := by
  unfold R_X12_laysLine_309; omega
theorem nr_X12_laysLine_309__361 (b : Int) : ¬ R_X12_laysLine_309 361 b := by
  unfold R_X12_laysLine_309; omega
theorem nr_X12_laysLine_309__3438 (b : Int) : ¬ R_X12_laysLine_309 3438 b := by
  unfold R_X12_laysLine_309; omega
theorem sl_X12_laysAll_309_L39 {fu : Nat} (hfu : 8589934592 ≤ fu) (r0 : z_M) {k : z_M → z_O} (hk : ∀ (s' : z_M), z_CI s' → z_Fr R_X12_laysAll_309 r0 s' → (y_L s' (s' 309 44)) → (y_BK s') → (s' 309 36 ≠ 0) → (r0 309 36 = 0 ∨ r0 309 43 = 0) → z_T (k s') (P_X12_laysAll_309 r0)) : ∀ (F : Nat) (s : z_M) (a1 : Int), z_CI s → z_Fr R_X12_laysAll_309 r0 s → (0 ≤ a1 ∧ a1 ≤ 200) → (y_B s) → (y_L s (s 309 44)) → (y_BL s a1) → (a1 ≤ s 309 44) → (s 309 36 ≠ 0) → (r0 309 36 = 0 ∨ r0 309 43 = 0) → (2147483647 - a1 < (F : Int)) → z_T (fX12_laysAll_L39 fu 309 F s a1 k) (P_X12_laysAll_309 r0) := by
  intro F
  induction F with
  | zero =>
    intro s a1 c f b1 i0 i1 i2 i3 i4 i5 hm
    have u35 := CI_b c (k := 309) (j := 20) bd_309_20
    have u36 := CI_b c (k := 309) (j := 36) bd_309_36
    have u37 := CI_b c (k := 309) (j := 43) bd_309_43
    have u38 := CI_b c (k := 309) (j := 44) bd_309_44
    have u39 := CI_b c (k := 309) (j := 58) bd_309_58
    have u40 := CI_b c (k := 316) (j := 0) bd_316_0
    exfalso; omega
  | succ F ih =>
    intro s a1 c f b1 i0 i1 i2 i3 i4 i5 hm
    refine T_of (fX12_laysAll_L39.eq_2 ..) ?_
    have u1 := CI_b c (k := 309) (j := 20) bd_309_20
    have u2 := CI_b c (k := 309) (j := 36) bd_309_36
    have u3 := CI_b c (k := 309) (j := 43) bd_309_43
    have u4 := CI_b c (k := 309) (j := 44) bd_309_44
    have u5 := CI_b c (k := 309) (j := 58) bd_309_58
    have u6 := CI_b c (k := 316) (j := 0) bd_316_0
    have t7 : s 309 20 = r0 309 20 := f 309 20 (by decide)
    have t8 : s 316 0 = r0 316 0 := f 316 0 (by decide)
    refine T_if1 (by decide +kernel) ?_
    refine T_leq (fun x9 e10 => ?_)
    have u11 := CI_b c (k := 309) (j := 44) bd_309_44
    refine T_ite (fun h12 => ?_) (fun h12 => ?_)
    · exact hk s c f (by first | exact y_L.cg i1 (by omega)) (by first | exact y_BK.bl i2 i1 (by omega)) (by omega) (by omega)
    · refine T_if1 (by decide +kernel) ?_
      refine T_useN (sf_X12_laysLine_309 hfu s c a1 (by omega) i0 (by first | exact y_L.cg i1 (by omega)) (by omega) (by first | exact y_BL.cg i2 (by omega) | exact y_BL.z (by omega) (by omega))) (fun v18 s13 hq => ?_)
      obtain ⟨c14, f15, o19, o20, o21, rfl⟩ := hq
      refine T_vN ?_
      have f16 := z_Fr.tr (R := R_X12_laysAll_309) f f15 rs_X12_laysLine_309__X12_laysAll_309
      have t24 : s13 309 20 = s 309 20 := f15 309 20 (by decide)
      have t25 : s13 309 44 = x9 := (f15 309 44 (by decide)).trans e10
      have t26 : s13 316 0 = s 316 0 := f15 316 0 (by decide)
      have u27 := CI_b c14 (k := 309) (j := 36) bd_309_36
      have u28 := CI_b c14 (k := 309) (j := 43) bd_309_43
      have u29 := CI_b c14 (k := 309) (j := 58) bd_309_58
      have r30 := y_B.fr i0 (f15 309 20 (by decide)) (f15 316 0 (by decide)) (fun b => f15 3220 b (nr_X12_laysLine_309__3220 b)) (fun b => f15 3221 b (nr_X12_laysLine_309__3221 b)) (fun b => f15 3222 b (nr_X12_laysLine_309__3222 b)) (fun b => f15 361 b (nr_X12_laysLine_309__361 b))
      have r31 := y_L.fr i1 (f15 309 20 (by decide)) (fun b => f15 3438 b (nr_X12_laysLine_309__3438 b))
      refine T_leq (fun x32 e33 => ?_)
      first | (have w34 := z_wx e33 (by omega)) | (have w34 := z_wr e33)
      exact ih s13 x32 c14 f16 (by omega) r30 (by first | exact y_L.cg r31 (by omega)) (by first | exact y_BL.cg o19 (by omega) | exact y_BL.z (by omega) (by omega)) (by omega) (by omega) (by omega) (by omega)
theorem sf_X12_laysAll_309 {fu : Nat} (hfu : 8589934592 ≤ fu) (r0 : z_M) (c0 : z_CI r0) (p0 : y_B r0) (p1 : y_K r0) : z_T (fX12_laysAll fu r0 309) (P_X12_laysAll_309 r0) := by
  refine T_of (fX12_laysAll.eq_1 ..) ?_
  have u1 := CI_b c0 (k := 309) (j := 20) bd_309_20
  have u2 := CI_b c0 (k := 309) (j := 36) bd_309_36
  have u3 := CI_b c0 (k := 309) (j := 43) bd_309_43
  have u4 := CI_b c0 (k := 309) (j := 44) bd_309_44
  have u5 := CI_b c0 (k := 309) (j := 58) bd_309_58
  have u6 := CI_b c0 (k := 316) (j := 0) bd_316_0
  refine T_if1 (by decide +kernel) ?_
  refine T_useN (sf_X12_freshens_309 hfu r0 c0 p0) (fun v12 s7 hq => ?_)
  obtain ⟨c8, f9, o13, o14, o15, o16, rfl⟩ := hq
  refine T_vN ?_
  have f10 := z_Fr.tr (R := R_X12_laysAll_309) z_Fr.rf f9 rs_X12_freshens_309__X12_laysAll_309
  have t19 : s7 309 20 = r0 309 20 := f9 309 20 (by decide)
  have t20 : s7 309 44 = r0 309 44 := f9 309 44 (by decide)
  have t21 : s7 309 58 = r0 309 58 := f9 309 58 (by decide)
  have t22 : s7 316 0 = r0 316 0 := f9 316 0 (by decide)
  have u23 := CI_b c8 (k := 309) (j := 36) bd_309_36
  have u24 := CI_b c8 (k := 309) (j := 43) bd_309_43
  have r25 := y_B.fr p0 (f9 309 20 (by decide)) (f9 316 0 (by decide)) (fun b => f9 3220 b (nr_X12_freshens_309__3220 b)) (fun b => f9 3221 b (nr_X12_freshens_309__3221 b)) (fun b => f9 3222 b (nr_X12_freshens_309__3222 b)) (fun b => f9 361 b (nr_X12_freshens_309__361 b))
  have r26 := y_K.fr p1 (by omega) (by omega) (f9 309 44 (by decide)) (f9 309 20 (by decide)) (f9 309 58 (by decide)) (fun b => f9 3438 b (nr_X12_freshens_309__3438 b)) (fun b => f9 3220 b (nr_X12_freshens_309__3220 b)) (fun a b h => f9 a b (nq_X12_freshens_309__3452 a b h))
  refine T_if1 (by decide +kernel) ?_
  refine T_leq (fun x27 e28 => ?_)
  have u29 := CI_b c8 (k := 309) (j := 43) bd_309_43
  refine T_ite (fun h30 => ?_) (fun h30 => ?_)
  · refine T_if1 (by decide +kernel) ?_
    refine T_let 312 (by decide +kernel) ?_
    refine T_if1 (z_ixl (n := 9) (by decide +kernel) (by omega) (by omega)) ?_
    refine T_leq (fun x31 e32 => ?_)
    have u33 := CI_b c8 (k := 312) (j := 0) (bdr_312 0)
    refine T_if1 (by decide +kernel) ?_
    refine T_let 312 (by decide +kernel) ?_
    refine T_if1 (z_ixl (n := 9) (by decide +kernel) (by omega) (by omega)) ?_
    refine T_leq (fun x34 e35 => ?_)
    have u36 := CI_b c8 (k := 312) (j := 3) (bdr_312 3)
    refine T_if1 (by decide +kernel) ?_
    refine T_useI (sf_X12_breaks_309 hfu s7 c8 x31 x34 (by omega) (by omega) r25) (fun v42 s37 hq => ?_)
    obtain ⟨c38, f39, o43, o44, ⟨x41, rfl, b45, b46, o47⟩⟩ := hq
    refine T_vI ?_
    have f40 := z_Fr.tr (R := R_X12_laysAll_309) f10 f39 rs_X12_breaks_309__X12_laysAll_309
    have t48 : s37 309 20 = r0 309 20 := (f39 309 20 (by decide)).trans t19
    have t49 : s37 309 44 = r0 309 44 := (f39 309 44 (by decide)).trans t20
    have t50 : s37 309 58 = r0 309 58 := (f39 309 58 (by decide)).trans t21
    have t51 : s37 316 0 = r0 316 0 := (f39 316 0 (by decide)).trans t22
    have u52 := CI_b c38 (k := 309) (j := 36) bd_309_36
    have u53 := CI_b c38 (k := 309) (j := 43) bd_309_43
    have r54 := y_B.fr r25 (f39 309 20 (by decide)) (f39 316 0 (by decide)) (fun b => f39 3220 b (nr_X12_breaks_309__3220 b)) (fun b => f39 3221 b (nr_X12_breaks_309__3221 b)) (fun b => f39 3222 b (nr_X12_breaks_309__3222 b)) (fun b => f39 361 b (nr_X12_breaks_309__361 b))
    clear t19
    clear t20
    clear t21
    clear t22
    refine T_if1 (by decide +kernel) ?_
    refine T_upg c38 bd_309_44 (by omega) (fun s55 c56 g58 g59 e60 => ?_)
    have f57 := z_Fr.upf (R := R_X12_laysAll_309) f40 g58 g59 (Or.inr (⟨rfl, by decide⟩))
    have t61 : s55 309 20 = r0 309 20 := (g59 20 (by decide)).trans t48
    have t62 : s55 309 36 = s37 309 36 := g59 36 (by decide)
    have t63 : s55 309 43 = s37 309 43 := g59 43 (by decide)
    have t64 : s55 309 58 = r0 309 58 := (g59 58 (by decide)).trans t50
    have t65 : s55 316 0 = r0 316 0 := (g58 316 0 (by decide)).trans t51
    have u66 := CI_b c56 (k := 309) (j := 44) bd_309_44
    have r67 := y_B.fr r54 (g59 20 (by decide)) (g58 316 0 (by decide)) (fun b => g58 3220 b (by decide)) (fun b => g58 3221 b (by decide)) (fun b => g58 3222 b (by decide)) (fun b => g58 361 b (by decide))
    have r68 := y_L.fr o47 (g59 20 (by decide)) (fun b => g58 3438 b (by decide))
    clear t48
    clear t50
    clear t51
    refine T_if1 (by decide +kernel) ?_
    refine T_upg c56 bd_309_58 (by omega) (fun s69 c70 g72 g73 e74 => ?_)
    have f71 := z_Fr.upf (R := R_X12_laysAll_309) f57 g72 g73 (Or.inr (⟨rfl, by decide⟩))
    have t75 : s69 309 20 = r0 309 20 := (g73 20 (by decide)).trans t61
    have t76 : s69 309 36 = s37 309 36 := (g73 36 (by decide)).trans t62
    have t77 : s69 309 43 = s37 309 43 := (g73 43 (by decide)).trans t63
    have t78 : s69 309 44 = s55 309 44 := g73 44 (by decide)
    have t79 : s69 316 0 = r0 316 0 := (g72 316 0 (by decide)).trans t65
    have u80 := CI_b c70 (k := 309) (j := 58) bd_309_58
    have r81 := y_B.fr r67 (g73 20 (by decide)) (g72 316 0 (by decide)) (fun b => g72 3220 b (by decide)) (fun b => g72 3221 b (by decide)) (fun b => g72 3222 b (by decide)) (fun b => g72 361 b (by decide))
    have r82 := y_L.fr r68 (g73 20 (by decide)) (fun b => g72 3438 b (by decide))
    clear t61
    clear t62
    clear t63
    clear t65
    have n83 := CI_b c70 (k := 3438) (j := 0) (bdr_3438 0)
    refine sl_X12_laysAll_309_L39 hfu r0 (fun s84 c85 f86 g87 g88 g89 g90 => ?_) fu s69 0 c70 f71 (by omega) r81 (by first | exact y_L.cg r82 (by omega)) (by first | exact y_BL.z (by omega) (by omega)) (by omega) (by omega) (by omega) (by omega)
    have u91 := CI_b c85 (k := 309) (j := 20) bd_309_20
    have u92 := CI_b c85 (k := 309) (j := 36) bd_309_36
    have u93 := CI_b c85 (k := 309) (j := 43) bd_309_43
    have u94 := CI_b c85 (k := 309) (j := 44) bd_309_44
    have u95 := CI_b c85 (k := 309) (j := 58) bd_309_58
    have u96 := CI_b c85 (k := 316) (j := 0) bd_316_0
    have t97 : s84 309 20 = r0 309 20 := f86 309 20 (by decide)
    have t98 : s84 316 0 = r0 316 0 := f86 316 0 (by decide)
    refine T_if1 ⟨(by decide +kernel), by unfold z_bl; omega⟩ ?_
    refine T_upg c85 bd_309_43 (by omega) (fun s99 c100 g102 g103 e104 => ?_)
    have f101 := z_Fr.upf (R := R_X12_laysAll_309) f86 g102 g103 (Or.inr (⟨rfl, by decide⟩))
    have t105 : s99 309 20 = s84 309 20 := g103 20 (by decide)
    have t106 : s99 309 36 = s84 309 36 := g103 36 (by decide)
    have t107 : s99 309 44 = s84 309 44 := g103 44 (by decide)
    have t108 : s99 309 58 = s84 309 58 := g103 58 (by decide)
    have t109 : s99 316 0 = s84 316 0 := g102 316 0 (by decide)
    have u110 := CI_b c100 (k := 309) (j := 43) bd_309_43
    have r111 := y_L.fr g87 (g103 20 (by decide)) (fun b => g102 3438 b (by decide))
    have r112 := y_BK.fr g88 (by omega) (g103 20 (by decide)) (g103 58 (by decide)) (fun b => g102 3220 b (by decide)) (fun a b h => g102 a b (by omega))
    exact T_ret ⟨c100, f101, (by first | exact y_K.b0 (by omega) | exact y_K.k0 (by omega) | exact y_K.bk (by omega) | exact y_K.mk r111 (by omega) r112), (by first | exact y_L.cg r111 (by omega)), r112, (by omega), (by omega), (by omega), rfl⟩
  · exact T_ret ⟨c8, f10, (by first | exact r26 | exact y_K.b0 (by omega) | exact y_K.k0 (by omega) | exact y_K.bk (by omega)), (by first | exact y_K.L r26 (by omega) (by omega)), (by first | exact y_K.B r26 (by omega) (by omega)), (by omega), (by omega), (by omega), rfl⟩
abbrev R_X12_costs_309 (a b : Int) : Prop := (3224 ≤ a ∧ a ≤ 3437) ∨ (a = 309 ∧ (b = 35 ∨ b = 36 ∨ b = 38 ∨ b = 39 ∨ b = 43))
abbrev P_X12_costs_309 (r0 : z_M) : z_V → z_M → Prop := fun v s' => z_CI s' ∧ z_Fr R_X12_costs_309 r0 s' ∧ (s' 309 43 = 0 ∨ s' 309 36 = 0 ∨ (r0 309 36 ≠ 0 ∧ r0 309 43 ≠ 0)) ∧ (r0 309 36 = 0 ∨ s' 309 36 ≠ 0) ∧ (∃ x, v = vL x ∧ -9223372036854775808 ≤ x ∧ x ≤ 9223372036854775807)
theorem rs_X12_cost_309__X12_costs_309 (a b : Int) (h : R_X12_cost_309 a b) : R_X12_costs_309 a b := (h.elim (fun h => (Or.inl (⟨by omega, by omega⟩))) (fun h => (Or.inr (⟨h.1, by omega⟩))))
theorem nr_X12_cost_309__3438 (b : Int) : ¬ R_X12_cost_309 3438 b := by
  unfold R_X12_cost_309; omega
theorem sl_X12_costs_309_L4 {fu : Nat} (hfu : 8589934592 ≤ fu) (r0 : z_M) {k : z_M → Int → z_O} (hk : ∀ (s' : z_M) (v1 : Int), z_CI s' → z_Fr R_X12_costs_309 r0 s' → (-9223372036854775808 ≤ v1 ∧ v1 ≤ 9223372036854775807) → (s' 309 43 = 0 ∨ s' 309 36 = 0 ∨ (r0 309 36 ≠ 0 ∧ r0 309 43 ≠ 0)) → (r0 309 36 = 0 ∨ s' 309 36 ≠ 0) → z_T (k s' v1) (P_X12_costs_309 r0)) : ∀ (F : Nat) (s : z_M) (a1 : Int) (a3 : Int), z_CI s → z_Fr R_X12_costs_309 r0 s → (-9223372036854775808 ≤ a1 ∧ a1 ≤ 9223372036854775807) → (0 ≤ a3 ∧ a3 ≤ 200) → (y_B s) → (y_L s (s 309 44)) → (s 309 43 = 0 ∨ s 309 36 = 0 ∨ (r0 309 36 ≠ 0 ∧ r0 309 43 ≠ 0)) → (r0 309 36 = 0 ∨ s 309 36 ≠ 0) → (2147483647 - a3 < (F : Int)) → z_T (fX12_costs_L4 fu 309 F s a1 a3 k) (P_X12_costs_309 r0) := by
  intro F
  induction F with
  | zero =>
    intro s a1 a3 c f b1 b3 i0 i1 i2 i3 hm
    have u52 := CI_b c (k := 309) (j := 20) bd_309_20
    have u53 := CI_b c (k := 309) (j := 36) bd_309_36
    have u54 := CI_b c (k := 309) (j := 43) bd_309_43
    have u55 := CI_b c (k := 309) (j := 44) bd_309_44
    have u56 := CI_b c (k := 316) (j := 0) bd_316_0
    exfalso; omega
  | succ F ih =>
    intro s a1 a3 c f b1 b3 i0 i1 i2 i3 hm
    refine T_of (fX12_costs_L4.eq_2 ..) ?_
    have u1 := CI_b c (k := 309) (j := 20) bd_309_20
    have u2 := CI_b c (k := 309) (j := 36) bd_309_36
    have u3 := CI_b c (k := 309) (j := 43) bd_309_43
    have u4 := CI_b c (k := 309) (j := 44) bd_309_44
    have u5 := CI_b c (k := 316) (j := 0) bd_316_0
    have t6 : s 309 20 = r0 309 20 := f 309 20 (by decide)
    have t7 : s 309 44 = r0 309 44 := f 309 44 (by decide)
    have t8 : s 316 0 = r0 316 0 := f 316 0 (by decide)
    refine T_if1 (by decide +kernel) ?_
    refine T_leq (fun x9 e10 => ?_)
    have u11 := CI_b c (k := 309) (j := 44) bd_309_44
    refine T_ite (fun h12 => ?_) (fun h12 => ?_)
    · exact hk s a1 c f (by omega) (by omega) (by omega)
    · refine T_if1 (by decide +kernel) ?_
      refine T_let 3438 (by decide +kernel) ?_
      refine T_if1 (z_ixl (n := 201) (by decide +kernel) (by omega) (by omega)) ?_
      refine T_leq (fun x13 e14 => ?_)
      have u15 := CI_b c (k := 3438) (j := a3) (bdr_3438 a3)
      refine T_if1 (by decide +kernel) ?_
      refine T_let 3438 (by decide +kernel) ?_
      refine T_leq (fun x16 e17 => ?_)
      first | (have w18 := z_wx e17 (by omega)) | (have w18 := z_wr e17)
      have n19 := y_L.at i1 (i := a3) (j := x16) (by omega) (by omega) (by omega)
      refine T_if1 (z_ixl (n := 201) (by decide +kernel) (by omega) (by omega)) ?_
      refine T_leq (fun x20 e21 => ?_)
      have u22 := CI_b c (k := 3438) (j := x16) (bdr_3438 x16)
      refine T_leq (fun x23 e24 => ?_)
      first | (have w25 := z_wx e24 (by omega)) | (have w25 := z_wr e24)
      refine T_if1 (by decide +kernel) ?_
      refine T_let 312 (by decide +kernel) ?_
      refine T_if1 (z_ixl (n := 9) (by decide +kernel) (by omega) (by omega)) ?_
      refine T_leq (fun x26 e27 => ?_)
      have u28 := CI_b c (k := 312) (j := 0) (bdr_312 0)
      refine T_if1 (by decide +kernel) ?_
      refine T_useL (sf_X12_cost_309 hfu s c x13 x23 x26 (by omega) (by omega) (by omega) i0 (by omega) (by omega)) (fun v34 s29 hq => ?_)
      obtain ⟨c30, f31, o35, o36, ⟨x33, rfl, b37, b38⟩⟩ := hq
      refine T_vL ?_
      have f32 := z_Fr.tr (R := R_X12_costs_309) f f31 rs_X12_cost_309__X12_costs_309
      have t39 : s29 309 20 = s 309 20 := f31 309 20 (by decide)
      have t40 : s29 309 44 = x9 := (f31 309 44 (by decide)).trans e10
      have t41 : s29 316 0 = s 316 0 := f31 316 0 (by decide)
      have u42 := CI_b c30 (k := 309) (j := 36) bd_309_36
      have u43 := CI_b c30 (k := 309) (j := 43) bd_309_43
      have r44 := y_B.fr i0 (f31 309 20 (by decide)) (f31 316 0 (by decide)) (fun b => f31 3220 b (nr_X12_cost_309__3220 b)) (fun b => f31 3221 b (nr_X12_cost_309__3221 b)) (fun b => f31 3222 b (nr_X12_cost_309__3222 b)) (fun b => f31 361 b (nr_X12_cost_309__361 b))
      have r45 := y_L.fr i1 (f31 309 20 (by decide)) (fun b => f31 3438 b (nr_X12_cost_309__3438 b))
      refine T_leq (fun x46 e47 => ?_)
      have w48 := z_wlr e47
      refine T_leq (fun x49 e50 => ?_)
      have q51 : x16 = x49 := e17.symm.trans e50
      subst q51
      exact ih s29 x46 x16 c30 f32 (by omega) (by omega) r44 (by first | exact y_L.cg r45 (by omega)) (by omega) (by omega) (by omega)
theorem sf_X12_costs_309 {fu : Nat} (hfu : 8589934592 ≤ fu) (r0 : z_M) (c0 : z_CI r0) (p0 : y_B r0) (p1 : y_L r0 (r0 309 44)) : z_T (fX12_costs fu r0 309) (P_X12_costs_309 r0) := by
  refine T_of (fX12_costs.eq_1 ..) ?_
  have u1 := CI_b c0 (k := 309) (j := 20) bd_309_20
  have u2 := CI_b c0 (k := 309) (j := 36) bd_309_36
  have u3 := CI_b c0 (k := 309) (j := 43) bd_309_43
  have u4 := CI_b c0 (k := 309) (j := 44) bd_309_44
  have u5 := CI_b c0 (k := 316) (j := 0) bd_316_0
  refine sl_X12_costs_309_L4 hfu r0 (fun s6 y9 c7 f8 b10 g11 g12 => ?_) fu r0 0 0 c0 z_Fr.rf (by omega) (by omega) p0 (by first | exact y_L.cg p1 (by omega)) (by omega) (by omega) (by omega)
  have u13 := CI_b c7 (k := 309) (j := 20) bd_309_20
  have u14 := CI_b c7 (k := 309) (j := 36) bd_309_36
  have u15 := CI_b c7 (k := 309) (j := 43) bd_309_43
  have u16 := CI_b c7 (k := 309) (j := 44) bd_309_44
  have u17 := CI_b c7 (k := 316) (j := 0) bd_316_0
  have t18 : s6 309 20 = r0 309 20 := f8 309 20 (by decide)
  have t19 : s6 309 44 = r0 309 44 := f8 309 44 (by decide)
  have t20 : s6 316 0 = r0 316 0 := f8 316 0 (by decide)
  exact T_ret ⟨c7, f8, (by omega), (by omega), ⟨y9, rfl, by omega, by omega⟩⟩
abbrev R_X12_longest_309 (a b : Int) : Prop := False
abbrev P_X12_longest_309 (r0 : z_M) : z_V → z_M → Prop := fun v s' => z_CI s' ∧ z_Fr R_X12_longest_309 r0 s' ∧ (∃ x, v = vI x ∧ -2147483648 ≤ x ∧ x ≤ 2147483647)
theorem sl_X12_longest_309_L4 {fu : Nat} (hfu : 8589934592 ≤ fu) (r0 : z_M) {k : z_M → Int → z_O} (hk : ∀ (s' : z_M) (v1 : Int), z_CI s' → z_Fr R_X12_longest_309 r0 s' → (-2147483648 ≤ v1 ∧ v1 ≤ 2147483647) → z_T (k s' v1) (P_X12_longest_309 r0)) : ∀ (F : Nat) (s : z_M) (a1 : Int) (a2 : Int), z_CI s → z_Fr R_X12_longest_309 r0 s → (-2147483648 ≤ a1 ∧ a1 ≤ 2147483647) → (0 ≤ a2 ∧ a2 ≤ 200) → (2147483647 - a2 < (F : Int)) → z_T (fX12_longest_L4 fu 309 F s a1 a2 k) (P_X12_longest_309 r0) := by
  intro F
  induction F with
  | zero =>
    intro s a1 a2 c f b1 b2 hm
    exfalso; omega
  | succ F ih =>
    intro s a1 a2 c f b1 b2 hm
    have qf := z_Fr.eq (fun a b h => h) f
    subst qf
    refine T_of (fX12_longest_L4.eq_2 ..) ?_
    refine T_if1 (by decide +kernel) ?_
    refine T_leq (fun x1 e2 => ?_)
    have u3 := CI_b c (k := 309) (j := 44) bd_309_44
    refine T_ite (fun h4 => ?_) (fun h4 => ?_)
    · exact hk r0 a1 c f (by omega)
    · refine T_if1 (by decide +kernel) ?_
      refine T_let 3446 (by decide +kernel) ?_
      refine T_if1 (z_ixl (n := 200) (by decide +kernel) (by omega) (by omega)) ?_
      refine T_leq (fun x5 e6 => ?_)
      have u7 := CI_b c (k := 3446) (j := a2) (bdr_3446 a2)
      refine T_useI (sf_X12_more hfu r0 c a1 x5 (by omega) (by omega)) (fun v13 s8 hq => ?_)
      obtain ⟨c9, f10, ⟨x12, rfl, b14, b15, o16⟩⟩ := hq
      refine T_vI ?_
      have q17 := z_Fr.eq (fun a b h => h) f10
      subst q17
      refine T_leq (fun x18 e19 => ?_)
      first | (have w20 := z_wx e19 (by omega)) | (have w20 := z_wr e19)
      exact ih r0 x12 x18 c f (by omega) (by omega) (by omega)
theorem sf_X12_longest_309 {fu : Nat} (hfu : 8589934592 ≤ fu) (r0 : z_M) (c0 : z_CI r0) : z_T (fX12_longest fu r0 309) (P_X12_longest_309 r0) := by
  refine T_of (fX12_longest.eq_1 ..) ?_
  refine sl_X12_longest_309_L4 hfu r0 (fun s1 y4 c2 f3 b5 => ?_) fu r0 0 0 c0 z_Fr.rf (by omega) (by omega) (by omega)
  have q6 := z_Fr.eq (fun a b h => h) f3
  subst q6
  exact T_ret ⟨c2, f3, ⟨y4, rfl, by omega, by omega⟩⟩
abbrev R_X12_unfit_309 (a b : Int) : Prop := False
abbrev P_X12_unfit_309 (r0 : z_M) : z_V → z_M → Prop := fun v s' => z_CI s' ∧ z_Fr R_X12_unfit_309 r0 s' ∧ (∃ x, v = vI x ∧ -2147483648 ≤ x ∧ x ≤ 2147483647)
theorem sj_X12_unfit_309_J33 {fu : Nat} (hfu : 8589934592 ≤ fu) (r0 s : z_M) (c : z_CI s) (f : z_Fr R_X12_unfit_309 r0 s) (a2 : Int) (t0 : Int) (t1 : Int) (b2 : 0 ≤ a2 ∧ a2 ≤ 199) (d0 : -2147483648 ≤ t0 ∧ t0 ≤ 2147483647) (d1 : 0 ≤ t1 ∧ t1 ≤ 1) (M : Int) (pm : 2147483647 - a2 ≤ M) {r : z_M → Int → Int → z_O} {k : z_M → Int → z_O} (hr : ∀ (s' : z_M) (v1 : Int) (v2 : Int), z_CI s' → z_Fr R_X12_unfit_309 r0 s' → (-2147483648 ≤ v1 ∧ v1 ≤ 2147483647) → (0 ≤ v2 ∧ v2 ≤ 200) → (2147483647 - v2 < M) → z_T (r s' v1 v2) (P_X12_unfit_309 r0)) (hk : ∀ (s' : z_M) (v1 : Int), z_CI s' → z_Fr R_X12_unfit_309 r0 s' → (-2147483648 ≤ v1 ∧ v1 ≤ 2147483647) → z_T (k s' v1) (P_X12_unfit_309 r0)) : z_T (fX12_unfit_J33 fu s 309 a2 t0 t1 r k) (P_X12_unfit_309 r0) := by
  have qf := z_Fr.eq (fun a b h => h) f
  subst qf
  refine T_of (fX12_unfit_J33.eq_1 ..) ?_
  refine T_leq (fun x1 e2 => ?_)
  first | (have w3 := z_wx e2 (by omega)) | (have w3 := z_wr e2)
  refine T_leq (fun x4 e5 => ?_)
  first | (have w6 := z_wx e5 (by omega)) | (have w6 := z_wr e5)
  exact hr r0 x1 x4 c f (by omega) (by omega) (by omega)
theorem sl_X12_unfit_309_L4 {fu : Nat} (hfu : 8589934592 ≤ fu) (r0 : z_M) {k : z_M → Int → z_O} (hk : ∀ (s' : z_M) (v1 : Int), z_CI s' → z_Fr R_X12_unfit_309 r0 s' → (-2147483648 ≤ v1 ∧ v1 ≤ 2147483647) → z_T (k s' v1) (P_X12_unfit_309 r0)) : ∀ (F : Nat) (s : z_M) (a1 : Int) (a2 : Int), z_CI s → z_Fr R_X12_unfit_309 r0 s → (-2147483648 ≤ a1 ∧ a1 ≤ 2147483647) → (0 ≤ a2 ∧ a2 ≤ 200) → (2147483647 - a2 < (F : Int)) → z_T (fX12_unfit_L4 fu 309 F s a1 a2 k) (P_X12_unfit_309 r0) := by
  intro F
  induction F with
  | zero =>
    intro s a1 a2 c f b1 b2 hm
    exfalso; omega
  | succ F ih =>
    intro s a1 a2 c f b1 b2 hm
    have qf := z_Fr.eq (fun a b h => h) f
    subst qf
    refine T_of (fX12_unfit_L4.eq_2 ..) ?_
    refine T_if1 (by decide +kernel) ?_
    refine T_leq (fun x1 e2 => ?_)
    have u3 := CI_b c (k := 309) (j := 44) bd_309_44
    refine T_ite (fun h4 => ?_) (fun h4 => ?_)
    · exact hk r0 a1 c f (by omega)
    · refine T_if1 (by decide +kernel) ?_
      refine T_let 3446 (by decide +kernel) ?_
      refine T_if1 (z_ixl (n := 200) (by decide +kernel) (by omega) (by omega)) ?_
      refine T_leq (fun x5 e6 => ?_)
      have u7 := CI_b c (k := 3446) (j := a2) (bdr_3446 a2)
      refine T_if1 (by decide +kernel) ?_
      refine T_let 312 (by decide +kernel) ?_
      refine T_if1 (z_ixl (n := 9) (by decide +kernel) (by omega) (by omega)) ?_
      refine T_leq (fun x8 e9 => ?_)
      have u10 := CI_b c (k := 312) (j := 0) (bdr_312 0)
      refine T_ite (fun h11 => ?_) (fun h11 => ?_)
      · exact sj_X12_unfit_309_J33 hfu r0 r0 c f a2 a1 0 (by omega) (by omega) (by omega) (2147483647 - a2) (by omega) (fun s' v1 v2 c' f' w1 w2 pg => ih s' v1 v2 c' f' w1 w2 (by omega)) hk
      · exact sj_X12_unfit_309_J33 hfu r0 r0 c f a2 a1 1 (by omega) (by omega) (by omega) (2147483647 - a2) (by omega) (fun s' v1 v2 c' f' w1 w2 pg => ih s' v1 v2 c' f' w1 w2 (by omega)) hk
theorem sf_X12_unfit_309 {fu : Nat} (hfu : 8589934592 ≤ fu) (r0 : z_M) (c0 : z_CI r0) : z_T (fX12_unfit fu r0 309) (P_X12_unfit_309 r0) := by
  refine T_of (fX12_unfit.eq_1 ..) ?_
  refine sl_X12_unfit_309_L4 hfu r0 (fun s1 y4 c2 f3 b5 => ?_) fu r0 0 0 c0 z_Fr.rf (by omega) (by omega) (by omega)
  have q6 := z_Fr.eq (fun a b h => h) f3
  subst q6
  exact T_ret ⟨c2, f3, ⟨y4, rfl, by omega, by omega⟩⟩
