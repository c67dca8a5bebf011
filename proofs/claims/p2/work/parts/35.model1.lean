/-! SAFETY, 2: the bounds that are wanted, the instances (by program, wip/tool/mksafe.py) -/
theorem bd_309_0 : z_bd 309 0 = ((-2147483648), 2147483647) := by decide +kernel
theorem bd_309_2 : z_bd 309 2 = (0, 300) := by decide +kernel
theorem bd_309_20 : z_bd 309 20 = (0, 200) := by decide +kernel
theorem bd_309_3 : z_bd 309 3 = (0, 300) := by decide +kernel
theorem bd_309_4 : z_bd 309 4 = (0, 302) := by decide +kernel
theorem bd_309_5 : z_bd 309 5 = ((-2147483648), 2147483647) := by decide +kernel
theorem bd_309_6 : z_bd 309 6 = ((-2147483648), 2147483647) := by decide +kernel
theorem bd_309_7 : z_bd 309 7 = ((-2147483648), 2147483647) := by decide +kernel
theorem bdr_310 (j : Int) : z_bd 310 j = ((-2147483648), 2147483647) := by
  unfold z_bd
  repeat (first | rw [if_neg (by omega)] | rw [if_pos (by omega)])
  try rfl
theorem bdr_311 (j : Int) : z_bd 311 j = ((-2147483648), 2147483647) := by
  unfold z_bd
  repeat (first | rw [if_neg (by omega)] | rw [if_pos (by omega)])
  try rfl
theorem bdr_3220 (j : Int) : z_bd 3220 j = ((-2147483648), 2147483647) := by
  unfold z_bd
  repeat (first | rw [if_neg (by omega)] | rw [if_pos (by omega)])
  try rfl
abbrev R_X12_in (a b : Int) : Prop := False
abbrev P_X12_in (r0 : z_M) (a0 : Int) (a1 : Int) (a2 : Int) : z_V → z_M → Prop := fun v s' => z_CI s' ∧ z_Fr R_X12_in r0 s' ∧ (∃ x, v = vI x ∧ 0 ≤ x ∧ x ≤ 1 ∧ ((x = 1 ∧ a1 ≤ a0 ∧ a0 ≤ a2) ∨ (x = 0 ∧ (a0 < a1 ∨ a2 < a0))))
theorem sj_X12_in_J15 {fu : Nat} (hfu : 8589934592 ≤ fu) (r0 s : z_M) (c : z_CI s) (f : z_Fr R_X12_in r0 s) (t0 : Int) (a0 : Int) (a1 : Int) (a2 : Int) (d0 : 0 ≤ t0 ∧ t0 ≤ 1) (p0 : (t0 = 1 ∧ a1 ≤ a0 ∧ a0 ≤ a2) ∨ (t0 = 0 ∧ (a0 < a1 ∨ a2 < a0))) : z_T (fX12_in_J15 fu s t0) (P_X12_in r0 a0 a1 a2) := by
  refine T_of (fX12_in_J15.eq_1 ..) ?_
  refine T_if1 (by unfold z_bl; omega) ?_
  exact T_ret ⟨c, f, ⟨t0, rfl, by omega, by omega, by omega⟩⟩
theorem sj_X12_in_J14 {fu : Nat} (hfu : 8589934592 ≤ fu) (r0 s : z_M) (c : z_CI s) (f : z_Fr R_X12_in r0 s) (a0 : Int) (a1 : Int) (a2 : Int) (p0 : a0 < a1 ∨ a2 < a0) : z_T (fX12_in_J14 fu s) (P_X12_in r0 a0 a1 a2) := by
  refine T_of (fX12_in_J14.eq_1 ..) ?_
  exact sj_X12_in_J15 hfu r0 s c f 0 a0 a1 a2 (by omega) (by omega)
theorem sf_X12_in {fu : Nat} (hfu : 8589934592 ≤ fu) (r0 : z_M) (c0 : z_CI r0) (a0 : Int) (a1 : Int) (a2 : Int) (b0 : -2147483648 ≤ a0 ∧ a0 ≤ 2147483647) (b1 : -2147483648 ≤ a1 ∧ a1 ≤ 2147483647) (b2 : -2147483648 ≤ a2 ∧ a2 ≤ 2147483647) : z_T (fX12_in fu r0 a0 a1 a2) (P_X12_in r0 a0 a1 a2) := by
  refine T_of (fX12_in.eq_1 ..) ?_
  refine T_ite (fun h1 => ?_) (fun h1 => ?_)
  · exact sj_X12_in_J14 hfu r0 r0 c0 z_Fr.rf a0 a1 a2 (by omega)
  · refine T_ite (fun h2 => ?_) (fun h2 => ?_)
    · exact sj_X12_in_J14 hfu r0 r0 c0 z_Fr.rf a0 a1 a2 (by omega)
    · exact sj_X12_in_J15 hfu r0 r0 c0 z_Fr.rf 1 a0 a1 a2 (by omega) (by omega)
abbrev R_X12_less (a b : Int) : Prop := False
abbrev P_X12_less (r0 : z_M) (a0 : Int) (a1 : Int) : z_V → z_M → Prop := fun v s' => z_CI s' ∧ z_Fr R_X12_less r0 s' ∧ (∃ x, v = vI x ∧ -2147483648 ≤ x ∧ x ≤ 2147483647 ∧ (x ≤ a0 ∧ x ≤ a1 ∧ (x = a0 ∨ x = a1)))
theorem sj_X12_less_J10 {fu : Nat} (hfu : 8589934592 ≤ fu) (r0 s : z_M) (c : z_CI s) (f : z_Fr R_X12_less r0 s) (t0 : Int) (a0 : Int) (a1 : Int) (d0 : -2147483648 ≤ t0 ∧ t0 ≤ 2147483647) (p0 : t0 ≤ a0 ∧ t0 ≤ a1 ∧ (t0 = a0 ∨ t0 = a1)) : z_T (fX12_less_J10 fu s t0) (P_X12_less r0 a0 a1) := by
  refine T_of (fX12_less_J10.eq_1 ..) ?_
  exact T_ret ⟨c, f, ⟨t0, rfl, by omega, by omega, by omega⟩⟩
theorem sf_X12_less {fu : Nat} (hfu : 8589934592 ≤ fu) (r0 : z_M) (c0 : z_CI r0) (a0 : Int) (a1 : Int) (b0 : -2147483648 ≤ a0 ∧ a0 ≤ 2147483647) (b1 : -2147483648 ≤ a1 ∧ a1 ≤ 2147483647) : z_T (fX12_less fu r0 a0 a1) (P_X12_less r0 a0 a1) := by
  refine T_of (fX12_less.eq_1 ..) ?_
  refine T_ite (fun h1 => ?_) (fun h1 => ?_)
  · exact sj_X12_less_J10 hfu r0 r0 c0 z_Fr.rf a1 a0 a1 (by omega) (by omega)
  · exact sj_X12_less_J10 hfu r0 r0 c0 z_Fr.rf a0 a0 a1 (by omega) (by omega)
abbrev R_X12_more (a b : Int) : Prop := False
abbrev P_X12_more (r0 : z_M) (a0 : Int) (a1 : Int) : z_V → z_M → Prop := fun v s' => z_CI s' ∧ z_Fr R_X12_more r0 s' ∧ (∃ x, v = vI x ∧ -2147483648 ≤ x ∧ x ≤ 2147483647 ∧ (a0 ≤ x ∧ a1 ≤ x ∧ (x = a0 ∨ x = a1)))
theorem sj_X12_more_J10 {fu : Nat} (hfu : 8589934592 ≤ fu) (r0 s : z_M) (c : z_CI s) (f : z_Fr R_X12_more r0 s) (t0 : Int) (a0 : Int) (a1 : Int) (d0 : -2147483648 ≤ t0 ∧ t0 ≤ 2147483647) (p0 : a0 ≤ t0 ∧ a1 ≤ t0 ∧ (t0 = a0 ∨ t0 = a1)) : z_T (fX12_more_J10 fu s t0) (P_X12_more r0 a0 a1) := by
  refine T_of (fX12_more_J10.eq_1 ..) ?_
  exact T_ret ⟨c, f, ⟨t0, rfl, by omega, by omega, by omega⟩⟩
theorem sf_X12_more {fu : Nat} (hfu : 8589934592 ≤ fu) (r0 : z_M) (c0 : z_CI r0) (a0 : Int) (a1 : Int) (b0 : -2147483648 ≤ a0 ∧ a0 ≤ 2147483647) (b1 : -2147483648 ≤ a1 ∧ a1 ≤ 2147483647) : z_T (fX12_more fu r0 a0 a1) (P_X12_more r0 a0 a1) := by
  refine T_of (fX12_more.eq_1 ..) ?_
  refine T_ite (fun h1 => ?_) (fun h1 => ?_)
  · exact sj_X12_more_J10 hfu r0 r0 c0 z_Fr.rf a1 a0 a1 (by omega) (by omega)
  · exact sj_X12_more_J10 hfu r0 r0 c0 z_Fr.rf a0 a0 a1 (by omega) (by omega)
abbrev R_X12_isBig (a b : Int) : Prop := False
abbrev P_X12_isBig (r0 : z_M) (a0 : Int) : z_V → z_M → Prop := fun v s' => z_CI s' ∧ z_Fr R_X12_isBig r0 s' ∧ (∃ x, v = vI x ∧ 0 ≤ x ∧ x ≤ 1 ∧ ((x = 1 ∧ 65 ≤ a0 ∧ a0 ≤ 90) ∨ x = 0))
theorem sj_X12_isBig_J17 {fu : Nat} (hfu : 8589934592 ≤ fu) (r0 s : z_M) (c : z_CI s) (f : z_Fr R_X12_isBig r0 s) (t0 : Int) (a0 : Int) (d0 : 0 ≤ t0 ∧ t0 ≤ 1) (p0 : (t0 = 1 ∧ 65 ≤ a0 ∧ a0 ≤ 90) ∨ t0 = 0) : z_T (fX12_isBig_J17 fu s t0) (P_X12_isBig r0 a0) := by
  refine T_of (fX12_isBig_J17.eq_1 ..) ?_
  refine T_if1 (by unfold z_bl; omega) ?_
  exact T_ret ⟨c, f, ⟨t0, rfl, by omega, by omega, by omega⟩⟩
theorem sj_X12_isBig_J16 {fu : Nat} (hfu : 8589934592 ≤ fu) (r0 s : z_M) (c : z_CI s) (f : z_Fr R_X12_isBig r0 s) (a0 : Int) : z_T (fX12_isBig_J16 fu s) (P_X12_isBig r0 a0) := by
  refine T_of (fX12_isBig_J16.eq_1 ..) ?_
  exact sj_X12_isBig_J17 hfu r0 s c f 0 a0 (by omega) (by omega)
theorem sf_X12_isBig {fu : Nat} (hfu : 8589934592 ≤ fu) (r0 : z_M) (c0 : z_CI r0) (a0 : Int) (b0 : -2147483648 ≤ a0 ∧ a0 ≤ 2147483647) : z_T (fX12_isBig fu r0 a0) (P_X12_isBig r0 a0) := by
  refine T_of (fX12_isBig.eq_1 ..) ?_
  refine T_ite (fun h1 => ?_) (fun h1 => ?_)
  · exact sj_X12_isBig_J16 hfu r0 r0 c0 z_Fr.rf a0
  · refine T_ite (fun h2 => ?_) (fun h2 => ?_)
    · exact sj_X12_isBig_J16 hfu r0 r0 c0 z_Fr.rf a0
    · exact sj_X12_isBig_J17 hfu r0 r0 c0 z_Fr.rf 1 a0 (by omega) (by omega)
abbrev R_X12_isSmall (a b : Int) : Prop := False
abbrev P_X12_isSmall (r0 : z_M) (a0 : Int) : z_V → z_M → Prop := fun v s' => z_CI s' ∧ z_Fr R_X12_isSmall r0 s' ∧ (∃ x, v = vI x ∧ 0 ≤ x ∧ x ≤ 1 ∧ ((x = 1 ∧ 97 ≤ a0 ∧ a0 ≤ 122) ∨ x = 0))
theorem sj_X12_isSmall_J17 {fu : Nat} (hfu : 8589934592 ≤ fu) (r0 s : z_M) (c : z_CI s) (f : z_Fr R_X12_isSmall r0 s) (t0 : Int) (a0 : Int) (d0 : 0 ≤ t0 ∧ t0 ≤ 1) (p0 : (t0 = 1 ∧ 97 ≤ a0 ∧ a0 ≤ 122) ∨ t0 = 0) : z_T (fX12_isSmall_J17 fu s t0) (P_X12_isSmall r0 a0) := by
  refine T_of (fX12_isSmall_J17.eq_1 ..) ?_
  refine T_if1 (by unfold z_bl; omega) ?_
  exact T_ret ⟨c, f, ⟨t0, rfl, by omega, by omega, by omega⟩⟩
theorem sj_X12_isSmall_J16 {fu : Nat} (hfu : 8589934592 ≤ fu) (r0 s : z_M) (c : z_CI s) (f : z_Fr R_X12_isSmall r0 s) (a0 : Int) : z_T (fX12_isSmall_J16 fu s) (P_X12_isSmall r0 a0) := by
  refine T_of (fX12_isSmall_J16.eq_1 ..) ?_
  exact sj_X12_isSmall_J17 hfu r0 s c f 0 a0 (by omega) (by omega)
theorem sf_X12_isSmall {fu : Nat} (hfu : 8589934592 ≤ fu) (r0 : z_M) (c0 : z_CI r0) (a0 : Int) (b0 : -2147483648 ≤ a0 ∧ a0 ≤ 2147483647) : z_T (fX12_isSmall fu r0 a0) (P_X12_isSmall r0 a0) := by
  refine T_of (fX12_isSmall.eq_1 ..) ?_
  refine T_ite (fun h1 => ?_) (fun h1 => ?_)
  · exact sj_X12_isSmall_J16 hfu r0 r0 c0 z_Fr.rf a0
  · refine T_ite (fun h2 => ?_) (fun h2 => ?_)
    · exact sj_X12_isSmall_J16 hfu r0 r0 c0 z_Fr.rf a0
    · exact sj_X12_isSmall_J17 hfu r0 r0 c0 z_Fr.rf 1 a0 (by omega) (by omega)
abbrev R_X12_plainKind (a b : Int) : Prop := False
abbrev P_X12_plainKind (r0 : z_M) : z_V → z_M → Prop := fun v s' => z_CI s' ∧ z_Fr R_X12_plainKind r0 s' ∧ (∃ x, v = vI x ∧ -2147483648 ≤ x ∧ x ≤ 2147483647)
theorem sj_X12_plainKind_J80 {fu : Nat} (hfu : 8589934592 ≤ fu) (r0 s : z_M) (c : z_CI s) (f : z_Fr R_X12_plainKind r0 s) (t0 : Int) (d0 : (-1) ≤ t0 ∧ t0 ≤ 6) : z_T (fX12_plainKind_J80 fu s t0) (P_X12_plainKind r0) := by
  refine T_of (fX12_plainKind_J80.eq_1 ..) ?_
  exact T_ret ⟨c, f, ⟨t0, rfl, by omega, by omega⟩⟩
theorem sj_X12_plainKind_J44 {fu : Nat} (hfu : 8589934592 ≤ fu) (r0 s : z_M) (c : z_CI s) (f : z_Fr R_X12_plainKind r0 s) : z_T (fX12_plainKind_J44 fu s) (P_X12_plainKind r0) := by
  refine T_of (fX12_plainKind_J44.eq_1 ..) ?_
  exact sj_X12_plainKind_J80 hfu r0 s c f 3 (by omega)
theorem sj_X12_plainKind_J32 {fu : Nat} (hfu : 8589934592 ≤ fu) (r0 s : z_M) (c : z_CI s) (f : z_Fr R_X12_plainKind r0 s) (a0 : Int) (b0 : -2147483648 ≤ a0 ∧ a0 ≤ 2147483647) : z_T (fX12_plainKind_J32 fu s a0) (P_X12_plainKind r0) := by
  refine T_of (fX12_plainKind_J32.eq_1 ..) ?_
  refine T_ite (fun h1 => ?_) (fun h1 => ?_)
  · exact sj_X12_plainKind_J44 hfu r0 s c f
  · refine T_ite (fun h2 => ?_) (fun h2 => ?_)
    · refine T_ite (fun h3 => ?_) (fun h3 => ?_)
      · refine T_ite (fun h4 => ?_) (fun h4 => ?_)
        · refine T_ite (fun h5 => ?_) (fun h5 => ?_)
          · exact sj_X12_plainKind_J80 hfu r0 s c f (-1) (by omega)
          · exact sj_X12_plainKind_J80 hfu r0 s c f 6 (by omega)
        · exact sj_X12_plainKind_J80 hfu r0 s c f 5 (by omega)
      · exact sj_X12_plainKind_J80 hfu r0 s c f 4 (by omega)
    · exact sj_X12_plainKind_J44 hfu r0 s c f
theorem sf_X12_plainKind {fu : Nat} (hfu : 8589934592 ≤ fu) (r0 : z_M) (c0 : z_CI r0) (a0 : Int) (b0 : -2147483648 ≤ a0 ∧ a0 ≤ 2147483647) : z_T (fX12_plainKind fu r0 a0) (P_X12_plainKind r0) := by
  refine T_of (fX12_plainKind.eq_1 ..) ?_
  refine T_useI (sf_X12_isBig hfu r0 c0 a0 (by omega)) (fun v6 s1 hq => ?_)
  obtain ⟨c2, f3, ⟨x5, rfl, b7, b8, o9⟩⟩ := hq
  refine T_vI ?_
  have f4 := z_Fr.tr (R := R_X12_plainKind) z_Fr.rf f3 (fun a b h => absurd h not_false)
  refine T_ite (fun h10 => ?_) (fun h10 => ?_)
  · refine T_useI (sf_X12_isSmall hfu s1 c2 a0 (by omega)) (fun v16 s11 hq => ?_)
    obtain ⟨c12, f13, ⟨x15, rfl, b17, b18, o19⟩⟩ := hq
    refine T_vI ?_
    have f14 := z_Fr.tr (R := R_X12_plainKind) f4 f13 (fun a b h => absurd h not_false)
    refine T_ite (fun h20 => ?_) (fun h20 => ?_)
    · refine T_ite (fun h21 => ?_) (fun h21 => ?_)
      · exact sj_X12_plainKind_J32 hfu r0 s11 c12 f14 a0 (by omega)
      · refine T_ite (fun h22 => ?_) (fun h22 => ?_)
        · exact sj_X12_plainKind_J32 hfu r0 s11 c12 f14 a0 (by omega)
        · exact T_ret ⟨c12, f14, ⟨2, rfl, by omega, by omega⟩⟩
    · exact T_ret ⟨c12, f14, ⟨1, rfl, by omega, by omega⟩⟩
  · exact T_ret ⟨c2, f4, ⟨0, rfl, by omega, by omega⟩⟩
abbrev R_X12_wide (a b : Int) : Prop := False
abbrev P_X12_wide (r0 : z_M) : z_V → z_M → Prop := fun v s' => z_CI s' ∧ z_Fr R_X12_wide r0 s' ∧ (∃ x, v = vI x ∧ -2147483648 ≤ x ∧ x ≤ 2147483647)
theorem sj_X12_wide_J41 {fu : Nat} (hfu : 8589934592 ≤ fu) (r0 s : z_M) (c : z_CI s) (f : z_Fr R_X12_wide r0 s) (t0 : Int) (d0 : 4 ≤ t0 ∧ t0 ≤ 9) : z_T (fX12_wide_J41 fu s t0) (P_X12_wide r0) := by
  refine T_of (fX12_wide_J41.eq_1 ..) ?_
  exact T_ret ⟨c, f, ⟨t0, rfl, by omega, by omega⟩⟩
theorem sj_X12_wide_J18 {fu : Nat} (hfu : 8589934592 ≤ fu) (r0 s : z_M) (c : z_CI s) (f : z_Fr R_X12_wide r0 s) : z_T (fX12_wide_J18 fu s) (P_X12_wide r0) := by
  refine T_of (fX12_wide_J18.eq_1 ..) ?_
  exact sj_X12_wide_J41 hfu r0 s c f 4 (by omega)
theorem sj_X12_wide_J34 {fu : Nat} (hfu : 8589934592 ≤ fu) (r0 s : z_M) (c : z_CI s) (f : z_Fr R_X12_wide r0 s) : z_T (fX12_wide_J34 fu s) (P_X12_wide r0) := by
  refine T_of (fX12_wide_J34.eq_1 ..) ?_
  exact sj_X12_wide_J41 hfu r0 s c f 9 (by omega)
theorem sf_X12_wide {fu : Nat} (hfu : 8589934592 ≤ fu) (r0 : z_M) (c0 : z_CI r0) (a0 : Int) (b0 : -2147483648 ≤ a0 ∧ a0 ≤ 2147483647) : z_T (fX12_wide fu r0 a0) (P_X12_wide r0) := by
  refine T_of (fX12_wide.eq_1 ..) ?_
  refine T_ite (fun h1 => ?_) (fun h1 => ?_)
  · exact sj_X12_wide_J18 hfu r0 r0 c0 z_Fr.rf
  · refine T_ite (fun h2 => ?_) (fun h2 => ?_)
    · exact sj_X12_wide_J18 hfu r0 r0 c0 z_Fr.rf
    · refine T_ite (fun h3 => ?_) (fun h3 => ?_)
      · refine T_ite (fun h4 => ?_) (fun h4 => ?_)
        · exact sj_X12_wide_J34 hfu r0 r0 c0 z_Fr.rf
        · refine T_ite (fun h5 => ?_) (fun h5 => ?_)
          · exact sj_X12_wide_J41 hfu r0 r0 c0 z_Fr.rf 6 (by omega)
          · exact sj_X12_wide_J34 hfu r0 r0 c0 z_Fr.rf
      · exact sj_X12_wide_J18 hfu r0 r0 c0 z_Fr.rf
abbrev R_X12_bad_309 (a b : Int) : Prop := (310 ≤ a ∧ a ≤ 310) ∨ (a = 309 ∧ (b = 0))
abbrev P_X12_bad_309 (r0 : z_M) (a1 : Int) : z_V → z_M → Prop := fun v s' => z_CI s' ∧ z_Fr R_X12_bad_309 r0 s' ∧ (∃ x, v = vI x ∧ 0 ≤ x ∧ x ≤ 1 ∧ (x = 1 ∨ a1 = 0))
theorem sj_X12_bad_309_J38 {fu : Nat} (hfu : 8589934592 ≤ fu) (r0 s : z_M) (c : z_CI s) (f : z_Fr R_X12_bad_309 r0 s) (t0 : Int) (a1 : Int) (d0 : 0 ≤ t0 ∧ t0 ≤ 1) (p0 : t0 = 1 ∨ a1 = 0) : z_T (fX12_bad_J38 fu s t0) (P_X12_bad_309 r0 a1) := by
  refine T_of (fX12_bad_J38.eq_1 ..) ?_
  have u1 := CI_b c (k := 309) (j := 0) bd_309_0
  refine T_if1 (by unfold z_bl; omega) ?_
  exact T_ret ⟨c, f, ⟨t0, rfl, by omega, by omega, by omega⟩⟩
theorem sj_X12_bad_309_J26 {fu : Nat} (hfu : 8589934592 ≤ fu) (r0 s : z_M) (c : z_CI s) (f : z_Fr R_X12_bad_309 r0 s) (a1 : Int) (p0 : a1 = 0 ∨ s 309 0 ≠ 0) : z_T (fX12_bad_J26 fu s 309) (P_X12_bad_309 r0 a1) := by
  refine T_of (fX12_bad_J26.eq_1 ..) ?_
  have u1 := CI_b c (k := 309) (j := 0) bd_309_0
  refine T_if1 (by decide +kernel) ?_
  refine T_leq (fun x2 e3 => ?_)
  have u4 := CI_b c (k := 309) (j := 0) bd_309_0
  refine T_ite (fun h5 => ?_) (fun h5 => ?_)
  · exact sj_X12_bad_309_J38 hfu r0 s c f 0 a1 (by omega) (by omega)
  · exact sj_X12_bad_309_J38 hfu r0 s c f 1 a1 (by omega) (by omega)
theorem sf_X12_bad_309 {fu : Nat} (hfu : 8589934592 ≤ fu) (r0 : z_M) (c0 : z_CI r0) (a1 : Int) (a2 : Int) (a3 : Int) (b1 : 0 ≤ a1 ∧ a1 ≤ 1) (b2 : -2147483648 ≤ a2 ∧ a2 ≤ 2147483647) (b3 : 0 ≤ a3 ∧ a3 ≤ 1) (p0 : a2 ≠ 0) : z_T (fX12_bad fu r0 309 a1 a2 a3) (P_X12_bad_309 r0 a1) := by
  refine T_of (fX12_bad.eq_1 ..) ?_
  refine T_ite (fun h1 => ?_) (fun h1 => ?_)
  · exact sj_X12_bad_309_J26 hfu r0 r0 c0 z_Fr.rf a1 (by omega)
  · refine T_if1 (by decide +kernel) ?_
    refine T_leq (fun x2 e3 => ?_)
    have u4 := CI_b c0 (k := 309) (j := 0) bd_309_0
    refine T_ite (fun h5 => ?_) (fun h5 => ?_)
    · exact sj_X12_bad_309_J26 hfu r0 r0 c0 z_Fr.rf a1 (by omega)
    · refine T_if1 (by decide +kernel) ?_
      refine T_upg c0 bd_309_0 (by omega) (fun s6 c7 g9 g10 e11 => ?_)
      have f8 := z_Fr.upf (R := R_X12_bad_309) z_Fr.rf g9 g10 (Or.inr (⟨rfl, by decide⟩))
      refine T_if1 (by decide +kernel) ?_
      refine T_let 310 (by decide +kernel) ?_
      refine T_if1 (z_ixl (n := 2) (by decide +kernel) (by omega) (by omega)) ?_
      refine T_leq (fun x12 e13 => ?_)
      have u14 := CI_b c7 (bdr_310 a3)
      refine T_leq (fun x15 e16 => ?_)
      have w17 := z_wr e16
      refine T_if1 (z_ixl (n := 2) (by decide +kernel) (by omega) (by omega)) ?_
      refine T_upg c7 (bdr_310 a3) (by omega) (fun s18 c19 g21 g22 e23 => ?_)
      have f20 := z_Fr.up (R := R_X12_bad_309) f8 g21 (fun _ => (Or.inl (⟨by decide, by decide⟩)))
      have t24 : s18 309 0 = s6 309 0 := g21 309 0 (by omega)
      exact sj_X12_bad_309_J26 hfu r0 s18 c19 f20 a1 (by omega)
abbrev R_X12_fine_309 (a b : Int) : Prop := False
abbrev P_X12_fine_309 (r0 : z_M) : z_V → z_M → Prop := fun v s' => z_CI s' ∧ z_Fr R_X12_fine_309 r0 s' ∧ (∃ x, v = vI x ∧ 0 ≤ x ∧ x ≤ 1 ∧ ((x = 1 ∧ r0 309 6 = 0) ∨ (x = 0 ∧ r0 309 6 ≠ 0)))
theorem sj_X12_fine_309_J12 {fu : Nat} (hfu : 8589934592 ≤ fu) (r0 s : z_M) (c : z_CI s) (f : z_Fr R_X12_fine_309 r0 s) (t0 : Int) (d0 : 0 ≤ t0 ∧ t0 ≤ 1) (p0 : (t0 = 1 ∧ s 309 6 = 0) ∨ (t0 = 0 ∧ s 309 6 ≠ 0)) : z_T (fX12_fine_J12 fu s t0) (P_X12_fine_309 r0) := by
  refine T_of (fX12_fine_J12.eq_1 ..) ?_
  have u1 := CI_b c (k := 309) (j := 6) bd_309_6
  have t2 : s 309 6 = r0 309 6 := f 309 6 (by exact not_false)
  refine T_if1 (by unfold z_bl; omega) ?_
  exact T_ret ⟨c, f, ⟨t0, rfl, by omega, by omega, by omega⟩⟩
theorem sf_X12_fine_309 {fu : Nat} (hfu : 8589934592 ≤ fu) (r0 : z_M) (c0 : z_CI r0) : z_T (fX12_fine fu r0 309) (P_X12_fine_309 r0) := by
  refine T_of (fX12_fine.eq_1 ..) ?_
  refine T_if1 (by decide +kernel) ?_
  refine T_leq (fun x1 e2 => ?_)
  have u3 := CI_b c0 (k := 309) (j := 6) bd_309_6
  refine T_ite (fun h4 => ?_) (fun h4 => ?_)
  · exact sj_X12_fine_309_J12 hfu r0 r0 c0 z_Fr.rf 0 (by omega) (by omega)
  · exact sj_X12_fine_309_J12 hfu r0 r0 c0 z_Fr.rf 1 (by omega) (by omega)
abbrev R_X12_here_309 (a b : Int) : Prop := False
abbrev P_X12_here_309 (r0 : z_M) : z_V → z_M → Prop := fun v s' => z_CI s' ∧ z_Fr R_X12_here_309 r0 s' ∧ (∃ x, v = vI x ∧ -2147483648 ≤ x ∧ x ≤ 2147483647 ∧ (x = -1 ∨ r0 309 4 < r0 309 3))
theorem sj_X12_here_309_J24 {fu : Nat} (hfu : 8589934592 ≤ fu) (r0 s : z_M) (c : z_CI s) (f : z_Fr R_X12_here_309 r0 s) (t0 : Int) (d0 : -2147483648 ≤ t0 ∧ t0 ≤ 2147483647) (p0 : t0 = -1 ∨ s 309 4 < s 309 3) : z_T (fX12_here_J24 fu s t0) (P_X12_here_309 r0) := by
  refine T_of (fX12_here_J24.eq_1 ..) ?_
  have u1 := CI_b c (k := 309) (j := 3) bd_309_3
  have u2 := CI_b c (k := 309) (j := 4) bd_309_4
  have t3 : s 309 3 = r0 309 3 := f 309 3 (by exact not_false)
  have t4 : s 309 4 = r0 309 4 := f 309 4 (by exact not_false)
  exact T_ret ⟨c, f, ⟨t0, rfl, by omega, by omega, by omega⟩⟩
theorem sf_X12_here_309 {fu : Nat} (hfu : 8589934592 ≤ fu) (r0 : z_M) (c0 : z_CI r0) : z_T (fX12_here fu r0 309) (P_X12_here_309 r0) := by
  refine T_of (fX12_here.eq_1 ..) ?_
  refine T_if1 (by decide +kernel) ?_
  refine T_leq (fun x1 e2 => ?_)
  have u3 := CI_b c0 (k := 309) (j := 4) bd_309_4
  refine T_if1 (by decide +kernel) ?_
  refine T_leq (fun x4 e5 => ?_)
  have u6 := CI_b c0 (k := 309) (j := 3) bd_309_3
  refine T_ite (fun h7 => ?_) (fun h7 => ?_)
  · refine T_if1 (by decide +kernel) ?_
    refine T_let 311 (by decide +kernel) ?_
    refine T_if1 (by decide +kernel) ?_
    refine T_leq (fun x8 e9 => ?_)
    have u10 := CI_b c0 (k := 309) (j := 4) bd_309_4
    refine T_if1 (z_ixl (n := 300) (by decide +kernel) (by omega) (by omega)) ?_
    refine T_leq (fun x11 e12 => ?_)
    have u13 := CI_b c0 (bdr_311 x8)
    exact sj_X12_here_309_J24 hfu r0 r0 c0 z_Fr.rf x11 (by omega) (by omega)
  · exact sj_X12_here_309_J24 hfu r0 r0 c0 z_Fr.rf (-1) (by omega) (by omega)
abbrev R_X12_wrong_309 (a b : Int) : Prop := (a = 309 ∧ (b = 6 ∨ b = 7))
abbrev P_X12_wrong_309 (r0 : z_M) : z_V → z_M → Prop := fun v s' => z_CI s' ∧ z_Fr R_X12_wrong_309 r0 s' ∧ (s' 309 6 ≠ 0) ∧ (v = vN)
theorem sj_X12_wrong_309_J17 {fu : Nat} (hfu : 8589934592 ≤ fu) (r0 s : z_M) (c : z_CI s) (f : z_Fr R_X12_wrong_309 r0 s) (p0 : s 309 6 ≠ 0) : z_T (fX12_wrong_J17 fu s) (P_X12_wrong_309 r0) := by
  refine T_of (fX12_wrong_J17.eq_1 ..) ?_
  have u1 := CI_b c (k := 309) (j := 6) bd_309_6
  exact T_ret ⟨c, f, by omega, rfl⟩
theorem sf_X12_wrong_309 {fu : Nat} (hfu : 8589934592 ≤ fu) (r0 : z_M) (c0 : z_CI r0) (a1 : Int) (a2 : Int) (b1 : -2147483648 ≤ a1 ∧ a1 ≤ 2147483647) (b2 : -2147483648 ≤ a2 ∧ a2 ≤ 2147483647) (p0 : a1 ≠ 0) : z_T (fX12_wrong fu r0 309 a1 a2) (P_X12_wrong_309 r0) := by
  refine T_of (fX12_wrong.eq_1 ..) ?_
  refine T_if1 (by decide +kernel) ?_
  refine T_leq (fun x1 e2 => ?_)
  have u3 := CI_b c0 (k := 309) (j := 6) bd_309_6
  refine T_ite (fun h4 => ?_) (fun h4 => ?_)
  · exact sj_X12_wrong_309_J17 hfu r0 r0 c0 z_Fr.rf (by omega)
  · refine T_if1 (by decide +kernel) ?_
    refine T_upg c0 bd_309_6 (by omega) (fun s5 c6 g8 g9 e10 => ?_)
    have f7 := z_Fr.upf (R := R_X12_wrong_309) z_Fr.rf g8 g9 (⟨rfl, by decide⟩)
    refine T_if1 (by decide +kernel) ?_
    refine T_upg c6 bd_309_7 (by omega) (fun s11 c12 g14 g15 e16 => ?_)
    have f13 := z_Fr.upf (R := R_X12_wrong_309) f7 g14 g15 (⟨rfl, by decide⟩)
    have t17 : s11 309 6 = s5 309 6 := g15 6 (by decide)
    exact sj_X12_wrong_309_J17 hfu r0 s11 c12 f13 (by omega)
abbrev R_X12_fault_309 (a b : Int) : Prop := (a = 309 ∧ (b = 0))
abbrev P_X12_fault_309 (r0 : z_M) : z_V → z_M → Prop := fun v s' => z_CI s' ∧ z_Fr R_X12_fault_309 r0 s' ∧ (∃ x, v = vI x ∧ -2147483648 ≤ x ∧ x ≤ 2147483647)
theorem sf_X12_fault_309 {fu : Nat} (hfu : 8589934592 ≤ fu) (r0 : z_M) (c0 : z_CI r0) : z_T (fX12_fault fu r0 309) (P_X12_fault_309 r0) := by
  refine T_of (fX12_fault.eq_1 ..) ?_
  refine T_if1 (by decide +kernel) ?_
  refine T_upg c0 bd_309_0 (by omega) (fun s1 c2 g4 g5 e6 => ?_)
  have f3 := z_Fr.upf (R := R_X12_fault_309) z_Fr.rf g4 g5 (⟨rfl, by decide⟩)
  have t7 : s1 309 5 = r0 309 5 := g5 5 (by decide)
  refine T_if1 (by decide +kernel) ?_
  refine T_leq (fun x8 e9 => ?_)
  have u10 := CI_b c2 (k := 309) (j := 5) bd_309_5
  exact T_ret ⟨c2, f3, ⟨x8, rfl, by omega, by omega⟩⟩
abbrev R_X12_status_309 (a b : Int) : Prop := (a = 309 ∧ (b = 0))
abbrev P_X12_status_309 (r0 : z_M) : z_V → z_M → Prop := fun v s' => z_CI s' ∧ z_Fr R_X12_status_309 r0 s' ∧ (∃ x, v = vI x ∧ -2147483648 ≤ x ∧ x ≤ 2147483647)
theorem sj_X12_status_309_J24 {fu : Nat} (hfu : 8589934592 ≤ fu) (r0 s : z_M) (c : z_CI s) (f : z_Fr R_X12_status_309 r0 s) (t0 : Int) (d0 : -2147483648 ≤ t0 ∧ t0 ≤ 2147483647) : z_T (fX12_status_J24 fu s t0) (P_X12_status_309 r0) := by
  refine T_of (fX12_status_J24.eq_1 ..) ?_
  exact T_ret ⟨c, f, ⟨t0, rfl, by omega, by omega⟩⟩
theorem sf_X12_status_309 {fu : Nat} (hfu : 8589934592 ≤ fu) (r0 : z_M) (c0 : z_CI r0) (a1 : Int) (b1 : -2147483648 ≤ a1 ∧ a1 ≤ 2147483647) : z_T (fX12_status fu r0 309 a1) (P_X12_status_309 r0) := by
  refine T_of (fX12_status.eq_1 ..) ?_
  refine T_if1 (by decide +kernel) ?_
  refine T_upg c0 bd_309_0 (by omega) (fun s1 c2 g4 g5 e6 => ?_)
  have f3 := z_Fr.upf (R := R_X12_status_309) z_Fr.rf g4 g5 (⟨rfl, by decide⟩)
  refine T_useI (sf_X12_in hfu s1 c2 a1 0 1 (by omega) (by omega) (by omega)) (fun v12 s7 hq => ?_)
  obtain ⟨c8, f9, ⟨x11, rfl, b13, b14, o15⟩⟩ := hq
  refine T_vI ?_
  have f10 := z_Fr.tr (R := R_X12_status_309) f3 f9 (fun a b h => absurd h not_false)
  refine T_ite (fun h16 => ?_) (fun h16 => ?_)
  · exact sj_X12_status_309_J24 hfu r0 s7 c8 f10 (-1) (by omega)
  · refine T_if1 (by decide +kernel) ?_
    refine T_let 310 (by decide +kernel) ?_
    refine T_if1 (z_ixl (n := 2) (by decide +kernel) (by omega) (by omega)) ?_
    refine T_leq (fun x17 e18 => ?_)
    have u19 := CI_b c8 (bdr_310 a1)
    exact sj_X12_status_309_J24 hfu r0 s7 c8 f10 x17 (by omega)
abbrev R_X12_feed_309 (a b : Int) : Prop := (311 ≤ a ∧ a ≤ 311) ∨ (a = 309 ∧ (b = 0 ∨ b = 2))
abbrev P_X12_feed_309 (r0 : z_M) : z_V → z_M → Prop := fun v s' => z_CI s' ∧ z_Fr R_X12_feed_309 r0 s' ∧ ((r0 309 2 ≤ 280 ∧ s' 309 2 = r0 309 2 + 20) ∨ (280 < r0 309 2 ∧ s' 309 2 = r0 309 2)) ∧ (∃ x, v = vI x ∧ -2147483648 ≤ x ∧ x ≤ 2147483647)
theorem sj_X12_feed_309_J76 {fu : Nat} (hfu : 8589934592 ≤ fu) (r0 s : z_M) (c : z_CI s) (f : z_Fr R_X12_feed_309 r0 s) (a1 : Int) (a2 : Int) (a3 : Int) (a4 : Int) (a5 : Int) (a6 : Int) (t0 : Int) (b1 : -2147483648 ≤ a1 ∧ a1 ≤ 2147483647) (b2 : -2147483648 ≤ a2 ∧ a2 ≤ 2147483647) (b3 : -2147483648 ≤ a3 ∧ a3 ≤ 2147483647) (b4 : -2147483648 ≤ a4 ∧ a4 ≤ 2147483647) (b5 : -2147483648 ≤ a5 ∧ a5 ≤ 2147483647) (b6 : 0 ≤ a6 ∧ a6 ≤ 19) (d0 : -2147483648 ≤ t0 ∧ t0 ≤ 2147483647) (p0 : s 309 2 = r0 309 2 + a6) (p1 : r0 309 2 ≤ 280) (M : Int) (pm : 2147483647 - a6 ≤ M) {r : z_M → Int → z_O} {k : z_M → z_O} (hr : ∀ (s' : z_M) (v6 : Int), z_CI s' → z_Fr R_X12_feed_309 r0 s' → (0 ≤ v6 ∧ v6 ≤ 20) → (s' 309 2 = r0 309 2 + v6) → (2147483647 - v6 < M) → z_T (r s' v6) (P_X12_feed_309 r0)) (hk : ∀ (s' : z_M), z_CI s' → z_Fr R_X12_feed_309 r0 s' → (s' 309 2 = r0 309 2 + 20) → z_T (k s') (P_X12_feed_309 r0)) : z_T (fX12_feed_J76 fu s 309 a1 a2 a3 a4 a5 a6 t0 r k) (P_X12_feed_309 r0) := by
  refine T_of (fX12_feed_J76.eq_1 ..) ?_
  have u1 := CI_b c (k := 309) (j := 2) bd_309_2
  refine T_if1 (by decide +kernel) ?_
  refine T_let 311 (by decide +kernel) ?_
  refine T_if1 (by decide +kernel) ?_
  refine T_leq (fun x2 e3 => ?_)
  have u4 := CI_b c (k := 309) (j := 2) bd_309_2
  refine T_if1 (by omega) ?_
  refine T_leq (fun x5 e6 => ?_)
  have w7 := z_tmb e6 (by omega)
  refine T_leq (fun x8 e9 => ?_)
  have w10 := z_wb e9
  obtain ⟨q11, w12⟩ := z_wq e9
  refine T_leq (fun x13 e14 => ?_)
  have w15 := z_wb e14
  refine T_leq (fun x16 e17 => ?_)
  have w18 : -2147483648 ≤ x16 ∧ x16 ≤ 2147483647 := by rw [← e17]; exact z_i32b _
  refine T_leq (fun x19 e20 => ?_)
  have w21 : -2147483648 ≤ x19 ∧ x19 ≤ 2147483647 := by rw [← e20]; exact z_i32b _
  refine T_if1 (z_ixl (n := 300) (by decide +kernel) (by omega) (by omega)) ?_
  refine T_upg c (bdr_311 x2) (by omega) (fun s22 c23 g25 g26 e27 => ?_)
  have f24 := z_Fr.up (R := R_X12_feed_309) f g25 (fun _ => (Or.inl (⟨by decide, by decide⟩)))
  have t28 : s22 309 2 = s 309 2 := g25 309 2 (by omega)
  refine T_if1 (by decide +kernel) ?_
  refine T_leq (fun x29 e30 => ?_)
  have u31 := CI_b c23 (k := 309) (j := 2) bd_309_2
  refine T_leq (fun x32 e33 => ?_)
  have w34 := z_wb e33
  refine T_if1 (by decide +kernel) ?_
  refine T_upg c23 bd_309_2 (by omega) (fun s35 c36 g38 g39 e40 => ?_)
  have f37 := z_Fr.upf (R := R_X12_feed_309) f24 g38 g39 (Or.inr (⟨rfl, by decide⟩))
  refine T_leq (fun x41 e42 => ?_)
  have w43 := z_wb e42
  exact hr s35 x41 c36 f37 (by omega) (by omega) (by omega)
theorem sl_X12_feed_309_L23 {fu : Nat} (hfu : 8589934592 ≤ fu) (r0 : z_M) (a1 : Int) (a2 : Int) (a3 : Int) (a4 : Int) (a5 : Int) (b1 : -2147483648 ≤ a1 ∧ a1 ≤ 2147483647) (b2 : -2147483648 ≤ a2 ∧ a2 ≤ 2147483647) (b3 : -2147483648 ≤ a3 ∧ a3 ≤ 2147483647) (b4 : -2147483648 ≤ a4 ∧ a4 ≤ 2147483647) (b5 : -2147483648 ≤ a5 ∧ a5 ≤ 2147483647) (q0 : r0 309 2 ≤ 280) {k : z_M → z_O} (hk : ∀ (s' : z_M), z_CI s' → z_Fr R_X12_feed_309 r0 s' → (s' 309 2 = r0 309 2 + 20) → z_T (k s') (P_X12_feed_309 r0)) : ∀ (F : Nat) (s : z_M) (a6 : Int), z_CI s → z_Fr R_X12_feed_309 r0 s → (0 ≤ a6 ∧ a6 ≤ 20) → (s 309 2 = r0 309 2 + a6) → (2147483647 - a6 < (F : Int)) → z_T (fX12_feed_L23 fu 309 a1 a2 a3 a4 a5 F s a6 k) (P_X12_feed_309 r0) := by
  intro F
  induction F with
  | zero =>
    intro s a6 c f b6 i0 hm
    have u7 := CI_b c (k := 309) (j := 2) bd_309_2
    exfalso; omega
  | succ F ih =>
    intro s a6 c f b6 i0 hm
    refine T_of (fX12_feed_L23.eq_2 ..) ?_
    have u1 := CI_b c (k := 309) (j := 2) bd_309_2
    refine T_ite (fun h2 => ?_) (fun h2 => ?_)
    · exact hk s c f (by omega)
    · refine T_ite (fun h3 => ?_) (fun h3 => ?_)
      · refine T_ite (fun h4 => ?_) (fun h4 => ?_)
        · refine T_ite (fun h5 => ?_) (fun h5 => ?_)
          · refine T_ite (fun h6 => ?_) (fun h6 => ?_)
            · exact sj_X12_feed_309_J76 hfu r0 s c f a1 a2 a3 a4 a5 a6 a5 (by omega) (by omega) (by omega) (by omega) (by omega) (by omega) (by omega) (by omega) (by omega) (2147483647 - a6) (by omega) (fun s' v6 c' f' w6 z0 pg => ih s' v6 c' f' w6 z0 (by omega)) hk
            · exact sj_X12_feed_309_J76 hfu r0 s c f a1 a2 a3 a4 a5 a6 a4 (by omega) (by omega) (by omega) (by omega) (by omega) (by omega) (by omega) (by omega) (by omega) (2147483647 - a6) (by omega) (fun s' v6 c' f' w6 z0 pg => ih s' v6 c' f' w6 z0 (by omega)) hk
          · exact sj_X12_feed_309_J76 hfu r0 s c f a1 a2 a3 a4 a5 a6 a3 (by omega) (by omega) (by omega) (by omega) (by omega) (by omega) (by omega) (by omega) (by omega) (2147483647 - a6) (by omega) (fun s' v6 c' f' w6 z0 pg => ih s' v6 c' f' w6 z0 (by omega)) hk
        · exact sj_X12_feed_309_J76 hfu r0 s c f a1 a2 a3 a4 a5 a6 a2 (by omega) (by omega) (by omega) (by omega) (by omega) (by omega) (by omega) (by omega) (by omega) (2147483647 - a6) (by omega) (fun s' v6 c' f' w6 z0 pg => ih s' v6 c' f' w6 z0 (by omega)) hk
      · exact sj_X12_feed_309_J76 hfu r0 s c f a1 a2 a3 a4 a5 a6 a1 (by omega) (by omega) (by omega) (by omega) (by omega) (by omega) (by omega) (by omega) (by omega) (2147483647 - a6) (by omega) (fun s' v6 c' f' w6 z0 pg => ih s' v6 c' f' w6 z0 (by omega)) hk
theorem sf_X12_feed_309 {fu : Nat} (hfu : 8589934592 ≤ fu) (r0 : z_M) (c0 : z_CI r0) (a1 : Int) (a2 : Int) (a3 : Int) (a4 : Int) (a5 : Int) (b1 : -2147483648 ≤ a1 ∧ a1 ≤ 2147483647) (b2 : -2147483648 ≤ a2 ∧ a2 ≤ 2147483647) (b3 : -2147483648 ≤ a3 ∧ a3 ≤ 2147483647) (b4 : -2147483648 ≤ a4 ∧ a4 ≤ 2147483647) (b5 : -2147483648 ≤ a5 ∧ a5 ≤ 2147483647) : z_T (fX12_feed fu r0 309 a1 a2 a3 a4 a5) (P_X12_feed_309 r0) := by
  refine T_of (fX12_feed.eq_1 ..) ?_
  refine T_if1 (by decide +kernel) ?_
  refine T_upg c0 bd_309_0 (by omega) (fun s1 c2 g4 g5 e6 => ?_)
  have f3 := z_Fr.upf (R := R_X12_feed_309) z_Fr.rf g4 g5 (Or.inr (⟨rfl, by decide⟩))
  have t7 : s1 309 2 = r0 309 2 := g5 2 (by decide)
  refine T_if1 (by decide +kernel) ?_
  refine T_leq (fun x8 e9 => ?_)
  have u10 := CI_b c2 (k := 309) (j := 2) bd_309_2
  refine T_leq (fun x11 e12 => ?_)
  have w13 := z_wb e12
  refine T_ite (fun h14 => ?_) (fun h14 => ?_)
  · refine sl_X12_feed_309_L23 hfu r0 a1 a2 a3 a4 a5 (by omega) (by omega) (by omega) (by omega) (by omega) (by omega) (fun s15 c16 f17 g18 => ?_) fu s1 0 c2 f3 (by omega) (by omega) (by omega)
    have u19 := CI_b c16 (k := 309) (j := 2) bd_309_2
    refine T_if1 (by decide +kernel) ?_
    refine T_leq (fun x20 e21 => ?_)
    have u22 := CI_b c16 (k := 309) (j := 2) bd_309_2
    exact T_ret ⟨c16, f17, by omega, ⟨x20, rfl, by omega, by omega⟩⟩
  · exact T_ret ⟨c2, f3, by omega, ⟨(-1), rfl, by omega, by omega⟩⟩
abbrev R_X12_groupsOf_309 (a b : Int) : Prop := False
abbrev P_X12_groupsOf_309 (r0 : z_M) : z_V → z_M → Prop := fun v s' => z_CI s' ∧ z_Fr R_X12_groupsOf_309 r0 s' ∧ (∃ x, v = vI x ∧ -2147483648 ≤ x ∧ x ≤ 2147483647)
abbrev R_X12_isPoint_309 (a b : Int) : Prop := False
abbrev P_X12_isPoint_309 (r0 : z_M) : z_V → z_M → Prop := fun v s' => z_CI s' ∧ z_Fr R_X12_isPoint_309 r0 s' ∧ (∃ x, v = vI x ∧ 0 ≤ x ∧ x ≤ 1)
theorem sj_X12_isPoint_309_J25 {fu : Nat} (hfu : 8589934592 ≤ fu) (r0 s : z_M) (c : z_CI s) (f : z_Fr R_X12_isPoint_309 r0 s) (t0 : Int) (d0 : 0 ≤ t0 ∧ t0 ≤ 1) : z_T (fX12_isPoint_J25 fu s t0) (P_X12_isPoint_309 r0) := by
  refine T_of (fX12_isPoint_J25.eq_1 ..) ?_
  refine T_if1 (by unfold z_bl; omega) ?_
  exact T_ret ⟨c, f, ⟨t0, rfl, by omega, by omega⟩⟩
theorem sj_X12_isPoint_309_J20 {fu : Nat} (hfu : 8589934592 ≤ fu) (r0 s : z_M) (c : z_CI s) (f : z_Fr R_X12_isPoint_309 r0 s) : z_T (fX12_isPoint_J20 fu s) (P_X12_isPoint_309 r0) := by
  refine T_of (fX12_isPoint_J20.eq_1 ..) ?_
  exact sj_X12_isPoint_309_J25 hfu r0 s c f 1 (by omega)
theorem sf_X12_isPoint_309 {fu : Nat} (hfu : 8589934592 ≤ fu) (r0 : z_M) (c0 : z_CI r0) (a1 : Int) (b1 : 0 ≤ a1 ∧ a1 ≤ 199) : z_T (fX12_isPoint fu r0 309 a1) (P_X12_isPoint_309 r0) := by
  refine T_of (fX12_isPoint.eq_1 ..) ?_
  refine T_if1 (by decide +kernel) ?_
  refine T_let 3220 (by decide +kernel) ?_
  refine T_if1 (z_ixl (n := 200) (by decide +kernel) (by omega) (by omega)) ?_
  refine T_leq (fun x1 e2 => ?_)
  have u3 := CI_b c0 (bdr_3220 a1)
  refine T_ite (fun h4 => ?_) (fun h4 => ?_)
  · exact sj_X12_isPoint_309_J20 hfu r0 r0 c0 z_Fr.rf
  · refine T_if1 (by decide +kernel) ?_
    refine T_let 3220 (by decide +kernel) ?_
    refine T_if1 (z_ixl (n := 200) (by decide +kernel) (by omega) (by omega)) ?_
    refine T_leq (fun x5 e6 => ?_)
    have u7 := CI_b c0 (bdr_3220 a1)
    refine T_ite (fun h8 => ?_) (fun h8 => ?_)
    · exact sj_X12_isPoint_309_J25 hfu r0 r0 c0 z_Fr.rf 0 (by omega)
    · exact sj_X12_isPoint_309_J20 hfu r0 r0 c0 z_Fr.rf
abbrev R_X12_isUnit_309 (a b : Int) : Prop := False
abbrev P_X12_isUnit_309 (r0 : z_M) (a1 : Int) : z_V → z_M → Prop := fun v s' => z_CI s' ∧ z_Fr R_X12_isUnit_309 r0 s' ∧ (∃ x, v = vI x ∧ 0 ≤ x ∧ x ≤ 1 ∧ ((x = 1 ∧ 0 ≤ a1 ∧ a1 < r0 309 20) ∨ x = 0))
theorem sf_X12_isUnit_309 {fu : Nat} (hfu : 8589934592 ≤ fu) (r0 : z_M) (c0 : z_CI r0) (a1 : Int) (b1 : -2147483648 ≤ a1 ∧ a1 ≤ 2147483647) : z_T (fX12_isUnit fu r0 309 a1) (P_X12_isUnit_309 r0 a1) := by
  refine T_of (fX12_isUnit.eq_1 ..) ?_
  refine T_if1 (by decide +kernel) ?_
  refine T_leq (fun x1 e2 => ?_)
  have u3 := CI_b c0 (k := 309) (j := 20) bd_309_20
  refine T_leq (fun x4 e5 => ?_)
  have w6 := z_wb e5
  refine T_useI (sf_X12_in hfu r0 c0 a1 0 x4 (by omega) (by omega) (by omega)) (fun v12 s7 hq => ?_)
  obtain ⟨c8, f9, ⟨x11, rfl, b13, b14, o15⟩⟩ := hq
  refine T_vI ?_
  have f10 := z_Fr.tr (R := R_X12_isUnit_309) z_Fr.rf f9 (fun a b h => absurd h not_false)
  have t16 : s7 309 20 = r0 309 20 := f9 309 20 (by decide)
  refine T_if1 (by unfold z_bl; omega) ?_
  exact T_ret ⟨c8, f10, ⟨x11, rfl, by omega, by omega, by omega⟩⟩
