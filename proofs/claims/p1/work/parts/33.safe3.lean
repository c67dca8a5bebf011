/-! SAFETY, further (by program) -/
abbrev R_X9_copyFrom_6_139 (a : Int) : Prop := (6 ≤ a ∧ a ≤ 18)
abbrev P_X9_copyFrom_6_139 (r0 : z_M) : z_V → z_M → Prop := fun v s' => z_CI s' ∧ z_Fr R_X9_copyFrom_6_139 r0 s' ∧ (v = vN)
theorem sf_X9_copyFrom_6_139 {fu : Nat} (hfu : 8589934592 ≤ fu) (r0 : z_M) (c0 : z_CI r0) : z_T (fX9_copyFrom fu r0 6 139) (P_X9_copyFrom_6_139 r0) := by
  refine T_of (fX9_copyFrom.eq_1 ..) ?_
  refine T_if1 (by decide +kernel) ?_
  refine T_leq (fun x1 e2 => ?_)
  have u3 := CI_b c0 (k := 139) (j := 6) bd_139_6
  refine T_if1 (by decide +kernel) ?_
  refine T_upg c0 bd_6_6 (by omega) (fun s4 c5 g7 g8 e9 => ?_)
  have f6 := z_Fr.up (R := R_X9_copyFrom_6_139) z_Fr.rf g7 (by decide)
  have t10 : s4 139 6 = r0 139 6 := g7 139 6 (by decide)
  have t11 : s4 139 7 = r0 139 7 := g7 139 7 (by decide)
  have t12 : s4 139 8 = r0 139 8 := g7 139 8 (by decide)
  refine T_if1 (by decide +kernel) ?_
  refine T_leq (fun x13 e14 => ?_)
  have u15 := CI_b c5 (k := 139) (j := 7) bd_139_7
  refine T_if1 (by decide +kernel) ?_
  refine T_upg c5 bd_6_7 (by omega) (fun s16 c17 g19 g20 e21 => ?_)
  have f18 := z_Fr.up (R := R_X9_copyFrom_6_139) f6 g19 (by decide)
  have t22 : s16 6 6 = s4 6 6 := g20 6 (by decide)
  have t23 : s16 139 6 = s4 139 6 := g19 139 6 (by decide)
  have t24 : s16 139 7 = s4 139 7 := g19 139 7 (by decide)
  have t25 : s16 139 8 = s4 139 8 := g19 139 8 (by decide)
  refine T_if1 (by decide +kernel) ?_
  refine T_leq (fun x26 e27 => ?_)
  have u28 := CI_b c17 (k := 139) (j := 8) bd_139_8
  refine T_if1 (by decide +kernel) ?_
  refine T_upg c17 bd_6_8 (by omega) (fun s29 c30 g32 g33 e34 => ?_)
  have f31 := z_Fr.up (R := R_X9_copyFrom_6_139) f18 g32 (by decide)
  have t35 : s29 6 6 = s16 6 6 := g33 6 (by decide)
  have t36 : s29 139 6 = s16 139 6 := g32 139 6 (by decide)
  have t37 : s29 139 7 = s16 139 7 := g32 139 7 (by decide)
  have t38 : s29 139 8 = s16 139 8 := g32 139 8 (by decide)
  refine T_if1 (by decide +kernel) ?_
  refine T_let 7 (by decide +kernel) ?_
  refine T_if1 (by decide +kernel) ?_
  refine T_let 140 (by decide +kernel) ?_
  refine T_if1 (by decide +kernel) ?_
  refine T_leq (fun x39 e40 => ?_)
  have u41 := CI_b c30 (k := 6) (j := 6) bd_6_6
  refine T_if1 (by decide +kernel) ?_
  refine T_copy hfu (by decide +kernel) (by decide +kernel) (c := 8) (c2 := 141) (by decide +kernel) (by decide +kernel) (by decide) (by omega) bdr_8 bdr_141 (by decide) (by decide) c30 (fun s42 e45 c43 g46 => ?_)
  have f44 := z_Fr.up (R := R_X9_copyFrom_6_139) f31 g46 (by decide)
  have t47 : s42 6 6 = s29 6 6 := g46 6 6 (by decide)
  have t48 : s42 139 6 = s29 139 6 := g46 139 6 (by decide)
  have t49 : s42 139 7 = s29 139 7 := g46 139 7 (by decide)
  have t50 : s42 139 8 = s29 139 8 := g46 139 8 (by decide)
  refine T_if1 (by decide +kernel) ?_
  refine T_let 9 (by decide +kernel) ?_
  refine T_if1 (by decide +kernel) ?_
  refine T_let 142 (by decide +kernel) ?_
  refine T_if1 (by decide +kernel) ?_
  refine T_leq (fun x51 e52 => ?_)
  have u53 := CI_b c43 (k := 6) (j := 6) bd_6_6
  refine T_if1 (by decide +kernel) ?_
  refine T_copy hfu (by decide +kernel) (by decide +kernel) (c := 10) (c2 := 143) (by decide +kernel) (by decide +kernel) (by decide) (by omega) bdr_10 bdr_143 (by decide) (by decide) c43 (fun s54 e57 c55 g58 => ?_)
  have f56 := z_Fr.up (R := R_X9_copyFrom_6_139) f44 g58 (by decide)
  have t59 : s54 6 6 = s42 6 6 := g58 6 6 (by decide)
  have t60 : s54 139 6 = s42 139 6 := g58 139 6 (by decide)
  have t61 : s54 139 7 = s42 139 7 := g58 139 7 (by decide)
  have t62 : s54 139 8 = s42 139 8 := g58 139 8 (by decide)
  refine T_if1 (by decide +kernel) ?_
  refine T_let 11 (by decide +kernel) ?_
  refine T_if1 (by decide +kernel) ?_
  refine T_let 144 (by decide +kernel) ?_
  refine T_if1 (by decide +kernel) ?_
  refine T_leq (fun x63 e64 => ?_)
  have u65 := CI_b c55 (k := 6) (j := 6) bd_6_6
  refine T_if1 (by decide +kernel) ?_
  refine T_copy hfu (by decide +kernel) (by decide +kernel) (c := 12) (c2 := 145) (by decide +kernel) (by decide +kernel) (by decide) (by omega) bdr_12 bdr_145 (by decide) (by decide) c55 (fun s66 e69 c67 g70 => ?_)
  have f68 := z_Fr.up (R := R_X9_copyFrom_6_139) f56 g70 (by decide)
  have t71 : s66 6 6 = s54 6 6 := g70 6 6 (by decide)
  have t72 : s66 139 6 = s54 139 6 := g70 139 6 (by decide)
  have t73 : s66 139 7 = s54 139 7 := g70 139 7 (by decide)
  have t74 : s66 139 8 = s54 139 8 := g70 139 8 (by decide)
  refine T_if1 (by decide +kernel) ?_
  refine T_let 13 (by decide +kernel) ?_
  refine T_if1 (by decide +kernel) ?_
  refine T_let 146 (by decide +kernel) ?_
  refine T_if1 (by decide +kernel) ?_
  refine T_leq (fun x75 e76 => ?_)
  have u77 := CI_b c67 (k := 6) (j := 6) bd_6_6
  refine T_if1 (by decide +kernel) ?_
  refine T_copy hfu (by decide +kernel) (by decide +kernel) (c := 14) (c2 := 147) (by decide +kernel) (by decide +kernel) (by decide) (by omega) bdr_14 bdr_147 (by decide) (by decide) c67 (fun s78 e81 c79 g82 => ?_)
  have f80 := z_Fr.up (R := R_X9_copyFrom_6_139) f68 g82 (by decide)
  have t83 : s78 6 6 = s66 6 6 := g82 6 6 (by decide)
  have t84 : s78 139 6 = s66 139 6 := g82 139 6 (by decide)
  have t85 : s78 139 7 = s66 139 7 := g82 139 7 (by decide)
  have t86 : s78 139 8 = s66 139 8 := g82 139 8 (by decide)
  refine T_if1 (by decide +kernel) ?_
  refine T_let 15 (by decide +kernel) ?_
  refine T_if1 (by decide +kernel) ?_
  refine T_let 148 (by decide +kernel) ?_
  refine T_if1 (by decide +kernel) ?_
  refine T_leq (fun x87 e88 => ?_)
  have u89 := CI_b c79 (k := 6) (j := 6) bd_6_6
  refine T_if1 (by decide +kernel) ?_
  refine T_lcopy hfu (by decide +kernel) (by decide +kernel) (c := 16) (c2 := 149) (by decide +kernel) (by decide +kernel) (by decide) (by omega) bdr_16 bdr_149 (by decide) (by decide) c79 (fun s90 e93 c91 g94 => ?_)
  have f92 := z_Fr.up (R := R_X9_copyFrom_6_139) f80 g94 (by decide)
  have t95 : s90 6 6 = s78 6 6 := g94 6 6 (by decide)
  have t96 : s90 139 6 = s78 139 6 := g94 139 6 (by decide)
  have t97 : s90 139 7 = s78 139 7 := g94 139 7 (by decide)
  have t98 : s90 139 8 = s78 139 8 := g94 139 8 (by decide)
  refine T_if1 (by decide +kernel) ?_
  refine T_let 17 (by decide +kernel) ?_
  refine T_if1 (by decide +kernel) ?_
  refine T_let 150 (by decide +kernel) ?_
  refine T_if1 (by decide +kernel) ?_
  refine T_leq (fun x99 e100 => ?_)
  have u101 := CI_b c91 (k := 6) (j := 6) bd_6_6
  refine T_if1 (by decide +kernel) ?_
  refine T_lcopy hfu (by decide +kernel) (by decide +kernel) (c := 18) (c2 := 151) (by decide +kernel) (by decide +kernel) (by decide) (by omega) bdr_18 bdr_151 (by decide) (by decide) c91 (fun s102 e105 c103 g106 => ?_)
  have f104 := z_Fr.up (R := R_X9_copyFrom_6_139) f92 g106 (by decide)
  have t107 : s102 6 6 = s90 6 6 := g106 6 6 (by decide)
  have t108 : s102 139 6 = s90 139 6 := g106 139 6 (by decide)
  have t109 : s102 139 7 = s90 139 7 := g106 139 7 (by decide)
  have t110 : s102 139 8 = s90 139 8 := g106 139 8 (by decide)
  exact T_ret ⟨c103, f104, rfl⟩
abbrev R_X9_copyFrom_6_126 (a : Int) : Prop := (6 ≤ a ∧ a ≤ 18)
abbrev P_X9_copyFrom_6_126 (r0 : z_M) : z_V → z_M → Prop := fun v s' => z_CI s' ∧ z_Fr R_X9_copyFrom_6_126 r0 s' ∧ (v = vN)
theorem sf_X9_copyFrom_6_126 {fu : Nat} (hfu : 8589934592 ≤ fu) (r0 : z_M) (c0 : z_CI r0) : z_T (fX9_copyFrom fu r0 6 126) (P_X9_copyFrom_6_126 r0) := by
  refine T_of (fX9_copyFrom.eq_1 ..) ?_
  refine T_if1 (by decide +kernel) ?_
  refine T_leq (fun x1 e2 => ?_)
  have u3 := CI_b c0 (k := 126) (j := 6) bd_126_6
  refine T_if1 (by decide +kernel) ?_
  refine T_upg c0 bd_6_6 (by omega) (fun s4 c5 g7 g8 e9 => ?_)
  have f6 := z_Fr.up (R := R_X9_copyFrom_6_126) z_Fr.rf g7 (by decide)
  have t10 : s4 126 6 = r0 126 6 := g7 126 6 (by decide)
  have t11 : s4 126 7 = r0 126 7 := g7 126 7 (by decide)
  have t12 : s4 126 8 = r0 126 8 := g7 126 8 (by decide)
  refine T_if1 (by decide +kernel) ?_
  refine T_leq (fun x13 e14 => ?_)
  have u15 := CI_b c5 (k := 126) (j := 7) bd_126_7
  refine T_if1 (by decide +kernel) ?_
  refine T_upg c5 bd_6_7 (by omega) (fun s16 c17 g19 g20 e21 => ?_)
  have f18 := z_Fr.up (R := R_X9_copyFrom_6_126) f6 g19 (by decide)
  have t22 : s16 6 6 = s4 6 6 := g20 6 (by decide)
  have t23 : s16 126 6 = s4 126 6 := g19 126 6 (by decide)
  have t24 : s16 126 7 = s4 126 7 := g19 126 7 (by decide)
  have t25 : s16 126 8 = s4 126 8 := g19 126 8 (by decide)
  refine T_if1 (by decide +kernel) ?_
  refine T_leq (fun x26 e27 => ?_)
  have u28 := CI_b c17 (k := 126) (j := 8) bd_126_8
  refine T_if1 (by decide +kernel) ?_
  refine T_upg c17 bd_6_8 (by omega) (fun s29 c30 g32 g33 e34 => ?_)
  have f31 := z_Fr.up (R := R_X9_copyFrom_6_126) f18 g32 (by decide)
  have t35 : s29 6 6 = s16 6 6 := g33 6 (by decide)
  have t36 : s29 126 6 = s16 126 6 := g32 126 6 (by decide)
  have t37 : s29 126 7 = s16 126 7 := g32 126 7 (by decide)
  have t38 : s29 126 8 = s16 126 8 := g32 126 8 (by decide)
  refine T_if1 (by decide +kernel) ?_
  refine T_let 7 (by decide +kernel) ?_
  refine T_if1 (by decide +kernel) ?_
  refine T_let 127 (by decide +kernel) ?_
  refine T_if1 (by decide +kernel) ?_
  refine T_leq (fun x39 e40 => ?_)
  have u41 := CI_b c30 (k := 6) (j := 6) bd_6_6
  refine T_if1 (by decide +kernel) ?_
  refine T_copy hfu (by decide +kernel) (by decide +kernel) (c := 8) (c2 := 128) (by decide +kernel) (by decide +kernel) (by decide) (by omega) bdr_8 bdr_128 (by decide) (by decide) c30 (fun s42 e45 c43 g46 => ?_)
  have f44 := z_Fr.up (R := R_X9_copyFrom_6_126) f31 g46 (by decide)
  have t47 : s42 6 6 = s29 6 6 := g46 6 6 (by decide)
  have t48 : s42 126 6 = s29 126 6 := g46 126 6 (by decide)
  have t49 : s42 126 7 = s29 126 7 := g46 126 7 (by decide)
  have t50 : s42 126 8 = s29 126 8 := g46 126 8 (by decide)
  refine T_if1 (by decide +kernel) ?_
  refine T_let 9 (by decide +kernel) ?_
  refine T_if1 (by decide +kernel) ?_
  refine T_let 129 (by decide +kernel) ?_
  refine T_if1 (by decide +kernel) ?_
  refine T_leq (fun x51 e52 => ?_)
  have u53 := CI_b c43 (k := 6) (j := 6) bd_6_6
  refine T_if1 (by decide +kernel) ?_
  refine T_copy hfu (by decide +kernel) (by decide +kernel) (c := 10) (c2 := 130) (by decide +kernel) (by decide +kernel) (by decide) (by omega) bdr_10 bdr_130 (by decide) (by decide) c43 (fun s54 e57 c55 g58 => ?_)
  have f56 := z_Fr.up (R := R_X9_copyFrom_6_126) f44 g58 (by decide)
  have t59 : s54 6 6 = s42 6 6 := g58 6 6 (by decide)
  have t60 : s54 126 6 = s42 126 6 := g58 126 6 (by decide)
  have t61 : s54 126 7 = s42 126 7 := g58 126 7 (by decide)
  have t62 : s54 126 8 = s42 126 8 := g58 126 8 (by decide)
  refine T_if1 (by decide +kernel) ?_
  refine T_let 11 (by decide +kernel) ?_
  refine T_if1 (by decide +kernel) ?_
  refine T_let 131 (by decide +kernel) ?_
  refine T_if1 (by decide +kernel) ?_
  refine T_leq (fun x63 e64 => ?_)
  have u65 := CI_b c55 (k := 6) (j := 6) bd_6_6
  refine T_if1 (by decide +kernel) ?_
  refine T_copy hfu (by decide +kernel) (by decide +kernel) (c := 12) (c2 := 132) (by decide +kernel) (by decide +kernel) (by decide) (by omega) bdr_12 bdr_132 (by decide) (by decide) c55 (fun s66 e69 c67 g70 => ?_)
  have f68 := z_Fr.up (R := R_X9_copyFrom_6_126) f56 g70 (by decide)
  have t71 : s66 6 6 = s54 6 6 := g70 6 6 (by decide)
  have t72 : s66 126 6 = s54 126 6 := g70 126 6 (by decide)
  have t73 : s66 126 7 = s54 126 7 := g70 126 7 (by decide)
  have t74 : s66 126 8 = s54 126 8 := g70 126 8 (by decide)
  refine T_if1 (by decide +kernel) ?_
  refine T_let 13 (by decide +kernel) ?_
  refine T_if1 (by decide +kernel) ?_
  refine T_let 133 (by decide +kernel) ?_
  refine T_if1 (by decide +kernel) ?_
  refine T_leq (fun x75 e76 => ?_)
  have u77 := CI_b c67 (k := 6) (j := 6) bd_6_6
  refine T_if1 (by decide +kernel) ?_
  refine T_copy hfu (by decide +kernel) (by decide +kernel) (c := 14) (c2 := 134) (by decide +kernel) (by decide +kernel) (by decide) (by omega) bdr_14 bdr_134 (by decide) (by decide) c67 (fun s78 e81 c79 g82 => ?_)
  have f80 := z_Fr.up (R := R_X9_copyFrom_6_126) f68 g82 (by decide)
  have t83 : s78 6 6 = s66 6 6 := g82 6 6 (by decide)
  have t84 : s78 126 6 = s66 126 6 := g82 126 6 (by decide)
  have t85 : s78 126 7 = s66 126 7 := g82 126 7 (by decide)
  have t86 : s78 126 8 = s66 126 8 := g82 126 8 (by decide)
  refine T_if1 (by decide +kernel) ?_
  refine T_let 15 (by decide +kernel) ?_
  refine T_if1 (by decide +kernel) ?_
  refine T_let 135 (by decide +kernel) ?_
  refine T_if1 (by decide +kernel) ?_
  refine T_leq (fun x87 e88 => ?_)
  have u89 := CI_b c79 (k := 6) (j := 6) bd_6_6
  refine T_if1 (by decide +kernel) ?_
  refine T_lcopy hfu (by decide +kernel) (by decide +kernel) (c := 16) (c2 := 136) (by decide +kernel) (by decide +kernel) (by decide) (by omega) bdr_16 bdr_136 (by decide) (by decide) c79 (fun s90 e93 c91 g94 => ?_)
  have f92 := z_Fr.up (R := R_X9_copyFrom_6_126) f80 g94 (by decide)
  have t95 : s90 6 6 = s78 6 6 := g94 6 6 (by decide)
  have t96 : s90 126 6 = s78 126 6 := g94 126 6 (by decide)
  have t97 : s90 126 7 = s78 126 7 := g94 126 7 (by decide)
  have t98 : s90 126 8 = s78 126 8 := g94 126 8 (by decide)
  refine T_if1 (by decide +kernel) ?_
  refine T_let 17 (by decide +kernel) ?_
  refine T_if1 (by decide +kernel) ?_
  refine T_let 137 (by decide +kernel) ?_
  refine T_if1 (by decide +kernel) ?_
  refine T_leq (fun x99 e100 => ?_)
  have u101 := CI_b c91 (k := 6) (j := 6) bd_6_6
  refine T_if1 (by decide +kernel) ?_
  refine T_lcopy hfu (by decide +kernel) (by decide +kernel) (c := 18) (c2 := 138) (by decide +kernel) (by decide +kernel) (by decide) (by omega) bdr_18 bdr_138 (by decide) (by decide) c91 (fun s102 e105 c103 g106 => ?_)
  have f104 := z_Fr.up (R := R_X9_copyFrom_6_126) f92 g106 (by decide)
  have t107 : s102 6 6 = s90 6 6 := g106 6 6 (by decide)
  have t108 : s102 126 6 = s90 126 6 := g106 126 6 (by decide)
  have t109 : s102 126 7 = s90 126 7 := g106 126 7 (by decide)
  have t110 : s102 126 8 = s90 126 8 := g106 126 8 (by decide)
  exact T_ret ⟨c103, f104, rfl⟩
abbrev R_X9_copyFrom_6_113 (a : Int) : Prop := (6 ≤ a ∧ a ≤ 18)
abbrev P_X9_copyFrom_6_113 (r0 : z_M) : z_V → z_M → Prop := fun v s' => z_CI s' ∧ z_Fr R_X9_copyFrom_6_113 r0 s' ∧ (v = vN)
theorem sf_X9_copyFrom_6_113 {fu : Nat} (hfu : 8589934592 ≤ fu) (r0 : z_M) (c0 : z_CI r0) : z_T (fX9_copyFrom fu r0 6 113) (P_X9_copyFrom_6_113 r0) := by
  refine T_of (fX9_copyFrom.eq_1 ..) ?_
  refine T_if1 (by decide +kernel) ?_
  refine T_leq (fun x1 e2 => ?_)
  have u3 := CI_b c0 (k := 113) (j := 6) bd_113_6
  refine T_if1 (by decide +kernel) ?_
  refine T_upg c0 bd_6_6 (by omega) (fun s4 c5 g7 g8 e9 => ?_)
  have f6 := z_Fr.up (R := R_X9_copyFrom_6_113) z_Fr.rf g7 (by decide)
  have t10 : s4 113 6 = r0 113 6 := g7 113 6 (by decide)
  have t11 : s4 113 7 = r0 113 7 := g7 113 7 (by decide)
  have t12 : s4 113 8 = r0 113 8 := g7 113 8 (by decide)
  refine T_if1 (by decide +kernel) ?_
  refine T_leq (fun x13 e14 => ?_)
  have u15 := CI_b c5 (k := 113) (j := 7) bd_113_7
  refine T_if1 (by decide +kernel) ?_
  refine T_upg c5 bd_6_7 (by omega) (fun s16 c17 g19 g20 e21 => ?_)
  have f18 := z_Fr.up (R := R_X9_copyFrom_6_113) f6 g19 (by decide)
  have t22 : s16 6 6 = s4 6 6 := g20 6 (by decide)
  have t23 : s16 113 6 = s4 113 6 := g19 113 6 (by decide)
  have t24 : s16 113 7 = s4 113 7 := g19 113 7 (by decide)
  have t25 : s16 113 8 = s4 113 8 := g19 113 8 (by decide)
  refine T_if1 (by decide +kernel) ?_
  refine T_leq (fun x26 e27 => ?_)
  have u28 := CI_b c17 (k := 113) (j := 8) bd_113_8
  refine T_if1 (by decide +kernel) ?_
  refine T_upg c17 bd_6_8 (by omega) (fun s29 c30 g32 g33 e34 => ?_)
  have f31 := z_Fr.up (R := R_X9_copyFrom_6_113) f18 g32 (by decide)
  have t35 : s29 6 6 = s16 6 6 := g33 6 (by decide)
  have t36 : s29 113 6 = s16 113 6 := g32 113 6 (by decide)
  have t37 : s29 113 7 = s16 113 7 := g32 113 7 (by decide)
  have t38 : s29 113 8 = s16 113 8 := g32 113 8 (by decide)
  refine T_if1 (by decide +kernel) ?_
  refine T_let 7 (by decide +kernel) ?_
  refine T_if1 (by decide +kernel) ?_
  refine T_let 114 (by decide +kernel) ?_
  refine T_if1 (by decide +kernel) ?_
  refine T_leq (fun x39 e40 => ?_)
  have u41 := CI_b c30 (k := 6) (j := 6) bd_6_6
  refine T_if1 (by decide +kernel) ?_
  refine T_copy hfu (by decide +kernel) (by decide +kernel) (c := 8) (c2 := 115) (by decide +kernel) (by decide +kernel) (by decide) (by omega) bdr_8 bdr_115 (by decide) (by decide) c30 (fun s42 e45 c43 g46 => ?_)
  have f44 := z_Fr.up (R := R_X9_copyFrom_6_113) f31 g46 (by decide)
  have t47 : s42 6 6 = s29 6 6 := g46 6 6 (by decide)
  have t48 : s42 113 6 = s29 113 6 := g46 113 6 (by decide)
  have t49 : s42 113 7 = s29 113 7 := g46 113 7 (by decide)
  have t50 : s42 113 8 = s29 113 8 := g46 113 8 (by decide)
  refine T_if1 (by decide +kernel) ?_
  refine T_let 9 (by decide +kernel) ?_
  refine T_if1 (by decide +kernel) ?_
  refine T_let 116 (by decide +kernel) ?_
  refine T_if1 (by decide +kernel) ?_
  refine T_leq (fun x51 e52 => ?_)
  have u53 := CI_b c43 (k := 6) (j := 6) bd_6_6
  refine T_if1 (by decide +kernel) ?_
  refine T_copy hfu (by decide +kernel) (by decide +kernel) (c := 10) (c2 := 117) (by decide +kernel) (by decide +kernel) (by decide) (by omega) bdr_10 bdr_117 (by decide) (by decide) c43 (fun s54 e57 c55 g58 => ?_)
  have f56 := z_Fr.up (R := R_X9_copyFrom_6_113) f44 g58 (by decide)
  have t59 : s54 6 6 = s42 6 6 := g58 6 6 (by decide)
  have t60 : s54 113 6 = s42 113 6 := g58 113 6 (by decide)
  have t61 : s54 113 7 = s42 113 7 := g58 113 7 (by decide)
  have t62 : s54 113 8 = s42 113 8 := g58 113 8 (by decide)
  refine T_if1 (by decide +kernel) ?_
  refine T_let 11 (by decide +kernel) ?_
  refine T_if1 (by decide +kernel) ?_
  refine T_let 118 (by decide +kernel) ?_
  refine T_if1 (by decide +kernel) ?_
  refine T_leq (fun x63 e64 => ?_)
  have u65 := CI_b c55 (k := 6) (j := 6) bd_6_6
  refine T_if1 (by decide +kernel) ?_
  refine T_copy hfu (by decide +kernel) (by decide +kernel) (c := 12) (c2 := 119) (by decide +kernel) (by decide +kernel) (by decide) (by omega) bdr_12 bdr_119 (by decide) (by decide) c55 (fun s66 e69 c67 g70 => ?_)
  have f68 := z_Fr.up (R := R_X9_copyFrom_6_113) f56 g70 (by decide)
  have t71 : s66 6 6 = s54 6 6 := g70 6 6 (by decide)
  have t72 : s66 113 6 = s54 113 6 := g70 113 6 (by decide)
  have t73 : s66 113 7 = s54 113 7 := g70 113 7 (by decide)
  have t74 : s66 113 8 = s54 113 8 := g70 113 8 (by decide)
  refine T_if1 (by decide +kernel) ?_
  refine T_let 13 (by decide +kernel) ?_
  refine T_if1 (by decide +kernel) ?_
  refine T_let 120 (by decide +kernel) ?_
  refine T_if1 (by decide +kernel) ?_
  refine T_leq (fun x75 e76 => ?_)
  have u77 := CI_b c67 (k := 6) (j := 6) bd_6_6
  refine T_if1 (by decide +kernel) ?_
  refine T_copy hfu (by decide +kernel) (by decide +kernel) (c := 14) (c2 := 121) (by decide +kernel) (by decide +kernel) (by decide) (by omega) bdr_14 bdr_121 (by decide) (by decide) c67 (fun s78 e81 c79 g82 => ?_)
  have f80 := z_Fr.up (R := R_X9_copyFrom_6_113) f68 g82 (by decide)
  have t83 : s78 6 6 = s66 6 6 := g82 6 6 (by decide)
  have t84 : s78 113 6 = s66 113 6 := g82 113 6 (by decide)
  have t85 : s78 113 7 = s66 113 7 := g82 113 7 (by decide)
  have t86 : s78 113 8 = s66 113 8 := g82 113 8 (by decide)
  refine T_if1 (by decide +kernel) ?_
  refine T_let 15 (by decide +kernel) ?_
  refine T_if1 (by decide +kernel) ?_
  refine T_let 122 (by decide +kernel) ?_
  refine T_if1 (by decide +kernel) ?_
  refine T_leq (fun x87 e88 => ?_)
  have u89 := CI_b c79 (k := 6) (j := 6) bd_6_6
  refine T_if1 (by decide +kernel) ?_
  refine T_lcopy hfu (by decide +kernel) (by decide +kernel) (c := 16) (c2 := 123) (by decide +kernel) (by decide +kernel) (by decide) (by omega) bdr_16 bdr_123 (by decide) (by decide) c79 (fun s90 e93 c91 g94 => ?_)
  have f92 := z_Fr.up (R := R_X9_copyFrom_6_113) f80 g94 (by decide)
  have t95 : s90 6 6 = s78 6 6 := g94 6 6 (by decide)
  have t96 : s90 113 6 = s78 113 6 := g94 113 6 (by decide)
  have t97 : s90 113 7 = s78 113 7 := g94 113 7 (by decide)
  have t98 : s90 113 8 = s78 113 8 := g94 113 8 (by decide)
  refine T_if1 (by decide +kernel) ?_
  refine T_let 17 (by decide +kernel) ?_
  refine T_if1 (by decide +kernel) ?_
  refine T_let 124 (by decide +kernel) ?_
  refine T_if1 (by decide +kernel) ?_
  refine T_leq (fun x99 e100 => ?_)
  have u101 := CI_b c91 (k := 6) (j := 6) bd_6_6
  refine T_if1 (by decide +kernel) ?_
  refine T_lcopy hfu (by decide +kernel) (by decide +kernel) (c := 18) (c2 := 125) (by decide +kernel) (by decide +kernel) (by decide) (by omega) bdr_18 bdr_125 (by decide) (by decide) c91 (fun s102 e105 c103 g106 => ?_)
  have f104 := z_Fr.up (R := R_X9_copyFrom_6_113) f92 g106 (by decide)
  have t107 : s102 6 6 = s90 6 6 := g106 6 6 (by decide)
  have t108 : s102 113 6 = s90 113 6 := g106 113 6 (by decide)
  have t109 : s102 113 7 = s90 113 7 := g106 113 7 (by decide)
  have t110 : s102 113 8 = s90 113 8 := g106 113 8 (by decide)
  exact T_ret ⟨c103, f104, rfl⟩
abbrev R_X9_copyFrom_6_100 (a : Int) : Prop := (6 ≤ a ∧ a ≤ 18)
abbrev P_X9_copyFrom_6_100 (r0 : z_M) : z_V → z_M → Prop := fun v s' => z_CI s' ∧ z_Fr R_X9_copyFrom_6_100 r0 s' ∧ (v = vN)
theorem sf_X9_copyFrom_6_100 {fu : Nat} (hfu : 8589934592 ≤ fu) (r0 : z_M) (c0 : z_CI r0) : z_T (fX9_copyFrom fu r0 6 100) (P_X9_copyFrom_6_100 r0) := by
  refine T_of (fX9_copyFrom.eq_1 ..) ?_
  refine T_if1 (by decide +kernel) ?_
  refine T_leq (fun x1 e2 => ?_)
  have u3 := CI_b c0 (k := 100) (j := 6) bd_100_6
  refine T_if1 (by decide +kernel) ?_
  refine T_upg c0 bd_6_6 (by omega) (fun s4 c5 g7 g8 e9 => ?_)
  have f6 := z_Fr.up (R := R_X9_copyFrom_6_100) z_Fr.rf g7 (by decide)
  have t10 : s4 100 6 = r0 100 6 := g7 100 6 (by decide)
  have t11 : s4 100 7 = r0 100 7 := g7 100 7 (by decide)
  have t12 : s4 100 8 = r0 100 8 := g7 100 8 (by decide)
  refine T_if1 (by decide +kernel) ?_
  refine T_leq (fun x13 e14 => ?_)
  have u15 := CI_b c5 (k := 100) (j := 7) bd_100_7
  refine T_if1 (by decide +kernel) ?_
  refine T_upg c5 bd_6_7 (by omega) (fun s16 c17 g19 g20 e21 => ?_)
  have f18 := z_Fr.up (R := R_X9_copyFrom_6_100) f6 g19 (by decide)
  have t22 : s16 6 6 = s4 6 6 := g20 6 (by decide)
  have t23 : s16 100 6 = s4 100 6 := g19 100 6 (by decide)
  have t24 : s16 100 7 = s4 100 7 := g19 100 7 (by decide)
  have t25 : s16 100 8 = s4 100 8 := g19 100 8 (by decide)
  refine T_if1 (by decide +kernel) ?_
  refine T_leq (fun x26 e27 => ?_)
  have u28 := CI_b c17 (k := 100) (j := 8) bd_100_8
  refine T_if1 (by decide +kernel) ?_
  refine T_upg c17 bd_6_8 (by omega) (fun s29 c30 g32 g33 e34 => ?_)
  have f31 := z_Fr.up (R := R_X9_copyFrom_6_100) f18 g32 (by decide)
  have t35 : s29 6 6 = s16 6 6 := g33 6 (by decide)
  have t36 : s29 100 6 = s16 100 6 := g32 100 6 (by decide)
  have t37 : s29 100 7 = s16 100 7 := g32 100 7 (by decide)
  have t38 : s29 100 8 = s16 100 8 := g32 100 8 (by decide)
  refine T_if1 (by decide +kernel) ?_
  refine T_let 7 (by decide +kernel) ?_
  refine T_if1 (by decide +kernel) ?_
  refine T_let 101 (by decide +kernel) ?_
  refine T_if1 (by decide +kernel) ?_
  refine T_leq (fun x39 e40 => ?_)
  have u41 := CI_b c30 (k := 6) (j := 6) bd_6_6
  refine T_if1 (by decide +kernel) ?_
  refine T_copy hfu (by decide +kernel) (by decide +kernel) (c := 8) (c2 := 102) (by decide +kernel) (by decide +kernel) (by decide) (by omega) bdr_8 bdr_102 (by decide) (by decide) c30 (fun s42 e45 c43 g46 => ?_)
  have f44 := z_Fr.up (R := R_X9_copyFrom_6_100) f31 g46 (by decide)
  have t47 : s42 6 6 = s29 6 6 := g46 6 6 (by decide)
  have t48 : s42 100 6 = s29 100 6 := g46 100 6 (by decide)
  have t49 : s42 100 7 = s29 100 7 := g46 100 7 (by decide)
  have t50 : s42 100 8 = s29 100 8 := g46 100 8 (by decide)
  refine T_if1 (by decide +kernel) ?_
  refine T_let 9 (by decide +kernel) ?_
  refine T_if1 (by decide +kernel) ?_
  refine T_let 103 (by decide +kernel) ?_
  refine T_if1 (by decide +kernel) ?_
  refine T_leq (fun x51 e52 => ?_)
  have u53 := CI_b c43 (k := 6) (j := 6) bd_6_6
  refine T_if1 (by decide +kernel) ?_
  refine T_copy hfu (by decide +kernel) (by decide +kernel) (c := 10) (c2 := 104) (by decide +kernel) (by decide +kernel) (by decide) (by omega) bdr_10 bdr_104 (by decide) (by decide) c43 (fun s54 e57 c55 g58 => ?_)
  have f56 := z_Fr.up (R := R_X9_copyFrom_6_100) f44 g58 (by decide)
  have t59 : s54 6 6 = s42 6 6 := g58 6 6 (by decide)
  have t60 : s54 100 6 = s42 100 6 := g58 100 6 (by decide)
  have t61 : s54 100 7 = s42 100 7 := g58 100 7 (by decide)
  have t62 : s54 100 8 = s42 100 8 := g58 100 8 (by decide)
  refine T_if1 (by decide +kernel) ?_
  refine T_let 11 (by decide +kernel) ?_
  refine T_if1 (by decide +kernel) ?_
  refine T_let 105 (by decide +kernel) ?_
  refine T_if1 (by decide +kernel) ?_
  refine T_leq (fun x63 e64 => ?_)
  have u65 := CI_b c55 (k := 6) (j := 6) bd_6_6
  refine T_if1 (by decide +kernel) ?_
  refine T_copy hfu (by decide +kernel) (by decide +kernel) (c := 12) (c2 := 106) (by decide +kernel) (by decide +kernel) (by decide) (by omega) bdr_12 bdr_106 (by decide) (by decide) c55 (fun s66 e69 c67 g70 => ?_)
  have f68 := z_Fr.up (R := R_X9_copyFrom_6_100) f56 g70 (by decide)
  have t71 : s66 6 6 = s54 6 6 := g70 6 6 (by decide)
  have t72 : s66 100 6 = s54 100 6 := g70 100 6 (by decide)
  have t73 : s66 100 7 = s54 100 7 := g70 100 7 (by decide)
  have t74 : s66 100 8 = s54 100 8 := g70 100 8 (by decide)
  refine T_if1 (by decide +kernel) ?_
  refine T_let 13 (by decide +kernel) ?_
  refine T_if1 (by decide +kernel) ?_
  refine T_let 107 (by decide +kernel) ?_
  refine T_if1 (by decide +kernel) ?_
  refine T_leq (fun x75 e76 => ?_)
  have u77 := CI_b c67 (k := 6) (j := 6) bd_6_6
  refine T_if1 (by decide +kernel) ?_
  refine T_copy hfu (by decide +kernel) (by decide +kernel) (c := 14) (c2 := 108) (by decide +kernel) (by decide +kernel) (by decide) (by omega) bdr_14 bdr_108 (by decide) (by decide) c67 (fun s78 e81 c79 g82 => ?_)
  have f80 := z_Fr.up (R := R_X9_copyFrom_6_100) f68 g82 (by decide)
  have t83 : s78 6 6 = s66 6 6 := g82 6 6 (by decide)
  have t84 : s78 100 6 = s66 100 6 := g82 100 6 (by decide)
  have t85 : s78 100 7 = s66 100 7 := g82 100 7 (by decide)
  have t86 : s78 100 8 = s66 100 8 := g82 100 8 (by decide)
  refine T_if1 (by decide +kernel) ?_
  refine T_let 15 (by decide +kernel) ?_
  refine T_if1 (by decide +kernel) ?_
  refine T_let 109 (by decide +kernel) ?_
  refine T_if1 (by decide +kernel) ?_
  refine T_leq (fun x87 e88 => ?_)
  have u89 := CI_b c79 (k := 6) (j := 6) bd_6_6
  refine T_if1 (by decide +kernel) ?_
  refine T_lcopy hfu (by decide +kernel) (by decide +kernel) (c := 16) (c2 := 110) (by decide +kernel) (by decide +kernel) (by decide) (by omega) bdr_16 bdr_110 (by decide) (by decide) c79 (fun s90 e93 c91 g94 => ?_)
  have f92 := z_Fr.up (R := R_X9_copyFrom_6_100) f80 g94 (by decide)
  have t95 : s90 6 6 = s78 6 6 := g94 6 6 (by decide)
  have t96 : s90 100 6 = s78 100 6 := g94 100 6 (by decide)
  have t97 : s90 100 7 = s78 100 7 := g94 100 7 (by decide)
  have t98 : s90 100 8 = s78 100 8 := g94 100 8 (by decide)
  refine T_if1 (by decide +kernel) ?_
  refine T_let 17 (by decide +kernel) ?_
  refine T_if1 (by decide +kernel) ?_
  refine T_let 111 (by decide +kernel) ?_
  refine T_if1 (by decide +kernel) ?_
  refine T_leq (fun x99 e100 => ?_)
  have u101 := CI_b c91 (k := 6) (j := 6) bd_6_6
  refine T_if1 (by decide +kernel) ?_
  refine T_lcopy hfu (by decide +kernel) (by decide +kernel) (c := 18) (c2 := 112) (by decide +kernel) (by decide +kernel) (by decide) (by omega) bdr_18 bdr_112 (by decide) (by decide) c91 (fun s102 e105 c103 g106 => ?_)
  have f104 := z_Fr.up (R := R_X9_copyFrom_6_100) f92 g106 (by decide)
  have t107 : s102 6 6 = s90 6 6 := g106 6 6 (by decide)
  have t108 : s102 100 6 = s90 100 6 := g106 100 6 (by decide)
  have t109 : s102 100 7 = s90 100 7 := g106 100 7 (by decide)
  have t110 : s102 100 8 = s90 100 8 := g106 100 8 (by decide)
  exact T_ret ⟨c103, f104, rfl⟩
abbrev R_X9_copyFrom_6_87 (a : Int) : Prop := (6 ≤ a ∧ a ≤ 18)
abbrev P_X9_copyFrom_6_87 (r0 : z_M) : z_V → z_M → Prop := fun v s' => z_CI s' ∧ z_Fr R_X9_copyFrom_6_87 r0 s' ∧ (v = vN)
theorem sf_X9_copyFrom_6_87 {fu : Nat} (hfu : 8589934592 ≤ fu) (r0 : z_M) (c0 : z_CI r0) : z_T (fX9_copyFrom fu r0 6 87) (P_X9_copyFrom_6_87 r0) := by
  refine T_of (fX9_copyFrom.eq_1 ..) ?_
  refine T_if1 (by decide +kernel) ?_
  refine T_leq (fun x1 e2 => ?_)
  have u3 := CI_b c0 (k := 87) (j := 6) bd_87_6
  refine T_if1 (by decide +kernel) ?_
  refine T_upg c0 bd_6_6 (by omega) (fun s4 c5 g7 g8 e9 => ?_)
  have f6 := z_Fr.up (R := R_X9_copyFrom_6_87) z_Fr.rf g7 (by decide)
  have t10 : s4 87 6 = r0 87 6 := g7 87 6 (by decide)
  have t11 : s4 87 7 = r0 87 7 := g7 87 7 (by decide)
  have t12 : s4 87 8 = r0 87 8 := g7 87 8 (by decide)
  refine T_if1 (by decide +kernel) ?_
  refine T_leq (fun x13 e14 => ?_)
  have u15 := CI_b c5 (k := 87) (j := 7) bd_87_7
  refine T_if1 (by decide +kernel) ?_
  refine T_upg c5 bd_6_7 (by omega) (fun s16 c17 g19 g20 e21 => ?_)
  have f18 := z_Fr.up (R := R_X9_copyFrom_6_87) f6 g19 (by decide)
  have t22 : s16 6 6 = s4 6 6 := g20 6 (by decide)
  have t23 : s16 87 6 = s4 87 6 := g19 87 6 (by decide)
  have t24 : s16 87 7 = s4 87 7 := g19 87 7 (by decide)
  have t25 : s16 87 8 = s4 87 8 := g19 87 8 (by decide)
  refine T_if1 (by decide +kernel) ?_
  refine T_leq (fun x26 e27 => ?_)
  have u28 := CI_b c17 (k := 87) (j := 8) bd_87_8
  refine T_if1 (by decide +kernel) ?_
  refine T_upg c17 bd_6_8 (by omega) (fun s29 c30 g32 g33 e34 => ?_)
  have f31 := z_Fr.up (R := R_X9_copyFrom_6_87) f18 g32 (by decide)
  have t35 : s29 6 6 = s16 6 6 := g33 6 (by decide)
  have t36 : s29 87 6 = s16 87 6 := g32 87 6 (by decide)
  have t37 : s29 87 7 = s16 87 7 := g32 87 7 (by decide)
  have t38 : s29 87 8 = s16 87 8 := g32 87 8 (by decide)
  refine T_if1 (by decide +kernel) ?_
  refine T_let 7 (by decide +kernel) ?_
  refine T_if1 (by decide +kernel) ?_
  refine T_let 88 (by decide +kernel) ?_
  refine T_if1 (by decide +kernel) ?_
  refine T_leq (fun x39 e40 => ?_)
  have u41 := CI_b c30 (k := 6) (j := 6) bd_6_6
  refine T_if1 (by decide +kernel) ?_
  refine T_copy hfu (by decide +kernel) (by decide +kernel) (c := 8) (c2 := 89) (by decide +kernel) (by decide +kernel) (by decide) (by omega) bdr_8 bdr_89 (by decide) (by decide) c30 (fun s42 e45 c43 g46 => ?_)
  have f44 := z_Fr.up (R := R_X9_copyFrom_6_87) f31 g46 (by decide)
  have t47 : s42 6 6 = s29 6 6 := g46 6 6 (by decide)
  have t48 : s42 87 6 = s29 87 6 := g46 87 6 (by decide)
  have t49 : s42 87 7 = s29 87 7 := g46 87 7 (by decide)
  have t50 : s42 87 8 = s29 87 8 := g46 87 8 (by decide)
  refine T_if1 (by decide +kernel) ?_
  refine T_let 9 (by decide +kernel) ?_
  refine T_if1 (by decide +kernel) ?_
  refine T_let 90 (by decide +kernel) ?_
  refine T_if1 (by decide +kernel) ?_
  refine T_leq (fun x51 e52 => ?_)
  have u53 := CI_b c43 (k := 6) (j := 6) bd_6_6
  refine T_if1 (by decide +kernel) ?_
  refine T_copy hfu (by decide +kernel) (by decide +kernel) (c := 10) (c2 := 91) (by decide +kernel) (by decide +kernel) (by decide) (by omega) bdr_10 bdr_91 (by decide) (by decide) c43 (fun s54 e57 c55 g58 => ?_)
  have f56 := z_Fr.up (R := R_X9_copyFrom_6_87) f44 g58 (by decide)
  have t59 : s54 6 6 = s42 6 6 := g58 6 6 (by decide)
  have t60 : s54 87 6 = s42 87 6 := g58 87 6 (by decide)
  have t61 : s54 87 7 = s42 87 7 := g58 87 7 (by decide)
  have t62 : s54 87 8 = s42 87 8 := g58 87 8 (by decide)
  refine T_if1 (by decide +kernel) ?_
  refine T_let 11 (by decide +kernel) ?_
  refine T_if1 (by decide +kernel) ?_
  refine T_let 92 (by decide +kernel) ?_
  refine T_if1 (by decide +kernel) ?_
  refine T_leq (fun x63 e64 => ?_)
  have u65 := CI_b c55 (k := 6) (j := 6) bd_6_6
  refine T_if1 (by decide +kernel) ?_
  refine T_copy hfu (by decide +kernel) (by decide +kernel) (c := 12) (c2 := 93) (by decide +kernel) (by decide +kernel) (by decide) (by omega) bdr_12 bdr_93 (by decide) (by decide) c55 (fun s66 e69 c67 g70 => ?_)
  have f68 := z_Fr.up (R := R_X9_copyFrom_6_87) f56 g70 (by decide)
  have t71 : s66 6 6 = s54 6 6 := g70 6 6 (by decide)
  have t72 : s66 87 6 = s54 87 6 := g70 87 6 (by decide)
  have t73 : s66 87 7 = s54 87 7 := g70 87 7 (by decide)
  have t74 : s66 87 8 = s54 87 8 := g70 87 8 (by decide)
  refine T_if1 (by decide +kernel) ?_
  refine T_let 13 (by decide +kernel) ?_
  refine T_if1 (by decide +kernel) ?_
  refine T_let 94 (by decide +kernel) ?_
  refine T_if1 (by decide +kernel) ?_
  refine T_leq (fun x75 e76 => ?_)
  have u77 := CI_b c67 (k := 6) (j := 6) bd_6_6
  refine T_if1 (by decide +kernel) ?_
  refine T_copy hfu (by decide +kernel) (by decide +kernel) (c := 14) (c2 := 95) (by decide +kernel) (by decide +kernel) (by decide) (by omega) bdr_14 bdr_95 (by decide) (by decide) c67 (fun s78 e81 c79 g82 => ?_)
  have f80 := z_Fr.up (R := R_X9_copyFrom_6_87) f68 g82 (by decide)
  have t83 : s78 6 6 = s66 6 6 := g82 6 6 (by decide)
  have t84 : s78 87 6 = s66 87 6 := g82 87 6 (by decide)
  have t85 : s78 87 7 = s66 87 7 := g82 87 7 (by decide)
  have t86 : s78 87 8 = s66 87 8 := g82 87 8 (by decide)
  refine T_if1 (by decide +kernel) ?_
  refine T_let 15 (by decide +kernel) ?_
  refine T_if1 (by decide +kernel) ?_
  refine T_let 96 (by decide +kernel) ?_
  refine T_if1 (by decide +kernel) ?_
  refine T_leq (fun x87 e88 => ?_)
  have u89 := CI_b c79 (k := 6) (j := 6) bd_6_6
  refine T_if1 (by decide +kernel) ?_
  refine T_lcopy hfu (by decide +kernel) (by decide +kernel) (c := 16) (c2 := 97) (by decide +kernel) (by decide +kernel) (by decide) (by omega) bdr_16 bdr_97 (by decide) (by decide) c79 (fun s90 e93 c91 g94 => ?_)
  have f92 := z_Fr.up (R := R_X9_copyFrom_6_87) f80 g94 (by decide)
  have t95 : s90 6 6 = s78 6 6 := g94 6 6 (by decide)
  have t96 : s90 87 6 = s78 87 6 := g94 87 6 (by decide)
  have t97 : s90 87 7 = s78 87 7 := g94 87 7 (by decide)
  have t98 : s90 87 8 = s78 87 8 := g94 87 8 (by decide)
  refine T_if1 (by decide +kernel) ?_
  refine T_let 17 (by decide +kernel) ?_
  refine T_if1 (by decide +kernel) ?_
  refine T_let 98 (by decide +kernel) ?_
  refine T_if1 (by decide +kernel) ?_
  refine T_leq (fun x99 e100 => ?_)
  have u101 := CI_b c91 (k := 6) (j := 6) bd_6_6
  refine T_if1 (by decide +kernel) ?_
  refine T_lcopy hfu (by decide +kernel) (by decide +kernel) (c := 18) (c2 := 99) (by decide +kernel) (by decide +kernel) (by decide) (by omega) bdr_18 bdr_99 (by decide) (by decide) c91 (fun s102 e105 c103 g106 => ?_)
  have f104 := z_Fr.up (R := R_X9_copyFrom_6_87) f92 g106 (by decide)
  have t107 : s102 6 6 = s90 6 6 := g106 6 6 (by decide)
  have t108 : s102 87 6 = s90 87 6 := g106 87 6 (by decide)
  have t109 : s102 87 7 = s90 87 7 := g106 87 7 (by decide)
  have t110 : s102 87 8 = s90 87 8 := g106 87 8 (by decide)
  exact T_ret ⟨c103, f104, rfl⟩
abbrev R_X9_copyFrom_6_74 (a : Int) : Prop := (6 ≤ a ∧ a ≤ 18)
abbrev P_X9_copyFrom_6_74 (r0 : z_M) : z_V → z_M → Prop := fun v s' => z_CI s' ∧ z_Fr R_X9_copyFrom_6_74 r0 s' ∧ (v = vN)
theorem sf_X9_copyFrom_6_74 {fu : Nat} (hfu : 8589934592 ≤ fu) (r0 : z_M) (c0 : z_CI r0) : z_T (fX9_copyFrom fu r0 6 74) (P_X9_copyFrom_6_74 r0) := by
  refine T_of (fX9_copyFrom.eq_1 ..) ?_
  refine T_if1 (by decide +kernel) ?_
  refine T_leq (fun x1 e2 => ?_)
  have u3 := CI_b c0 (k := 74) (j := 6) bd_74_6
  refine T_if1 (by decide +kernel) ?_
  refine T_upg c0 bd_6_6 (by omega) (fun s4 c5 g7 g8 e9 => ?_)
  have f6 := z_Fr.up (R := R_X9_copyFrom_6_74) z_Fr.rf g7 (by decide)
  have t10 : s4 74 6 = r0 74 6 := g7 74 6 (by decide)
  have t11 : s4 74 7 = r0 74 7 := g7 74 7 (by decide)
  have t12 : s4 74 8 = r0 74 8 := g7 74 8 (by decide)
  refine T_if1 (by decide +kernel) ?_
  refine T_leq (fun x13 e14 => ?_)
  have u15 := CI_b c5 (k := 74) (j := 7) bd_74_7
  refine T_if1 (by decide +kernel) ?_
  refine T_upg c5 bd_6_7 (by omega) (fun s16 c17 g19 g20 e21 => ?_)
  have f18 := z_Fr.up (R := R_X9_copyFrom_6_74) f6 g19 (by decide)
  have t22 : s16 6 6 = s4 6 6 := g20 6 (by decide)
  have t23 : s16 74 6 = s4 74 6 := g19 74 6 (by decide)
  have t24 : s16 74 7 = s4 74 7 := g19 74 7 (by decide)
  have t25 : s16 74 8 = s4 74 8 := g19 74 8 (by decide)
  refine T_if1 (by decide +kernel) ?_
  refine T_leq (fun x26 e27 => ?_)
  have u28 := CI_b c17 (k := 74) (j := 8) bd_74_8
  refine T_if1 (by decide +kernel) ?_
  refine T_upg c17 bd_6_8 (by omega) (fun s29 c30 g32 g33 e34 => ?_)
  have f31 := z_Fr.up (R := R_X9_copyFrom_6_74) f18 g32 (by decide)
  have t35 : s29 6 6 = s16 6 6 := g33 6 (by decide)
  have t36 : s29 74 6 = s16 74 6 := g32 74 6 (by decide)
  have t37 : s29 74 7 = s16 74 7 := g32 74 7 (by decide)
  have t38 : s29 74 8 = s16 74 8 := g32 74 8 (by decide)
  refine T_if1 (by decide +kernel) ?_
  refine T_let 7 (by decide +kernel) ?_
  refine T_if1 (by decide +kernel) ?_
  refine T_let 75 (by decide +kernel) ?_
  refine T_if1 (by decide +kernel) ?_
  refine T_leq (fun x39 e40 => ?_)
  have u41 := CI_b c30 (k := 6) (j := 6) bd_6_6
  refine T_if1 (by decide +kernel) ?_
  refine T_copy hfu (by decide +kernel) (by decide +kernel) (c := 8) (c2 := 76) (by decide +kernel) (by decide +kernel) (by decide) (by omega) bdr_8 bdr_76 (by decide) (by decide) c30 (fun s42 e45 c43 g46 => ?_)
  have f44 := z_Fr.up (R := R_X9_copyFrom_6_74) f31 g46 (by decide)
  have t47 : s42 6 6 = s29 6 6 := g46 6 6 (by decide)
  have t48 : s42 74 6 = s29 74 6 := g46 74 6 (by decide)
  have t49 : s42 74 7 = s29 74 7 := g46 74 7 (by decide)
  have t50 : s42 74 8 = s29 74 8 := g46 74 8 (by decide)
  refine T_if1 (by decide +kernel) ?_
  refine T_let 9 (by decide +kernel) ?_
  refine T_if1 (by decide +kernel) ?_
  refine T_let 77 (by decide +kernel) ?_
  refine T_if1 (by decide +kernel) ?_
  refine T_leq (fun x51 e52 => ?_)
  have u53 := CI_b c43 (k := 6) (j := 6) bd_6_6
  refine T_if1 (by decide +kernel) ?_
  refine T_copy hfu (by decide +kernel) (by decide +kernel) (c := 10) (c2 := 78) (by decide +kernel) (by decide +kernel) (by decide) (by omega) bdr_10 bdr_78 (by decide) (by decide) c43 (fun s54 e57 c55 g58 => ?_)
  have f56 := z_Fr.up (R := R_X9_copyFrom_6_74) f44 g58 (by decide)
  have t59 : s54 6 6 = s42 6 6 := g58 6 6 (by decide)
  have t60 : s54 74 6 = s42 74 6 := g58 74 6 (by decide)
  have t61 : s54 74 7 = s42 74 7 := g58 74 7 (by decide)
  have t62 : s54 74 8 = s42 74 8 := g58 74 8 (by decide)
  refine T_if1 (by decide +kernel) ?_
  refine T_let 11 (by decide +kernel) ?_
  refine T_if1 (by decide +kernel) ?_
  refine T_let 79 (by decide +kernel) ?_
  refine T_if1 (by decide +kernel) ?_
  refine T_leq (fun x63 e64 => ?_)
  have u65 := CI_b c55 (k := 6) (j := 6) bd_6_6
  refine T_if1 (by decide +kernel) ?_
  refine T_copy hfu (by decide +kernel) (by decide +kernel) (c := 12) (c2 := 80) (by decide +kernel) (by decide +kernel) (by decide) (by omega) bdr_12 bdr_80 (by decide) (by decide) c55 (fun s66 e69 c67 g70 => ?_)
  have f68 := z_Fr.up (R := R_X9_copyFrom_6_74) f56 g70 (by decide)
  have t71 : s66 6 6 = s54 6 6 := g70 6 6 (by decide)
  have t72 : s66 74 6 = s54 74 6 := g70 74 6 (by decide)
  have t73 : s66 74 7 = s54 74 7 := g70 74 7 (by decide)
  have t74 : s66 74 8 = s54 74 8 := g70 74 8 (by decide)
  refine T_if1 (by decide +kernel) ?_
  refine T_let 13 (by decide +kernel) ?_
  refine T_if1 (by decide +kernel) ?_
  refine T_let 81 (by decide +kernel) ?_
  refine T_if1 (by decide +kernel) ?_
  refine T_leq (fun x75 e76 => ?_)
  have u77 := CI_b c67 (k := 6) (j := 6) bd_6_6
  refine T_if1 (by decide +kernel) ?_
  refine T_copy hfu (by decide +kernel) (by decide +kernel) (c := 14) (c2 := 82) (by decide +kernel) (by decide +kernel) (by decide) (by omega) bdr_14 bdr_82 (by decide) (by decide) c67 (fun s78 e81 c79 g82 => ?_)
  have f80 := z_Fr.up (R := R_X9_copyFrom_6_74) f68 g82 (by decide)
  have t83 : s78 6 6 = s66 6 6 := g82 6 6 (by decide)
  have t84 : s78 74 6 = s66 74 6 := g82 74 6 (by decide)
  have t85 : s78 74 7 = s66 74 7 := g82 74 7 (by decide)
  have t86 : s78 74 8 = s66 74 8 := g82 74 8 (by decide)
  refine T_if1 (by decide +kernel) ?_
  refine T_let 15 (by decide +kernel) ?_
  refine T_if1 (by decide +kernel) ?_
  refine T_let 83 (by decide +kernel) ?_
  refine T_if1 (by decide +kernel) ?_
  refine T_leq (fun x87 e88 => ?_)
  have u89 := CI_b c79 (k := 6) (j := 6) bd_6_6
  refine T_if1 (by decide +kernel) ?_
  refine T_lcopy hfu (by decide +kernel) (by decide +kernel) (c := 16) (c2 := 84) (by decide +kernel) (by decide +kernel) (by decide) (by omega) bdr_16 bdr_84 (by decide) (by decide) c79 (fun s90 e93 c91 g94 => ?_)
  have f92 := z_Fr.up (R := R_X9_copyFrom_6_74) f80 g94 (by decide)
  have t95 : s90 6 6 = s78 6 6 := g94 6 6 (by decide)
  have t96 : s90 74 6 = s78 74 6 := g94 74 6 (by decide)
  have t97 : s90 74 7 = s78 74 7 := g94 74 7 (by decide)
  have t98 : s90 74 8 = s78 74 8 := g94 74 8 (by decide)
  refine T_if1 (by decide +kernel) ?_
  refine T_let 17 (by decide +kernel) ?_
  refine T_if1 (by decide +kernel) ?_
  refine T_let 85 (by decide +kernel) ?_
  refine T_if1 (by decide +kernel) ?_
  refine T_leq (fun x99 e100 => ?_)
  have u101 := CI_b c91 (k := 6) (j := 6) bd_6_6
  refine T_if1 (by decide +kernel) ?_
  refine T_lcopy hfu (by decide +kernel) (by decide +kernel) (c := 18) (c2 := 86) (by decide +kernel) (by decide +kernel) (by decide) (by omega) bdr_18 bdr_86 (by decide) (by decide) c91 (fun s102 e105 c103 g106 => ?_)
  have f104 := z_Fr.up (R := R_X9_copyFrom_6_74) f92 g106 (by decide)
  have t107 : s102 6 6 = s90 6 6 := g106 6 6 (by decide)
  have t108 : s102 74 6 = s90 74 6 := g106 74 6 (by decide)
  have t109 : s102 74 7 = s90 74 7 := g106 74 7 (by decide)
  have t110 : s102 74 8 = s90 74 8 := g106 74 8 (by decide)
  exact T_ret ⟨c103, f104, rfl⟩
abbrev R_X9_copyFrom_6_61 (a : Int) : Prop := (6 ≤ a ∧ a ≤ 18)
abbrev P_X9_copyFrom_6_61 (r0 : z_M) : z_V → z_M → Prop := fun v s' => z_CI s' ∧ z_Fr R_X9_copyFrom_6_61 r0 s' ∧ (v = vN)
theorem sf_X9_copyFrom_6_61 {fu : Nat} (hfu : 8589934592 ≤ fu) (r0 : z_M) (c0 : z_CI r0) : z_T (fX9_copyFrom fu r0 6 61) (P_X9_copyFrom_6_61 r0) := by
  refine T_of (fX9_copyFrom.eq_1 ..) ?_
  refine T_if1 (by decide +kernel) ?_
  refine T_leq (fun x1 e2 => ?_)
  have u3 := CI_b c0 (k := 61) (j := 6) bd_61_6
  refine T_if1 (by decide +kernel) ?_
  refine T_upg c0 bd_6_6 (by omega) (fun s4 c5 g7 g8 e9 => ?_)
  have f6 := z_Fr.up (R := R_X9_copyFrom_6_61) z_Fr.rf g7 (by decide)
  have t10 : s4 61 6 = r0 61 6 := g7 61 6 (by decide)
  have t11 : s4 61 7 = r0 61 7 := g7 61 7 (by decide)
  have t12 : s4 61 8 = r0 61 8 := g7 61 8 (by decide)
  refine T_if1 (by decide +kernel) ?_
  refine T_leq (fun x13 e14 => ?_)
  have u15 := CI_b c5 (k := 61) (j := 7) bd_61_7
  refine T_if1 (by decide +kernel) ?_
  refine T_upg c5 bd_6_7 (by omega) (fun s16 c17 g19 g20 e21 => ?_)
  have f18 := z_Fr.up (R := R_X9_copyFrom_6_61) f6 g19 (by decide)
  have t22 : s16 6 6 = s4 6 6 := g20 6 (by decide)
  have t23 : s16 61 6 = s4 61 6 := g19 61 6 (by decide)
  have t24 : s16 61 7 = s4 61 7 := g19 61 7 (by decide)
  have t25 : s16 61 8 = s4 61 8 := g19 61 8 (by decide)
  refine T_if1 (by decide +kernel) ?_
  refine T_leq (fun x26 e27 => ?_)
  have u28 := CI_b c17 (k := 61) (j := 8) bd_61_8
  refine T_if1 (by decide +kernel) ?_
  refine T_upg c17 bd_6_8 (by omega) (fun s29 c30 g32 g33 e34 => ?_)
  have f31 := z_Fr.up (R := R_X9_copyFrom_6_61) f18 g32 (by decide)
  have t35 : s29 6 6 = s16 6 6 := g33 6 (by decide)
  have t36 : s29 61 6 = s16 61 6 := g32 61 6 (by decide)
  have t37 : s29 61 7 = s16 61 7 := g32 61 7 (by decide)
  have t38 : s29 61 8 = s16 61 8 := g32 61 8 (by decide)
  refine T_if1 (by decide +kernel) ?_
  refine T_let 7 (by decide +kernel) ?_
  refine T_if1 (by decide +kernel) ?_
  refine T_let 62 (by decide +kernel) ?_
  refine T_if1 (by decide +kernel) ?_
  refine T_leq (fun x39 e40 => ?_)
  have u41 := CI_b c30 (k := 6) (j := 6) bd_6_6
  refine T_if1 (by decide +kernel) ?_
  refine T_copy hfu (by decide +kernel) (by decide +kernel) (c := 8) (c2 := 63) (by decide +kernel) (by decide +kernel) (by decide) (by omega) bdr_8 bdr_63 (by decide) (by decide) c30 (fun s42 e45 c43 g46 => ?_)
  have f44 := z_Fr.up (R := R_X9_copyFrom_6_61) f31 g46 (by decide)
  have t47 : s42 6 6 = s29 6 6 := g46 6 6 (by decide)
  have t48 : s42 61 6 = s29 61 6 := g46 61 6 (by decide)
  have t49 : s42 61 7 = s29 61 7 := g46 61 7 (by decide)
  have t50 : s42 61 8 = s29 61 8 := g46 61 8 (by decide)
  refine T_if1 (by decide +kernel) ?_
  refine T_let 9 (by decide +kernel) ?_
  refine T_if1 (by decide +kernel) ?_
  refine T_let 64 (by decide +kernel) ?_
  refine T_if1 (by decide +kernel) ?_
  refine T_leq (fun x51 e52 => ?_)
  have u53 := CI_b c43 (k := 6) (j := 6) bd_6_6
  refine T_if1 (by decide +kernel) ?_
  refine T_copy hfu (by decide +kernel) (by decide +kernel) (c := 10) (c2 := 65) (by decide +kernel) (by decide +kernel) (by decide) (by omega) bdr_10 bdr_65 (by decide) (by decide) c43 (fun s54 e57 c55 g58 => ?_)
  have f56 := z_Fr.up (R := R_X9_copyFrom_6_61) f44 g58 (by decide)
  have t59 : s54 6 6 = s42 6 6 := g58 6 6 (by decide)
  have t60 : s54 61 6 = s42 61 6 := g58 61 6 (by decide)
  have t61 : s54 61 7 = s42 61 7 := g58 61 7 (by decide)
  have t62 : s54 61 8 = s42 61 8 := g58 61 8 (by decide)
  refine T_if1 (by decide +kernel) ?_
  refine T_let 11 (by decide +kernel) ?_
  refine T_if1 (by decide +kernel) ?_
  refine T_let 66 (by decide +kernel) ?_
  refine T_if1 (by decide +kernel) ?_
  refine T_leq (fun x63 e64 => ?_)
  have u65 := CI_b c55 (k := 6) (j := 6) bd_6_6
  refine T_if1 (by decide +kernel) ?_
  refine T_copy hfu (by decide +kernel) (by decide +kernel) (c := 12) (c2 := 67) (by decide +kernel) (by decide +kernel) (by decide) (by omega) bdr_12 bdr_67 (by decide) (by decide) c55 (fun s66 e69 c67 g70 => ?_)
  have f68 := z_Fr.up (R := R_X9_copyFrom_6_61) f56 g70 (by decide)
  have t71 : s66 6 6 = s54 6 6 := g70 6 6 (by decide)
  have t72 : s66 61 6 = s54 61 6 := g70 61 6 (by decide)
  have t73 : s66 61 7 = s54 61 7 := g70 61 7 (by decide)
  have t74 : s66 61 8 = s54 61 8 := g70 61 8 (by decide)
  refine T_if1 (by decide +kernel) ?_
  refine T_let 13 (by decide +kernel) ?_
  refine T_if1 (by decide +kernel) ?_
  refine T_let 68 (by decide +kernel) ?_
  refine T_if1 (by decide +kernel) ?_
  refine T_leq (fun x75 e76 => ?_)
  have u77 := CI_b c67 (k := 6) (j := 6) bd_6_6
  refine T_if1 (by decide +kernel) ?_
  refine T_copy hfu (by decide +kernel) (by decide +kernel) (c := 14) (c2 := 69) (by decide +kernel) (by decide +kernel) (by decide) (by omega) bdr_14 bdr_69 (by decide) (by decide) c67 (fun s78 e81 c79 g82 => ?_)
  have f80 := z_Fr.up (R := R_X9_copyFrom_6_61) f68 g82 (by decide)
  have t83 : s78 6 6 = s66 6 6 := g82 6 6 (by decide)
  have t84 : s78 61 6 = s66 61 6 := g82 61 6 (by decide)
  have t85 : s78 61 7 = s66 61 7 := g82 61 7 (by decide)
  have t86 : s78 61 8 = s66 61 8 := g82 61 8 (by decide)
  refine T_if1 (by decide +kernel) ?_
  refine T_let 15 (by decide +kernel) ?_
  refine T_if1 (by decide +kernel) ?_
  refine T_let 70 (by decide +kernel) ?_
  refine T_if1 (by decide +kernel) ?_
  refine T_leq (fun x87 e88 => ?_)
  have u89 := CI_b c79 (k := 6) (j := 6) bd_6_6
  refine T_if1 (by decide +kernel) ?_
  refine T_lcopy hfu (by decide +kernel) (by decide +kernel) (c := 16) (c2 := 71) (by decide +kernel) (by decide +kernel) (by decide) (by omega) bdr_16 bdr_71 (by decide) (by decide) c79 (fun s90 e93 c91 g94 => ?_)
  have f92 := z_Fr.up (R := R_X9_copyFrom_6_61) f80 g94 (by decide)
  have t95 : s90 6 6 = s78 6 6 := g94 6 6 (by decide)
  have t96 : s90 61 6 = s78 61 6 := g94 61 6 (by decide)
  have t97 : s90 61 7 = s78 61 7 := g94 61 7 (by decide)
  have t98 : s90 61 8 = s78 61 8 := g94 61 8 (by decide)
  refine T_if1 (by decide +kernel) ?_
  refine T_let 17 (by decide +kernel) ?_
  refine T_if1 (by decide +kernel) ?_
  refine T_let 72 (by decide +kernel) ?_
  refine T_if1 (by decide +kernel) ?_
  refine T_leq (fun x99 e100 => ?_)
  have u101 := CI_b c91 (k := 6) (j := 6) bd_6_6
  refine T_if1 (by decide +kernel) ?_
  refine T_lcopy hfu (by decide +kernel) (by decide +kernel) (c := 18) (c2 := 73) (by decide +kernel) (by decide +kernel) (by decide) (by omega) bdr_18 bdr_73 (by decide) (by decide) c91 (fun s102 e105 c103 g106 => ?_)
  have f104 := z_Fr.up (R := R_X9_copyFrom_6_61) f92 g106 (by decide)
  have t107 : s102 6 6 = s90 6 6 := g106 6 6 (by decide)
  have t108 : s102 61 6 = s90 61 6 := g106 61 6 (by decide)
  have t109 : s102 61 7 = s90 61 7 := g106 61 7 (by decide)
  have t110 : s102 61 8 = s90 61 8 := g106 61 8 (by decide)
  exact T_ret ⟨c103, f104, rfl⟩
abbrev R_X9_copyFrom_6_48 (a : Int) : Prop := (6 ≤ a ∧ a ≤ 18)
abbrev P_X9_copyFrom_6_48 (r0 : z_M) : z_V → z_M → Prop := fun v s' => z_CI s' ∧ z_Fr R_X9_copyFrom_6_48 r0 s' ∧ (v = vN)
theorem sf_X9_copyFrom_6_48 {fu : Nat} (hfu : 8589934592 ≤ fu) (r0 : z_M) (c0 : z_CI r0) : z_T (fX9_copyFrom fu r0 6 48) (P_X9_copyFrom_6_48 r0) := by
  refine T_of (fX9_copyFrom.eq_1 ..) ?_
  refine T_if1 (by decide +kernel) ?_
  refine T_leq (fun x1 e2 => ?_)
  have u3 := CI_b c0 (k := 48) (j := 6) bd_48_6
  refine T_if1 (by decide +kernel) ?_
  refine T_upg c0 bd_6_6 (by omega) (fun s4 c5 g7 g8 e9 => ?_)
  have f6 := z_Fr.up (R := R_X9_copyFrom_6_48) z_Fr.rf g7 (by decide)
  have t10 : s4 48 6 = r0 48 6 := g7 48 6 (by decide)
  have t11 : s4 48 7 = r0 48 7 := g7 48 7 (by decide)
  have t12 : s4 48 8 = r0 48 8 := g7 48 8 (by decide)
  refine T_if1 (by decide +kernel) ?_
  refine T_leq (fun x13 e14 => ?_)
  have u15 := CI_b c5 (k := 48) (j := 7) bd_48_7
  refine T_if1 (by decide +kernel) ?_
  refine T_upg c5 bd_6_7 (by omega) (fun s16 c17 g19 g20 e21 => ?_)
  have f18 := z_Fr.up (R := R_X9_copyFrom_6_48) f6 g19 (by decide)
  have t22 : s16 6 6 = s4 6 6 := g20 6 (by decide)
  have t23 : s16 48 6 = s4 48 6 := g19 48 6 (by decide)
  have t24 : s16 48 7 = s4 48 7 := g19 48 7 (by decide)
  have t25 : s16 48 8 = s4 48 8 := g19 48 8 (by decide)
  refine T_if1 (by decide +kernel) ?_
  refine T_leq (fun x26 e27 => ?_)
  have u28 := CI_b c17 (k := 48) (j := 8) bd_48_8
  refine T_if1 (by decide +kernel) ?_
  refine T_upg c17 bd_6_8 (by omega) (fun s29 c30 g32 g33 e34 => ?_)
  have f31 := z_Fr.up (R := R_X9_copyFrom_6_48) f18 g32 (by decide)
  have t35 : s29 6 6 = s16 6 6 := g33 6 (by decide)
  have t36 : s29 48 6 = s16 48 6 := g32 48 6 (by decide)
  have t37 : s29 48 7 = s16 48 7 := g32 48 7 (by decide)
  have t38 : s29 48 8 = s16 48 8 := g32 48 8 (by decide)
  refine T_if1 (by decide +kernel) ?_
  refine T_let 7 (by decide +kernel) ?_
  refine T_if1 (by decide +kernel) ?_
  refine T_let 49 (by decide +kernel) ?_
  refine T_if1 (by decide +kernel) ?_
  refine T_leq (fun x39 e40 => ?_)
  have u41 := CI_b c30 (k := 6) (j := 6) bd_6_6
  refine T_if1 (by decide +kernel) ?_
  refine T_copy hfu (by decide +kernel) (by decide +kernel) (c := 8) (c2 := 50) (by decide +kernel) (by decide +kernel) (by decide) (by omega) bdr_8 bdr_50 (by decide) (by decide) c30 (fun s42 e45 c43 g46 => ?_)
  have f44 := z_Fr.up (R := R_X9_copyFrom_6_48) f31 g46 (by decide)
  have t47 : s42 6 6 = s29 6 6 := g46 6 6 (by decide)
  have t48 : s42 48 6 = s29 48 6 := g46 48 6 (by decide)
  have t49 : s42 48 7 = s29 48 7 := g46 48 7 (by decide)
  have t50 : s42 48 8 = s29 48 8 := g46 48 8 (by decide)
  refine T_if1 (by decide +kernel) ?_
  refine T_let 9 (by decide +kernel) ?_
  refine T_if1 (by decide +kernel) ?_
  refine T_let 51 (by decide +kernel) ?_
  refine T_if1 (by decide +kernel) ?_
  refine T_leq (fun x51 e52 => ?_)
  have u53 := CI_b c43 (k := 6) (j := 6) bd_6_6
  refine T_if1 (by decide +kernel) ?_
  refine T_copy hfu (by decide +kernel) (by decide +kernel) (c := 10) (c2 := 52) (by decide +kernel) (by decide +kernel) (by decide) (by omega) bdr_10 bdr_52 (by decide) (by decide) c43 (fun s54 e57 c55 g58 => ?_)
  have f56 := z_Fr.up (R := R_X9_copyFrom_6_48) f44 g58 (by decide)
  have t59 : s54 6 6 = s42 6 6 := g58 6 6 (by decide)
  have t60 : s54 48 6 = s42 48 6 := g58 48 6 (by decide)
  have t61 : s54 48 7 = s42 48 7 := g58 48 7 (by decide)
  have t62 : s54 48 8 = s42 48 8 := g58 48 8 (by decide)
  refine T_if1 (by decide +kernel) ?_
  refine T_let 11 (by decide +kernel) ?_
  refine T_if1 (by decide +kernel) ?_
  refine T_let 53 (by decide +kernel) ?_
  refine T_if1 (by decide +kernel) ?_
  refine T_leq (fun x63 e64 => ?_)
  have u65 := CI_b c55 (k := 6) (j := 6) bd_6_6
  refine T_if1 (by decide +kernel) ?_
  refine T_copy hfu (by decide +kernel) (by decide +kernel) (c := 12) (c2 := 54) (by decide +kernel) (by decide +kernel) (by decide) (by omega) bdr_12 bdr_54 (by decide) (by decide) c55 (fun s66 e69 c67 g70 => ?_)
  have f68 := z_Fr.up (R := R_X9_copyFrom_6_48) f56 g70 (by decide)
  have t71 : s66 6 6 = s54 6 6 := g70 6 6 (by decide)
  have t72 : s66 48 6 = s54 48 6 := g70 48 6 (by decide)
  have t73 : s66 48 7 = s54 48 7 := g70 48 7 (by decide)
  have t74 : s66 48 8 = s54 48 8 := g70 48 8 (by decide)
  refine T_if1 (by decide +kernel) ?_
  refine T_let 13 (by decide +kernel) ?_
  refine T_if1 (by decide +kernel) ?_
  refine T_let 55 (by decide +kernel) ?_
  refine T_if1 (by decide +kernel) ?_
  refine T_leq (fun x75 e76 => ?_)
  have u77 := CI_b c67 (k := 6) (j := 6) bd_6_6
  refine T_if1 (by decide +kernel) ?_
  refine T_copy hfu (by decide +kernel) (by decide +kernel) (c := 14) (c2 := 56) (by decide +kernel) (by decide +kernel) (by decide) (by omega) bdr_14 bdr_56 (by decide) (by decide) c67 (fun s78 e81 c79 g82 => ?_)
  have f80 := z_Fr.up (R := R_X9_copyFrom_6_48) f68 g82 (by decide)
  have t83 : s78 6 6 = s66 6 6 := g82 6 6 (by decide)
  have t84 : s78 48 6 = s66 48 6 := g82 48 6 (by decide)
  have t85 : s78 48 7 = s66 48 7 := g82 48 7 (by decide)
  have t86 : s78 48 8 = s66 48 8 := g82 48 8 (by decide)
  refine T_if1 (by decide +kernel) ?_
  refine T_let 15 (by decide +kernel) ?_
  refine T_if1 (by decide +kernel) ?_
  refine T_let 57 (by decide +kernel) ?_
  refine T_if1 (by decide +kernel) ?_
  refine T_leq (fun x87 e88 => ?_)
  have u89 := CI_b c79 (k := 6) (j := 6) bd_6_6
  refine T_if1 (by decide +kernel) ?_
  refine T_lcopy hfu (by decide +kernel) (by decide +kernel) (c := 16) (c2 := 58) (by decide +kernel) (by decide +kernel) (by decide) (by omega) bdr_16 bdr_58 (by decide) (by decide) c79 (fun s90 e93 c91 g94 => ?_)
  have f92 := z_Fr.up (R := R_X9_copyFrom_6_48) f80 g94 (by decide)
  have t95 : s90 6 6 = s78 6 6 := g94 6 6 (by decide)
  have t96 : s90 48 6 = s78 48 6 := g94 48 6 (by decide)
  have t97 : s90 48 7 = s78 48 7 := g94 48 7 (by decide)
  have t98 : s90 48 8 = s78 48 8 := g94 48 8 (by decide)
  refine T_if1 (by decide +kernel) ?_
  refine T_let 17 (by decide +kernel) ?_
  refine T_if1 (by decide +kernel) ?_
  refine T_let 59 (by decide +kernel) ?_
  refine T_if1 (by decide +kernel) ?_
  refine T_leq (fun x99 e100 => ?_)
  have u101 := CI_b c91 (k := 6) (j := 6) bd_6_6
  refine T_if1 (by decide +kernel) ?_
  refine T_lcopy hfu (by decide +kernel) (by decide +kernel) (c := 18) (c2 := 60) (by decide +kernel) (by decide +kernel) (by decide) (by omega) bdr_18 bdr_60 (by decide) (by decide) c91 (fun s102 e105 c103 g106 => ?_)
  have f104 := z_Fr.up (R := R_X9_copyFrom_6_48) f92 g106 (by decide)
  have t107 : s102 6 6 = s90 6 6 := g106 6 6 (by decide)
  have t108 : s102 48 6 = s90 48 6 := g106 48 6 (by decide)
  have t109 : s102 48 7 = s90 48 7 := g106 48 7 (by decide)
  have t110 : s102 48 8 = s90 48 8 := g106 48 8 (by decide)
  exact T_ret ⟨c103, f104, rfl⟩
abbrev R_X9_copyFrom_6_35 (a : Int) : Prop := (6 ≤ a ∧ a ≤ 18)
abbrev P_X9_copyFrom_6_35 (r0 : z_M) : z_V → z_M → Prop := fun v s' => z_CI s' ∧ z_Fr R_X9_copyFrom_6_35 r0 s' ∧ (v = vN)
theorem sf_X9_copyFrom_6_35 {fu : Nat} (hfu : 8589934592 ≤ fu) (r0 : z_M) (c0 : z_CI r0) : z_T (fX9_copyFrom fu r0 6 35) (P_X9_copyFrom_6_35 r0) := by
  refine T_of (fX9_copyFrom.eq_1 ..) ?_
  refine T_if1 (by decide +kernel) ?_
  refine T_leq (fun x1 e2 => ?_)
  have u3 := CI_b c0 (k := 35) (j := 6) bd_35_6
  refine T_if1 (by decide +kernel) ?_
  refine T_upg c0 bd_6_6 (by omega) (fun s4 c5 g7 g8 e9 => ?_)
  have f6 := z_Fr.up (R := R_X9_copyFrom_6_35) z_Fr.rf g7 (by decide)
  have t10 : s4 35 6 = r0 35 6 := g7 35 6 (by decide)
  have t11 : s4 35 7 = r0 35 7 := g7 35 7 (by decide)
  have t12 : s4 35 8 = r0 35 8 := g7 35 8 (by decide)
  refine T_if1 (by decide +kernel) ?_
  refine T_leq (fun x13 e14 => ?_)
  have u15 := CI_b c5 (k := 35) (j := 7) bd_35_7
  refine T_if1 (by decide +kernel) ?_
  refine T_upg c5 bd_6_7 (by omega) (fun s16 c17 g19 g20 e21 => ?_)
  have f18 := z_Fr.up (R := R_X9_copyFrom_6_35) f6 g19 (by decide)
  have t22 : s16 6 6 = s4 6 6 := g20 6 (by decide)
  have t23 : s16 35 6 = s4 35 6 := g19 35 6 (by decide)
  have t24 : s16 35 7 = s4 35 7 := g19 35 7 (by decide)
  have t25 : s16 35 8 = s4 35 8 := g19 35 8 (by decide)
  refine T_if1 (by decide +kernel) ?_
  refine T_leq (fun x26 e27 => ?_)
  have u28 := CI_b c17 (k := 35) (j := 8) bd_35_8
  refine T_if1 (by decide +kernel) ?_
  refine T_upg c17 bd_6_8 (by omega) (fun s29 c30 g32 g33 e34 => ?_)
  have f31 := z_Fr.up (R := R_X9_copyFrom_6_35) f18 g32 (by decide)
  have t35 : s29 6 6 = s16 6 6 := g33 6 (by decide)
  have t36 : s29 35 6 = s16 35 6 := g32 35 6 (by decide)
  have t37 : s29 35 7 = s16 35 7 := g32 35 7 (by decide)
  have t38 : s29 35 8 = s16 35 8 := g32 35 8 (by decide)
  refine T_if1 (by decide +kernel) ?_
  refine T_let 7 (by decide +kernel) ?_
  refine T_if1 (by decide +kernel) ?_
  refine T_let 36 (by decide +kernel) ?_
  refine T_if1 (by decide +kernel) ?_
  refine T_leq (fun x39 e40 => ?_)
  have u41 := CI_b c30 (k := 6) (j := 6) bd_6_6
  refine T_if1 (by decide +kernel) ?_
  refine T_copy hfu (by decide +kernel) (by decide +kernel) (c := 8) (c2 := 37) (by decide +kernel) (by decide +kernel) (by decide) (by omega) bdr_8 bdr_37 (by decide) (by decide) c30 (fun s42 e45 c43 g46 => ?_)
  have f44 := z_Fr.up (R := R_X9_copyFrom_6_35) f31 g46 (by decide)
  have t47 : s42 6 6 = s29 6 6 := g46 6 6 (by decide)
  have t48 : s42 35 6 = s29 35 6 := g46 35 6 (by decide)
  have t49 : s42 35 7 = s29 35 7 := g46 35 7 (by decide)
  have t50 : s42 35 8 = s29 35 8 := g46 35 8 (by decide)
  refine T_if1 (by decide +kernel) ?_
  refine T_let 9 (by decide +kernel) ?_
  refine T_if1 (by decide +kernel) ?_
  refine T_let 38 (by decide +kernel) ?_
  refine T_if1 (by decide +kernel) ?_
  refine T_leq (fun x51 e52 => ?_)
  have u53 := CI_b c43 (k := 6) (j := 6) bd_6_6
  refine T_if1 (by decide +kernel) ?_
  refine T_copy hfu (by decide +kernel) (by decide +kernel) (c := 10) (c2 := 39) (by decide +kernel) (by decide +kernel) (by decide) (by omega) bdr_10 bdr_39 (by decide) (by decide) c43 (fun s54 e57 c55 g58 => ?_)
  have f56 := z_Fr.up (R := R_X9_copyFrom_6_35) f44 g58 (by decide)
  have t59 : s54 6 6 = s42 6 6 := g58 6 6 (by decide)
  have t60 : s54 35 6 = s42 35 6 := g58 35 6 (by decide)
  have t61 : s54 35 7 = s42 35 7 := g58 35 7 (by decide)
  have t62 : s54 35 8 = s42 35 8 := g58 35 8 (by decide)
  refine T_if1 (by decide +kernel) ?_
  refine T_let 11 (by decide +kernel) ?_
  refine T_if1 (by decide +kernel) ?_
  refine T_let 40 (by decide +kernel) ?_
  refine T_if1 (by decide +kernel) ?_
  refine T_leq (fun x63 e64 => ?_)
  have u65 := CI_b c55 (k := 6) (j := 6) bd_6_6
  refine T_if1 (by decide +kernel) ?_
  refine T_copy hfu (by decide +kernel) (by decide +kernel) (c := 12) (c2 := 41) (by decide +kernel) (by decide +kernel) (by decide) (by omega) bdr_12 bdr_41 (by decide) (by decide) c55 (fun s66 e69 c67 g70 => ?_)
  have f68 := z_Fr.up (R := R_X9_copyFrom_6_35) f56 g70 (by decide)
  have t71 : s66 6 6 = s54 6 6 := g70 6 6 (by decide)
  have t72 : s66 35 6 = s54 35 6 := g70 35 6 (by decide)
  have t73 : s66 35 7 = s54 35 7 := g70 35 7 (by decide)
  have t74 : s66 35 8 = s54 35 8 := g70 35 8 (by decide)
  refine T_if1 (by decide +kernel) ?_
  refine T_let 13 (by decide +kernel) ?_
  refine T_if1 (by decide +kernel) ?_
  refine T_let 42 (by decide +kernel) ?_
  refine T_if1 (by decide +kernel) ?_
  refine T_leq (fun x75 e76 => ?_)
  have u77 := CI_b c67 (k := 6) (j := 6) bd_6_6
  refine T_if1 (by decide +kernel) ?_
  refine T_copy hfu (by decide +kernel) (by decide +kernel) (c := 14) (c2 := 43) (by decide +kernel) (by decide +kernel) (by decide) (by omega) bdr_14 bdr_43 (by decide) (by decide) c67 (fun s78 e81 c79 g82 => ?_)
  have f80 := z_Fr.up (R := R_X9_copyFrom_6_35) f68 g82 (by decide)
  have t83 : s78 6 6 = s66 6 6 := g82 6 6 (by decide)
  have t84 : s78 35 6 = s66 35 6 := g82 35 6 (by decide)
  have t85 : s78 35 7 = s66 35 7 := g82 35 7 (by decide)
  have t86 : s78 35 8 = s66 35 8 := g82 35 8 (by decide)
  refine T_if1 (by decide +kernel) ?_
  refine T_let 15 (by decide +kernel) ?_
  refine T_if1 (by decide +kernel) ?_
  refine T_let 44 (by decide +kernel) ?_
  refine T_if1 (by decide +kernel) ?_
  refine T_leq (fun x87 e88 => ?_)
  have u89 := CI_b c79 (k := 6) (j := 6) bd_6_6
  refine T_if1 (by decide +kernel) ?_
  refine T_lcopy hfu (by decide +kernel) (by decide +kernel) (c := 16) (c2 := 45) (by decide +kernel) (by decide +kernel) (by decide) (by omega) bdr_16 bdr_45 (by decide) (by decide) c79 (fun s90 e93 c91 g94 => ?_)
  have f92 := z_Fr.up (R := R_X9_copyFrom_6_35) f80 g94 (by decide)
  have t95 : s90 6 6 = s78 6 6 := g94 6 6 (by decide)
  have t96 : s90 35 6 = s78 35 6 := g94 35 6 (by decide)
  have t97 : s90 35 7 = s78 35 7 := g94 35 7 (by decide)
  have t98 : s90 35 8 = s78 35 8 := g94 35 8 (by decide)
  refine T_if1 (by decide +kernel) ?_
  refine T_let 17 (by decide +kernel) ?_
  refine T_if1 (by decide +kernel) ?_
  refine T_let 46 (by decide +kernel) ?_
  refine T_if1 (by decide +kernel) ?_
  refine T_leq (fun x99 e100 => ?_)
  have u101 := CI_b c91 (k := 6) (j := 6) bd_6_6
  refine T_if1 (by decide +kernel) ?_
  refine T_lcopy hfu (by decide +kernel) (by decide +kernel) (c := 18) (c2 := 47) (by decide +kernel) (by decide +kernel) (by decide) (by omega) bdr_18 bdr_47 (by decide) (by decide) c91 (fun s102 e105 c103 g106 => ?_)
  have f104 := z_Fr.up (R := R_X9_copyFrom_6_35) f92 g106 (by decide)
  have t107 : s102 6 6 = s90 6 6 := g106 6 6 (by decide)
  have t108 : s102 35 6 = s90 35 6 := g106 35 6 (by decide)
  have t109 : s102 35 7 = s90 35 7 := g106 35 7 (by decide)
  have t110 : s102 35 8 = s90 35 8 := g106 35 8 (by decide)
  exact T_ret ⟨c103, f104, rfl⟩
abbrev R_X2_takeBack_33_6 (a : Int) : Prop := (6 ≤ a ∧ a ≤ 18) ∨ (33 ≤ a ∧ a ≤ 33)
abbrev P_X2_takeBack_33_6 (r0 : z_M) : z_V → z_M → Prop := fun v s' => z_CI s' ∧ z_Fr R_X2_takeBack_33_6 r0 s' ∧ (∃ x, v = vI x ∧ 0 ≤ x ∧ x ≤ 1)
theorem sj_X2_takeBack_33_6_J38 {fu : Nat} (hfu : 8589934592 ≤ fu) (r0 s : z_M) (c : z_CI s) (f : z_Fr R_X2_takeBack_33_6 r0 s) (t1 : Int) (d1 : 0 ≤ t1 ∧ t1 ≤ 11) : z_T (fX2_takeBack_J38 fu s 33 6 33 t1) (P_X2_takeBack_33_6 r0) := by
  refine T_of (fX2_takeBack_J38.eq_1 ..) ?_
  have u1 := CI_b c (k := 33) (j := 1) bd_33_1
  have u2 := CI_b c (k := 33) (j := 2) bd_33_2
  refine T_if1 (by decide +kernel) ?_
  refine T_upg c bd_33_1 (by omega) (fun s3 c4 g6 g7 e8 => ?_)
  have f5 := z_Fr.up (R := R_X2_takeBack_33_6) f g6 (by decide)
  have t9 : s3 33 2 = s 33 2 := g7 2 (by decide)
  refine T_if1 (by decide +kernel) ?_
  refine T_bR ?_
  refine T_of (fX2_place.eq_1 ..) ?_
  refine T_if1 (by decide +kernel) ?_
  refine T_leq (fun x10 e11 => ?_)
  have u12 := CI_b c4 (k := 33) (j := 1) bd_33_1
  refine T_ite (fun h13 => ?_) (fun h13 => ?_)
  · refine T_of (fX2_place_J31.eq_1 ..) ?_
    exfalso
    omega
  · refine T_if1 (by decide +kernel) ?_
    refine T_leq (fun x14 e15 => ?_)
    have u16 := CI_b c4 (k := 33) (j := 1) bd_33_1
    refine T_if1 (by decide +kernel) ?_
    refine T_let 34 (by decide +kernel) ?_
    refine T_if1 (by decide +kernel) ?_
    refine T_let 12 (by decide +kernel) ?_
    refine T_ite (fun h17 => ?_) (fun h17 => ?_)
    · refine T_of (fX2_place_J31.eq_1 ..) ?_
      exfalso
      omega
    · refine T_if1 (by decide +kernel) ?_
      refine T_let 34 (by decide +kernel) ?_
      refine T_if1 (by decide +kernel) ?_
      refine T_leq (fun x18 e19 => ?_)
      have u20 := CI_b c4 (k := 33) (j := 1) bd_33_1
      rcases (show x18 = 0 ∨ x18 = 1 ∨ x18 = 2 ∨ x18 = 3 ∨ x18 = 4 ∨ x18 = 5 ∨ x18 = 6 ∨ x18 = 7 ∨ x18 = 8 ∨ x18 = 9 ∨ x18 = 10 ∨ x18 = 11 by omega) with rfl | rfl | rfl | rfl | rfl | rfl | rfl | rfl | rfl | rfl | rfl | rfl
      · refine T_if1 (by decide +kernel) ?_
        refine T_let 35 (by decide +kernel) ?_
        refine T_of (fX2_place_J32.eq_1 ..) ?_
        refine T_rR ?_
        refine T_if1 (by decide) ?_
        refine T_if1 (by decide +kernel) ?_
        refine T_useN (sf_X9_copyFrom_6_35 hfu s3 c4) (fun v27 s22 hq => ?_)
        obtain ⟨c23, f24, rfl⟩ := hq
        refine T_vN ?_
        have f25 := z_Fr.tr (R := R_X2_takeBack_33_6) f5 f24 (fun a h => by unfold R_X9_copyFrom_6_35 at h; unfold R_X2_takeBack_33_6; omega)
        have t30 : s22 33 1 = s3 33 1 := f24 33 1 (by decide)
        have t31 : s22 33 2 = s3 33 2 := f24 33 2 (by decide)
        refine T_if1 (by unfold z_bl; omega) ?_
        exact T_ret ⟨c23, f25, ⟨1, rfl, by omega, by omega⟩⟩
      · refine T_if1 (by decide +kernel) ?_
        refine T_let 48 (by decide +kernel) ?_
        refine T_of (fX2_place_J32.eq_1 ..) ?_
        refine T_rR ?_
        refine T_if1 (by decide) ?_
        refine T_if1 (by decide +kernel) ?_
        refine T_useN (sf_X9_copyFrom_6_48 hfu s3 c4) (fun v37 s32 hq => ?_)
        obtain ⟨c33, f34, rfl⟩ := hq
        refine T_vN ?_
        have f35 := z_Fr.tr (R := R_X2_takeBack_33_6) f5 f34 (fun a h => by unfold R_X9_copyFrom_6_48 at h; unfold R_X2_takeBack_33_6; omega)
        have t40 : s32 33 1 = s3 33 1 := f34 33 1 (by decide)
        have t41 : s32 33 2 = s3 33 2 := f34 33 2 (by decide)
        refine T_if1 (by unfold z_bl; omega) ?_
        exact T_ret ⟨c33, f35, ⟨1, rfl, by omega, by omega⟩⟩
      · refine T_if1 (by decide +kernel) ?_
        refine T_let 61 (by decide +kernel) ?_
        refine T_of (fX2_place_J32.eq_1 ..) ?_
        refine T_rR ?_
        refine T_if1 (by decide) ?_
        refine T_if1 (by decide +kernel) ?_
        refine T_useN (sf_X9_copyFrom_6_61 hfu s3 c4) (fun v47 s42 hq => ?_)
        obtain ⟨c43, f44, rfl⟩ := hq
        refine T_vN ?_
        have f45 := z_Fr.tr (R := R_X2_takeBack_33_6) f5 f44 (fun a h => by unfold R_X9_copyFrom_6_61 at h; unfold R_X2_takeBack_33_6; omega)
        have t50 : s42 33 1 = s3 33 1 := f44 33 1 (by decide)
        have t51 : s42 33 2 = s3 33 2 := f44 33 2 (by decide)
        refine T_if1 (by unfold z_bl; omega) ?_
        exact T_ret ⟨c43, f45, ⟨1, rfl, by omega, by omega⟩⟩
      · refine T_if1 (by decide +kernel) ?_
        refine T_let 74 (by decide +kernel) ?_
        refine T_of (fX2_place_J32.eq_1 ..) ?_
        refine T_rR ?_
        refine T_if1 (by decide) ?_
        refine T_if1 (by decide +kernel) ?_
        refine T_useN (sf_X9_copyFrom_6_74 hfu s3 c4) (fun v57 s52 hq => ?_)
        obtain ⟨c53, f54, rfl⟩ := hq
        refine T_vN ?_
        have f55 := z_Fr.tr (R := R_X2_takeBack_33_6) f5 f54 (fun a h => by unfold R_X9_copyFrom_6_74 at h; unfold R_X2_takeBack_33_6; omega)
        have t60 : s52 33 1 = s3 33 1 := f54 33 1 (by decide)
        have t61 : s52 33 2 = s3 33 2 := f54 33 2 (by decide)
        refine T_if1 (by unfold z_bl; omega) ?_
        exact T_ret ⟨c53, f55, ⟨1, rfl, by omega, by omega⟩⟩
      · refine T_if1 (by decide +kernel) ?_
        refine T_let 87 (by decide +kernel) ?_
        refine T_of (fX2_place_J32.eq_1 ..) ?_
        refine T_rR ?_
        refine T_if1 (by decide) ?_
        refine T_if1 (by decide +kernel) ?_
        refine T_useN (sf_X9_copyFrom_6_87 hfu s3 c4) (fun v67 s62 hq => ?_)
        obtain ⟨c63, f64, rfl⟩ := hq
        refine T_vN ?_
        have f65 := z_Fr.tr (R := R_X2_takeBack_33_6) f5 f64 (fun a h => by unfold R_X9_copyFrom_6_87 at h; unfold R_X2_takeBack_33_6; omega)
        have t70 : s62 33 1 = s3 33 1 := f64 33 1 (by decide)
        have t71 : s62 33 2 = s3 33 2 := f64 33 2 (by decide)
        refine T_if1 (by unfold z_bl; omega) ?_
        exact T_ret ⟨c63, f65, ⟨1, rfl, by omega, by omega⟩⟩
      · refine T_if1 (by decide +kernel) ?_
        refine T_let 100 (by decide +kernel) ?_
        refine T_of (fX2_place_J32.eq_1 ..) ?_
        refine T_rR ?_
        refine T_if1 (by decide) ?_
        refine T_if1 (by decide +kernel) ?_
        refine T_useN (sf_X9_copyFrom_6_100 hfu s3 c4) (fun v77 s72 hq => ?_)
        obtain ⟨c73, f74, rfl⟩ := hq
        refine T_vN ?_
        have f75 := z_Fr.tr (R := R_X2_takeBack_33_6) f5 f74 (fun a h => by unfold R_X9_copyFrom_6_100 at h; unfold R_X2_takeBack_33_6; omega)
        have t80 : s72 33 1 = s3 33 1 := f74 33 1 (by decide)
        have t81 : s72 33 2 = s3 33 2 := f74 33 2 (by decide)
        refine T_if1 (by unfold z_bl; omega) ?_
        exact T_ret ⟨c73, f75, ⟨1, rfl, by omega, by omega⟩⟩
      · refine T_if1 (by decide +kernel) ?_
        refine T_let 113 (by decide +kernel) ?_
        refine T_of (fX2_place_J32.eq_1 ..) ?_
        refine T_rR ?_
        refine T_if1 (by decide) ?_
        refine T_if1 (by decide +kernel) ?_
        refine T_useN (sf_X9_copyFrom_6_113 hfu s3 c4) (fun v87 s82 hq => ?_)
        obtain ⟨c83, f84, rfl⟩ := hq
        refine T_vN ?_
        have f85 := z_Fr.tr (R := R_X2_takeBack_33_6) f5 f84 (fun a h => by unfold R_X9_copyFrom_6_113 at h; unfold R_X2_takeBack_33_6; omega)
        have t90 : s82 33 1 = s3 33 1 := f84 33 1 (by decide)
        have t91 : s82 33 2 = s3 33 2 := f84 33 2 (by decide)
        refine T_if1 (by unfold z_bl; omega) ?_
        exact T_ret ⟨c83, f85, ⟨1, rfl, by omega, by omega⟩⟩
      · refine T_if1 (by decide +kernel) ?_
        refine T_let 126 (by decide +kernel) ?_
        refine T_of (fX2_place_J32.eq_1 ..) ?_
        refine T_rR ?_
        refine T_if1 (by decide) ?_
        refine T_if1 (by decide +kernel) ?_
        refine T_useN (sf_X9_copyFrom_6_126 hfu s3 c4) (fun v97 s92 hq => ?_)
        obtain ⟨c93, f94, rfl⟩ := hq
        refine T_vN ?_
        have f95 := z_Fr.tr (R := R_X2_takeBack_33_6) f5 f94 (fun a h => by unfold R_X9_copyFrom_6_126 at h; unfold R_X2_takeBack_33_6; omega)
        have t100 : s92 33 1 = s3 33 1 := f94 33 1 (by decide)
        have t101 : s92 33 2 = s3 33 2 := f94 33 2 (by decide)
        refine T_if1 (by unfold z_bl; omega) ?_
        exact T_ret ⟨c93, f95, ⟨1, rfl, by omega, by omega⟩⟩
      · refine T_if1 (by decide +kernel) ?_
        refine T_let 139 (by decide +kernel) ?_
        refine T_of (fX2_place_J32.eq_1 ..) ?_
        refine T_rR ?_
        refine T_if1 (by decide) ?_
        refine T_if1 (by decide +kernel) ?_
        refine T_useN (sf_X9_copyFrom_6_139 hfu s3 c4) (fun v107 s102 hq => ?_)
        obtain ⟨c103, f104, rfl⟩ := hq
        refine T_vN ?_
        have f105 := z_Fr.tr (R := R_X2_takeBack_33_6) f5 f104 (fun a h => by unfold R_X9_copyFrom_6_139 at h; unfold R_X2_takeBack_33_6; omega)
        have t110 : s102 33 1 = s3 33 1 := f104 33 1 (by decide)
        have t111 : s102 33 2 = s3 33 2 := f104 33 2 (by decide)
        refine T_if1 (by unfold z_bl; omega) ?_
        exact T_ret ⟨c103, f105, ⟨1, rfl, by omega, by omega⟩⟩
      · refine T_if1 (by decide +kernel) ?_
        refine T_let 152 (by decide +kernel) ?_
        refine T_of (fX2_place_J32.eq_1 ..) ?_
        refine T_rR ?_
        refine T_if1 (by decide) ?_
        refine T_if1 (by decide +kernel) ?_
        refine T_useN (sf_X9_copyFrom_6_152 hfu s3 c4) (fun v117 s112 hq => ?_)
        obtain ⟨c113, f114, rfl⟩ := hq
        refine T_vN ?_
        have f115 := z_Fr.tr (R := R_X2_takeBack_33_6) f5 f114 (fun a h => by unfold R_X9_copyFrom_6_152 at h; unfold R_X2_takeBack_33_6; omega)
        have t120 : s112 33 1 = s3 33 1 := f114 33 1 (by decide)
        have t121 : s112 33 2 = s3 33 2 := f114 33 2 (by decide)
        refine T_if1 (by unfold z_bl; omega) ?_
        exact T_ret ⟨c113, f115, ⟨1, rfl, by omega, by omega⟩⟩
      · refine T_if1 (by decide +kernel) ?_
        refine T_let 165 (by decide +kernel) ?_
        refine T_of (fX2_place_J32.eq_1 ..) ?_
        refine T_rR ?_
        refine T_if1 (by decide) ?_
        refine T_if1 (by decide +kernel) ?_
        refine T_useN (sf_X9_copyFrom_6_165 hfu s3 c4) (fun v127 s122 hq => ?_)
        obtain ⟨c123, f124, rfl⟩ := hq
        refine T_vN ?_
        have f125 := z_Fr.tr (R := R_X2_takeBack_33_6) f5 f124 (fun a h => by unfold R_X9_copyFrom_6_165 at h; unfold R_X2_takeBack_33_6; omega)
        have t130 : s122 33 1 = s3 33 1 := f124 33 1 (by decide)
        have t131 : s122 33 2 = s3 33 2 := f124 33 2 (by decide)
        refine T_if1 (by unfold z_bl; omega) ?_
        exact T_ret ⟨c123, f125, ⟨1, rfl, by omega, by omega⟩⟩
      · refine T_if1 (by decide +kernel) ?_
        refine T_let 178 (by decide +kernel) ?_
        refine T_of (fX2_place_J32.eq_1 ..) ?_
        refine T_rR ?_
        refine T_if1 (by decide) ?_
        refine T_if1 (by decide +kernel) ?_
        refine T_useN (sf_X9_copyFrom_6_178 hfu s3 c4) (fun v137 s132 hq => ?_)
        obtain ⟨c133, f134, rfl⟩ := hq
        refine T_vN ?_
        have f135 := z_Fr.tr (R := R_X2_takeBack_33_6) f5 f134 (fun a h => by unfold R_X9_copyFrom_6_178 at h; unfold R_X2_takeBack_33_6; omega)
        have t140 : s132 33 1 = s3 33 1 := f134 33 1 (by decide)
        have t141 : s132 33 2 = s3 33 2 := f134 33 2 (by decide)
        refine T_if1 (by unfold z_bl; omega) ?_
        exact T_ret ⟨c133, f135, ⟨1, rfl, by omega, by omega⟩⟩
theorem sf_X2_takeBack_33_6 {fu : Nat} (hfu : 8589934592 ≤ fu) (r0 : z_M) (c0 : z_CI r0) : z_T (fX2_takeBack fu r0 33 6) (P_X2_takeBack_33_6 r0) := by
  refine T_of (fX2_takeBack.eq_1 ..) ?_
  refine T_if1 (by decide +kernel) ?_
  refine T_leq (fun x1 e2 => ?_)
  have u3 := CI_b c0 (k := 33) (j := 2) bd_33_2
  refine T_ite (fun h4 => ?_) (fun h4 => ?_)
  · refine T_if1 (by decide +kernel) ?_
    refine T_leq (fun x5 e6 => ?_)
    have u7 := CI_b c0 (k := 33) (j := 2) bd_33_2
    refine T_leq (fun x8 e9 => ?_)
    have w10 := z_wb e9
    refine T_if1 (by decide +kernel) ?_
    refine T_upg c0 bd_33_2 (by omega) (fun s11 c12 g14 g15 e16 => ?_)
    have f13 := z_Fr.up (R := R_X2_takeBack_33_6) z_Fr.rf g14 (by decide)
    have t17 : s11 33 1 = r0 33 1 := g15 1 (by decide)
    refine T_if1 (by decide +kernel) ?_
    refine T_leq (fun x18 e19 => ?_)
    have u20 := CI_b c12 (k := 33) (j := 1) bd_33_1
    refine T_ite (fun h21 => ?_) (fun h21 => ?_)
    · exact sj_X2_takeBack_33_6_J38 hfu r0 s11 c12 f13 11 (by omega)
    · refine T_if1 (by decide +kernel) ?_
      refine T_leq (fun x22 e23 => ?_)
      have u24 := CI_b c12 (k := 33) (j := 1) bd_33_1
      refine T_leq (fun x25 e26 => ?_)
      have w27 := z_wb e26
      exact sj_X2_takeBack_33_6_J38 hfu r0 s11 c12 f13 x25 (by omega)
  · refine T_if1 (by unfold z_bl; omega) ?_
    exact T_ret ⟨c0, z_Fr.rf, ⟨0, rfl, by omega, by omega⟩⟩
abbrev R_X9_clear_19 (a : Int) : Prop := (19 ≤ a ∧ a ≤ 19)
abbrev P_X9_clear_19 (r0 : z_M) : z_V → z_M → Prop := fun v s' => z_CI s' ∧ z_Fr R_X9_clear_19 r0 s' ∧ (v = vN)
theorem sf_X9_clear_19 {fu : Nat} (hfu : 8589934592 ≤ fu) (r0 : z_M) (c0 : z_CI r0) : z_T (fX9_clear fu r0 19) (P_X9_clear_19 r0) := by
  refine T_of (fX9_clear.eq_1 ..) ?_
  refine T_if1 (by decide +kernel) ?_
  refine T_upg c0 bd_19_6 (by omega) (fun s1 c2 g4 g5 e6 => ?_)
  have f3 := z_Fr.up (R := R_X9_clear_19) z_Fr.rf g4 (by decide)
  refine T_if1 (by decide +kernel) ?_
  refine T_upg c2 bd_19_7 (by omega) (fun s7 c8 g10 g11 e12 => ?_)
  have f9 := z_Fr.up (R := R_X9_clear_19) f3 g10 (by decide)
  refine T_if1 (by decide +kernel) ?_
  refine T_upg c8 bd_19_8 (by omega) (fun s13 c14 g16 g17 e18 => ?_)
  have f15 := z_Fr.up (R := R_X9_clear_19) f9 g16 (by decide)
  exact T_ret ⟨c14, f15, rfl⟩
abbrev R_X9_copyFrom_19_6 (a : Int) : Prop := (19 ≤ a ∧ a ≤ 31)
abbrev P_X9_copyFrom_19_6 (r0 : z_M) : z_V → z_M → Prop := fun v s' => z_CI s' ∧ z_Fr R_X9_copyFrom_19_6 r0 s' ∧ (v = vN)
theorem sf_X9_copyFrom_19_6 {fu : Nat} (hfu : 8589934592 ≤ fu) (r0 : z_M) (c0 : z_CI r0) : z_T (fX9_copyFrom fu r0 19 6) (P_X9_copyFrom_19_6 r0) := by
  refine T_of (fX9_copyFrom.eq_1 ..) ?_
  refine T_if1 (by decide +kernel) ?_
  refine T_leq (fun x1 e2 => ?_)
  have u3 := CI_b c0 (k := 6) (j := 6) bd_6_6
  refine T_if1 (by decide +kernel) ?_
  refine T_upg c0 bd_19_6 (by omega) (fun s4 c5 g7 g8 e9 => ?_)
  have f6 := z_Fr.up (R := R_X9_copyFrom_19_6) z_Fr.rf g7 (by decide)
  have t10 : s4 6 6 = r0 6 6 := g7 6 6 (by decide)
  have t11 : s4 6 7 = r0 6 7 := g7 6 7 (by decide)
  have t12 : s4 6 8 = r0 6 8 := g7 6 8 (by decide)
  refine T_if1 (by decide +kernel) ?_
  refine T_leq (fun x13 e14 => ?_)
  have u15 := CI_b c5 (k := 6) (j := 7) bd_6_7
  refine T_if1 (by decide +kernel) ?_
  refine T_upg c5 bd_19_7 (by omega) (fun s16 c17 g19 g20 e21 => ?_)
  have f18 := z_Fr.up (R := R_X9_copyFrom_19_6) f6 g19 (by decide)
  have t22 : s16 6 6 = s4 6 6 := g19 6 6 (by decide)
  have t23 : s16 6 7 = s4 6 7 := g19 6 7 (by decide)
  have t24 : s16 6 8 = s4 6 8 := g19 6 8 (by decide)
  have t25 : s16 19 6 = s4 19 6 := g20 6 (by decide)
  refine T_if1 (by decide +kernel) ?_
  refine T_leq (fun x26 e27 => ?_)
  have u28 := CI_b c17 (k := 6) (j := 8) bd_6_8
  refine T_if1 (by decide +kernel) ?_
  refine T_upg c17 bd_19_8 (by omega) (fun s29 c30 g32 g33 e34 => ?_)
  have f31 := z_Fr.up (R := R_X9_copyFrom_19_6) f18 g32 (by decide)
  have t35 : s29 6 6 = s16 6 6 := g32 6 6 (by decide)
  have t36 : s29 6 7 = s16 6 7 := g32 6 7 (by decide)
  have t37 : s29 6 8 = s16 6 8 := g32 6 8 (by decide)
  have t38 : s29 19 6 = s16 19 6 := g33 6 (by decide)
  refine T_if1 (by decide +kernel) ?_
  refine T_let 20 (by decide +kernel) ?_
  refine T_if1 (by decide +kernel) ?_
  refine T_let 7 (by decide +kernel) ?_
  refine T_if1 (by decide +kernel) ?_
  refine T_leq (fun x39 e40 => ?_)
  have u41 := CI_b c30 (k := 19) (j := 6) bd_19_6
  refine T_if1 (by decide +kernel) ?_
  refine T_copy hfu (by decide +kernel) (by decide +kernel) (c := 21) (c2 := 8) (by decide +kernel) (by decide +kernel) (by decide) (by omega) bdr_21 bdr_8 (by decide) (by decide) c30 (fun s42 e45 c43 g46 => ?_)
  have f44 := z_Fr.up (R := R_X9_copyFrom_19_6) f31 g46 (by decide)
  have t47 : s42 6 6 = s29 6 6 := g46 6 6 (by decide)
  have t48 : s42 6 7 = s29 6 7 := g46 6 7 (by decide)
  have t49 : s42 6 8 = s29 6 8 := g46 6 8 (by decide)
  have t50 : s42 19 6 = s29 19 6 := g46 19 6 (by decide)
  refine T_if1 (by decide +kernel) ?_
  refine T_let 22 (by decide +kernel) ?_
  refine T_if1 (by decide +kernel) ?_
  refine T_let 9 (by decide +kernel) ?_
  refine T_if1 (by decide +kernel) ?_
  refine T_leq (fun x51 e52 => ?_)
  have u53 := CI_b c43 (k := 19) (j := 6) bd_19_6
  refine T_if1 (by decide +kernel) ?_
  refine T_copy hfu (by decide +kernel) (by decide +kernel) (c := 23) (c2 := 10) (by decide +kernel) (by decide +kernel) (by decide) (by omega) bdr_23 bdr_10 (by decide) (by decide) c43 (fun s54 e57 c55 g58 => ?_)
  have f56 := z_Fr.up (R := R_X9_copyFrom_19_6) f44 g58 (by decide)
  have t59 : s54 6 6 = s42 6 6 := g58 6 6 (by decide)
  have t60 : s54 6 7 = s42 6 7 := g58 6 7 (by decide)
  have t61 : s54 6 8 = s42 6 8 := g58 6 8 (by decide)
  have t62 : s54 19 6 = s42 19 6 := g58 19 6 (by decide)
  refine T_if1 (by decide +kernel) ?_
  refine T_let 24 (by decide +kernel) ?_
  refine T_if1 (by decide +kernel) ?_
  refine T_let 11 (by decide +kernel) ?_
  refine T_if1 (by decide +kernel) ?_
  refine T_leq (fun x63 e64 => ?_)
  have u65 := CI_b c55 (k := 19) (j := 6) bd_19_6
  refine T_if1 (by decide +kernel) ?_
  refine T_copy hfu (by decide +kernel) (by decide +kernel) (c := 25) (c2 := 12) (by decide +kernel) (by decide +kernel) (by decide) (by omega) bdr_25 bdr_12 (by decide) (by decide) c55 (fun s66 e69 c67 g70 => ?_)
  have f68 := z_Fr.up (R := R_X9_copyFrom_19_6) f56 g70 (by decide)
  have t71 : s66 6 6 = s54 6 6 := g70 6 6 (by decide)
  have t72 : s66 6 7 = s54 6 7 := g70 6 7 (by decide)
  have t73 : s66 6 8 = s54 6 8 := g70 6 8 (by decide)
  have t74 : s66 19 6 = s54 19 6 := g70 19 6 (by decide)
  refine T_if1 (by decide +kernel) ?_
  refine T_let 26 (by decide +kernel) ?_
  refine T_if1 (by decide +kernel) ?_
  refine T_let 13 (by decide +kernel) ?_
  refine T_if1 (by decide +kernel) ?_
  refine T_leq (fun x75 e76 => ?_)
  have u77 := CI_b c67 (k := 19) (j := 6) bd_19_6
  refine T_if1 (by decide +kernel) ?_
  refine T_copy hfu (by decide +kernel) (by decide +kernel) (c := 27) (c2 := 14) (by decide +kernel) (by decide +kernel) (by decide) (by omega) bdr_27 bdr_14 (by decide) (by decide) c67 (fun s78 e81 c79 g82 => ?_)
  have f80 := z_Fr.up (R := R_X9_copyFrom_19_6) f68 g82 (by decide)
  have t83 : s78 6 6 = s66 6 6 := g82 6 6 (by decide)
  have t84 : s78 6 7 = s66 6 7 := g82 6 7 (by decide)
  have t85 : s78 6 8 = s66 6 8 := g82 6 8 (by decide)
  have t86 : s78 19 6 = s66 19 6 := g82 19 6 (by decide)
  refine T_if1 (by decide +kernel) ?_
  refine T_let 28 (by decide +kernel) ?_
  refine T_if1 (by decide +kernel) ?_
  refine T_let 15 (by decide +kernel) ?_
  refine T_if1 (by decide +kernel) ?_
  refine T_leq (fun x87 e88 => ?_)
  have u89 := CI_b c79 (k := 19) (j := 6) bd_19_6
  refine T_if1 (by decide +kernel) ?_
  refine T_lcopy hfu (by decide +kernel) (by decide +kernel) (c := 29) (c2 := 16) (by decide +kernel) (by decide +kernel) (by decide) (by omega) bdr_29 bdr_16 (by decide) (by decide) c79 (fun s90 e93 c91 g94 => ?_)
  have f92 := z_Fr.up (R := R_X9_copyFrom_19_6) f80 g94 (by decide)
  have t95 : s90 6 6 = s78 6 6 := g94 6 6 (by decide)
  have t96 : s90 6 7 = s78 6 7 := g94 6 7 (by decide)
  have t97 : s90 6 8 = s78 6 8 := g94 6 8 (by decide)
  have t98 : s90 19 6 = s78 19 6 := g94 19 6 (by decide)
  refine T_if1 (by decide +kernel) ?_
  refine T_let 30 (by decide +kernel) ?_
  refine T_if1 (by decide +kernel) ?_
  refine T_let 17 (by decide +kernel) ?_
  refine T_if1 (by decide +kernel) ?_
  refine T_leq (fun x99 e100 => ?_)
  have u101 := CI_b c91 (k := 19) (j := 6) bd_19_6
  refine T_if1 (by decide +kernel) ?_
  refine T_lcopy hfu (by decide +kernel) (by decide +kernel) (c := 31) (c2 := 18) (by decide +kernel) (by decide +kernel) (by decide) (by omega) bdr_31 bdr_18 (by decide) (by decide) c91 (fun s102 e105 c103 g106 => ?_)
  have f104 := z_Fr.up (R := R_X9_copyFrom_19_6) f92 g106 (by decide)
  have t107 : s102 6 6 = s90 6 6 := g106 6 6 (by decide)
  have t108 : s102 6 7 = s90 6 7 := g106 6 7 (by decide)
  have t109 : s102 6 8 = s90 6 8 := g106 6 8 (by decide)
  have t110 : s102 19 6 = s90 19 6 := g106 19 6 (by decide)
  exact T_ret ⟨c103, f104, rfl⟩
abbrev R_X9_copyFrom_6_19 (a : Int) : Prop := (6 ≤ a ∧ a ≤ 18)
abbrev P_X9_copyFrom_6_19 (r0 : z_M) : z_V → z_M → Prop := fun v s' => z_CI s' ∧ z_Fr R_X9_copyFrom_6_19 r0 s' ∧ (v = vN)
theorem sf_X9_copyFrom_6_19 {fu : Nat} (hfu : 8589934592 ≤ fu) (r0 : z_M) (c0 : z_CI r0) : z_T (fX9_copyFrom fu r0 6 19) (P_X9_copyFrom_6_19 r0) := by
  refine T_of (fX9_copyFrom.eq_1 ..) ?_
  refine T_if1 (by decide +kernel) ?_
  refine T_leq (fun x1 e2 => ?_)
  have u3 := CI_b c0 (k := 19) (j := 6) bd_19_6
  refine T_if1 (by decide +kernel) ?_
  refine T_upg c0 bd_6_6 (by omega) (fun s4 c5 g7 g8 e9 => ?_)
  have f6 := z_Fr.up (R := R_X9_copyFrom_6_19) z_Fr.rf g7 (by decide)
  have t10 : s4 19 6 = r0 19 6 := g7 19 6 (by decide)
  have t11 : s4 19 7 = r0 19 7 := g7 19 7 (by decide)
  have t12 : s4 19 8 = r0 19 8 := g7 19 8 (by decide)
  refine T_if1 (by decide +kernel) ?_
  refine T_leq (fun x13 e14 => ?_)
  have u15 := CI_b c5 (k := 19) (j := 7) bd_19_7
  refine T_if1 (by decide +kernel) ?_
  refine T_upg c5 bd_6_7 (by omega) (fun s16 c17 g19 g20 e21 => ?_)
  have f18 := z_Fr.up (R := R_X9_copyFrom_6_19) f6 g19 (by decide)
  have t22 : s16 6 6 = s4 6 6 := g20 6 (by decide)
  have t23 : s16 19 6 = s4 19 6 := g19 19 6 (by decide)
  have t24 : s16 19 7 = s4 19 7 := g19 19 7 (by decide)
  have t25 : s16 19 8 = s4 19 8 := g19 19 8 (by decide)
  refine T_if1 (by decide +kernel) ?_
  refine T_leq (fun x26 e27 => ?_)
  have u28 := CI_b c17 (k := 19) (j := 8) bd_19_8
  refine T_if1 (by decide +kernel) ?_
  refine T_upg c17 bd_6_8 (by omega) (fun s29 c30 g32 g33 e34 => ?_)
  have f31 := z_Fr.up (R := R_X9_copyFrom_6_19) f18 g32 (by decide)
  have t35 : s29 6 6 = s16 6 6 := g33 6 (by decide)
  have t36 : s29 19 6 = s16 19 6 := g32 19 6 (by decide)
  have t37 : s29 19 7 = s16 19 7 := g32 19 7 (by decide)
  have t38 : s29 19 8 = s16 19 8 := g32 19 8 (by decide)
  refine T_if1 (by decide +kernel) ?_
  refine T_let 7 (by decide +kernel) ?_
  refine T_if1 (by decide +kernel) ?_
  refine T_let 20 (by decide +kernel) ?_
  refine T_if1 (by decide +kernel) ?_
  refine T_leq (fun x39 e40 => ?_)
  have u41 := CI_b c30 (k := 6) (j := 6) bd_6_6
  refine T_if1 (by decide +kernel) ?_
  refine T_copy hfu (by decide +kernel) (by decide +kernel) (c := 8) (c2 := 21) (by decide +kernel) (by decide +kernel) (by decide) (by omega) bdr_8 bdr_21 (by decide) (by decide) c30 (fun s42 e45 c43 g46 => ?_)
  have f44 := z_Fr.up (R := R_X9_copyFrom_6_19) f31 g46 (by decide)
  have t47 : s42 6 6 = s29 6 6 := g46 6 6 (by decide)
  have t48 : s42 19 6 = s29 19 6 := g46 19 6 (by decide)
  have t49 : s42 19 7 = s29 19 7 := g46 19 7 (by decide)
  have t50 : s42 19 8 = s29 19 8 := g46 19 8 (by decide)
  refine T_if1 (by decide +kernel) ?_
  refine T_let 9 (by decide +kernel) ?_
  refine T_if1 (by decide +kernel) ?_
  refine T_let 22 (by decide +kernel) ?_
  refine T_if1 (by decide +kernel) ?_
  refine T_leq (fun x51 e52 => ?_)
  have u53 := CI_b c43 (k := 6) (j := 6) bd_6_6
  refine T_if1 (by decide +kernel) ?_
  refine T_copy hfu (by decide +kernel) (by decide +kernel) (c := 10) (c2 := 23) (by decide +kernel) (by decide +kernel) (by decide) (by omega) bdr_10 bdr_23 (by decide) (by decide) c43 (fun s54 e57 c55 g58 => ?_)
  have f56 := z_Fr.up (R := R_X9_copyFrom_6_19) f44 g58 (by decide)
  have t59 : s54 6 6 = s42 6 6 := g58 6 6 (by decide)
  have t60 : s54 19 6 = s42 19 6 := g58 19 6 (by decide)
  have t61 : s54 19 7 = s42 19 7 := g58 19 7 (by decide)
  have t62 : s54 19 8 = s42 19 8 := g58 19 8 (by decide)
  refine T_if1 (by decide +kernel) ?_
  refine T_let 11 (by decide +kernel) ?_
  refine T_if1 (by decide +kernel) ?_
  refine T_let 24 (by decide +kernel) ?_
  refine T_if1 (by decide +kernel) ?_
  refine T_leq (fun x63 e64 => ?_)
  have u65 := CI_b c55 (k := 6) (j := 6) bd_6_6
  refine T_if1 (by decide +kernel) ?_
  refine T_copy hfu (by decide +kernel) (by decide +kernel) (c := 12) (c2 := 25) (by decide +kernel) (by decide +kernel) (by decide) (by omega) bdr_12 bdr_25 (by decide) (by decide) c55 (fun s66 e69 c67 g70 => ?_)
  have f68 := z_Fr.up (R := R_X9_copyFrom_6_19) f56 g70 (by decide)
  have t71 : s66 6 6 = s54 6 6 := g70 6 6 (by decide)
  have t72 : s66 19 6 = s54 19 6 := g70 19 6 (by decide)
  have t73 : s66 19 7 = s54 19 7 := g70 19 7 (by decide)
  have t74 : s66 19 8 = s54 19 8 := g70 19 8 (by decide)
  refine T_if1 (by decide +kernel) ?_
  refine T_let 13 (by decide +kernel) ?_
  refine T_if1 (by decide +kernel) ?_
  refine T_let 26 (by decide +kernel) ?_
  refine T_if1 (by decide +kernel) ?_
  refine T_leq (fun x75 e76 => ?_)
  have u77 := CI_b c67 (k := 6) (j := 6) bd_6_6
  refine T_if1 (by decide +kernel) ?_
  refine T_copy hfu (by decide +kernel) (by decide +kernel) (c := 14) (c2 := 27) (by decide +kernel) (by decide +kernel) (by decide) (by omega) bdr_14 bdr_27 (by decide) (by decide) c67 (fun s78 e81 c79 g82 => ?_)
  have f80 := z_Fr.up (R := R_X9_copyFrom_6_19) f68 g82 (by decide)
  have t83 : s78 6 6 = s66 6 6 := g82 6 6 (by decide)
  have t84 : s78 19 6 = s66 19 6 := g82 19 6 (by decide)
  have t85 : s78 19 7 = s66 19 7 := g82 19 7 (by decide)
  have t86 : s78 19 8 = s66 19 8 := g82 19 8 (by decide)
  refine T_if1 (by decide +kernel) ?_
  refine T_let 15 (by decide +kernel) ?_
  refine T_if1 (by decide +kernel) ?_
  refine T_let 28 (by decide +kernel) ?_
  refine T_if1 (by decide +kernel) ?_
  refine T_leq (fun x87 e88 => ?_)
  have u89 := CI_b c79 (k := 6) (j := 6) bd_6_6
  refine T_if1 (by decide +kernel) ?_
  refine T_lcopy hfu (by decide +kernel) (by decide +kernel) (c := 16) (c2 := 29) (by decide +kernel) (by decide +kernel) (by decide) (by omega) bdr_16 bdr_29 (by decide) (by decide) c79 (fun s90 e93 c91 g94 => ?_)
  have f92 := z_Fr.up (R := R_X9_copyFrom_6_19) f80 g94 (by decide)
  have t95 : s90 6 6 = s78 6 6 := g94 6 6 (by decide)
  have t96 : s90 19 6 = s78 19 6 := g94 19 6 (by decide)
  have t97 : s90 19 7 = s78 19 7 := g94 19 7 (by decide)
  have t98 : s90 19 8 = s78 19 8 := g94 19 8 (by decide)
  refine T_if1 (by decide +kernel) ?_
  refine T_let 17 (by decide +kernel) ?_
  refine T_if1 (by decide +kernel) ?_
  refine T_let 30 (by decide +kernel) ?_
  refine T_if1 (by decide +kernel) ?_
  refine T_leq (fun x99 e100 => ?_)
  have u101 := CI_b c91 (k := 6) (j := 6) bd_6_6
  refine T_if1 (by decide +kernel) ?_
  refine T_lcopy hfu (by decide +kernel) (by decide +kernel) (c := 18) (c2 := 31) (by decide +kernel) (by decide +kernel) (by decide) (by omega) bdr_18 bdr_31 (by decide) (by decide) c91 (fun s102 e105 c103 g106 => ?_)
  have f104 := z_Fr.up (R := R_X9_copyFrom_6_19) f92 g106 (by decide)
  have t107 : s102 6 6 = s90 6 6 := g106 6 6 (by decide)
  have t108 : s102 19 6 = s90 19 6 := g106 19 6 (by decide)
  have t109 : s102 19 7 = s90 19 7 := g106 19 7 (by decide)
  have t110 : s102 19 8 = s90 19 8 := g106 19 8 (by decide)
  exact T_ret ⟨c103, f104, rfl⟩
abbrev R_X9_renumber_6 (a : Int) : Prop := (6 ≤ a ∧ a ≤ 6) ∨ (12 ≤ a ∧ a ≤ 12)
abbrev P_X9_renumber_6 (r0 : z_M) : z_V → z_M → Prop := fun v s' => z_CI s' ∧ z_Fr R_X9_renumber_6 r0 s' ∧ (v = vN)
theorem sj_X9_renumber_6_J64 {fu : Nat} (hfu : 8589934592 ≤ fu) (r0 s : z_M) (c : z_CI s) (f : z_Fr R_X9_renumber_6 r0 s) (a2 : Int) (a3 : Int) (b2 : -2147483648 ≤ a2 ∧ a2 ≤ 2147483646) (b3 : -2147483648 ≤ a3 ∧ a3 ≤ 2147483647) (M : Int) (pm : 2147483647 - a2 ≤ M) {r : z_M → Int → Int → z_O} {k : z_M → z_O} (hr : ∀ (s' : z_M) (v1 : Int) (v2 : Int), z_CI s' → z_Fr R_X9_renumber_6 r0 s' → (-2147483648 ≤ v1 ∧ v1 ≤ 2147483647) → (-2147483648 ≤ v2 ∧ v2 ≤ 2147483647) → (2147483647 - v2 < M) → z_T (r s' v1 v2) (P_X9_renumber_6 r0)) (hk : ∀ (s' : z_M), z_CI s' → z_Fr R_X9_renumber_6 r0 s' → z_T (k s') (P_X9_renumber_6 r0)) : z_T (fX9_renumber_J64 fu s 6 a2 a3 r k) (P_X9_renumber_6 r0) := by
  refine T_of (fX9_renumber_J64.eq_1 ..) ?_
  have u1 := CI_b c (k := 6) (j := 6) bd_6_6
  have u2 := CI_b c (k := 6) (j := 7) bd_6_7
  refine T_leq (fun x3 e4 => ?_)
  have w5 := z_wb e4
  exact hr s a3 x3 c f (by omega) (by omega) (by omega)
theorem sj_X9_renumber_6_J46 {fu : Nat} (hfu : 8589934592 ≤ fu) (r0 s : z_M) (c : z_CI s) (f : z_Fr R_X9_renumber_6 r0 s) (a2 : Int) (a3 : Int) (t1 : Int) (t2 : Int) (b2 : -2147483648 ≤ a2 ∧ a2 ≤ 2147483646) (b3 : -2147483648 ≤ a3 ∧ a3 ≤ 2147483647) (d1 : -2147483648 ≤ t1 ∧ t1 ≤ 2147483647) (d2 : 0 ≤ t2 ∧ t2 ≤ 1) (M : Int) (pm : 2147483647 - a2 ≤ M) {r : z_M → Int → Int → z_O} {k : z_M → z_O} (hr : ∀ (s' : z_M) (v1 : Int) (v2 : Int), z_CI s' → z_Fr R_X9_renumber_6 r0 s' → (-2147483648 ≤ v1 ∧ v1 ≤ 2147483647) → (-2147483648 ≤ v2 ∧ v2 ≤ 2147483647) → (2147483647 - v2 < M) → z_T (r s' v1 v2) (P_X9_renumber_6 r0)) (hk : ∀ (s' : z_M), z_CI s' → z_Fr R_X9_renumber_6 r0 s' → z_T (k s') (P_X9_renumber_6 r0)) : z_T (fX9_renumber_J46 fu s 6 a2 a3 6 t1 t2 r k) (P_X9_renumber_6 r0) := by
  refine T_of (fX9_renumber_J46.eq_1 ..) ?_
  have u1 := CI_b c (k := 6) (j := 6) bd_6_6
  have u2 := CI_b c (k := 6) (j := 7) bd_6_7
  refine T_leq (fun x3 e4 => ?_)
  have w5 := z_wr e4
  refine T_if1 (by decide +kernel) ?_
  refine T_upg c bd_6_7 (by omega) (fun s6 c7 g9 g10 e11 => ?_)
  have f8 := z_Fr.up (R := R_X9_renumber_6) f g9 (by decide)
  have t12 : s6 6 6 = s 6 6 := g10 6 (by decide)
  refine T_if1 (by decide +kernel) ?_
  refine T_let 11 (by decide +kernel) ?_
  refine T_if1 (by decide +kernel) ?_
  refine T_leq (fun x13 e14 => ?_)
  have u15 := CI_b c7 (k := 6) (j := 7) bd_6_7
  refine T_leq (fun x16 e17 => ?_)
  have w18 := z_wr e17
  refine T_if1 (by decide +kernel) ?_
  refine T_put (by decide +kernel) (c := 12) (by decide +kernel) bdr_12 (by omega) c7 (fun s19 e22 c20 g23 => ?_)
  have f21 := z_Fr.up (R := R_X9_renumber_6) f8 g23 (by decide)
  have t24 : s19 6 6 = s6 6 6 := g23 6 6 (by decide)
  have t25 : s19 6 7 = s6 6 7 := g23 6 7 (by decide)
  exact sj_X9_renumber_6_J64 hfu r0 s19 c20 f21 a2 a3 (by omega) (by omega) M (by omega) (fun s' v1 v2 c' f' w1 w2 pg => hr s' v1 v2 c' f' w1 w2 (by omega)) hk
theorem sl_X9_renumber_6_L9 {fu : Nat} (hfu : 8589934592 ≤ fu) (r0 : z_M) {k : z_M → z_O} (hk : ∀ (s' : z_M), z_CI s' → z_Fr R_X9_renumber_6 r0 s' → z_T (k s') (P_X9_renumber_6 r0)) : ∀ (F : Nat) (s : z_M) (a1 : Int) (a2 : Int), z_CI s → z_Fr R_X9_renumber_6 r0 s → (-2147483648 ≤ a1 ∧ a1 ≤ 2147483647) → (-2147483648 ≤ a2 ∧ a2 ≤ 2147483647) → (2147483647 - a2 < (F : Int)) → z_T (fX9_renumber_L9 fu 6 F s a1 a2 k) (P_X9_renumber_6 r0) := by
  intro F
  induction F with
  | zero =>
    intro s a1 a2 c f b1 b2 hm
    have u17 := CI_b c (k := 6) (j := 6) bd_6_6
    have u18 := CI_b c (k := 6) (j := 7) bd_6_7
    exfalso; omega
  | succ F ih =>
    intro s a1 a2 c f b1 b2 hm
    refine T_of (fX9_renumber_L9.eq_2 ..) ?_
    have u1 := CI_b c (k := 6) (j := 6) bd_6_6
    have u2 := CI_b c (k := 6) (j := 7) bd_6_7
    refine T_if1 (by decide +kernel) ?_
    refine T_leq (fun x3 e4 => ?_)
    have u5 := CI_b c (k := 6) (j := 6) bd_6_6
    refine T_ite (fun h6 => ?_) (fun h6 => ?_)
    · exact hk s c f
    · refine T_if1 (by decide +kernel) ?_
      refine T_let 11 (by decide +kernel) ?_
      refine T_if1 (by decide +kernel) ?_
      refine T_get (by decide +kernel) (c := 12) (by decide +kernel) bdr_12 (by decide) c (fun x7 e8 b9 w10 => ?_)
      have l11 : z_ln 11 = 200 := by decide +kernel
      refine T_ite (fun h12 => ?_) (fun h12 => ?_)
      · exact sj_X9_renumber_6_J64 hfu r0 s c f a2 x7 (by omega) (by omega) (2147483647 - a2) (by omega) (fun s' v1 v2 c' f' w1 w2 pg => ih s' v1 v2 c' f' w1 w2 (by omega)) hk
      · refine T_if1 (by decide +kernel) ?_
        refine T_leq (fun x13 e14 => ?_)
        have u15 := CI_b c (k := 6) (j := 7) bd_6_7
        refine T_ite (fun h16 => ?_) (fun h16 => ?_)
        · exact sj_X9_renumber_6_J46 hfu r0 s c f a2 x7 x13 1 (by omega) (by omega) (by omega) (by omega) (2147483647 - a2) (by omega) (fun s' v1 v2 c' f' w1 w2 pg => ih s' v1 v2 c' f' w1 w2 (by omega)) hk
        · exact sj_X9_renumber_6_J46 hfu r0 s c f a2 x7 x13 0 (by omega) (by omega) (by omega) (by omega) (2147483647 - a2) (by omega) (fun s' v1 v2 c' f' w1 w2 pg => ih s' v1 v2 c' f' w1 w2 (by omega)) hk
theorem sf_X9_renumber_6 {fu : Nat} (hfu : 8589934592 ≤ fu) (r0 : z_M) (c0 : z_CI r0) : z_T (fX9_renumber fu r0 6) (P_X9_renumber_6 r0) := by
  refine T_of (fX9_renumber.eq_1 ..) ?_
  refine T_if1 (by decide +kernel) ?_
  refine T_upg c0 bd_6_7 (by omega) (fun s1 c2 g4 g5 e6 => ?_)
  have f3 := z_Fr.up (R := R_X9_renumber_6) z_Fr.rf g4 (by decide)
  have t7 : s1 6 6 = r0 6 6 := g5 6 (by decide)
  refine sl_X9_renumber_6_L9 hfu r0 (fun s8 c9 f10 => ?_) fu s1 (-1) 0 c2 f3 (by omega) (by omega) (by omega)
  have u11 := CI_b c9 (k := 6) (j := 6) bd_6_6
  have u12 := CI_b c9 (k := 6) (j := 7) bd_6_7
  exact T_ret ⟨c9, f10, rfl⟩
abbrev R_X9_drop_6 (a : Int) : Prop := (6 ≤ a ∧ a ≤ 18)
abbrev P_X9_drop_6 (r0 : z_M) : z_V → z_M → Prop := fun v s' => z_CI s' ∧ z_Fr R_X9_drop_6 r0 s' ∧ (v = vN)
theorem sf_X9_drop_6 {fu : Nat} (hfu : 8589934592 ≤ fu) (r0 : z_M) (c0 : z_CI r0) (a1 : Int) (a2 : Int) (b1 : -2147483648 ≤ a1 ∧ a1 ≤ 2147483647) (b2 : -2147483648 ≤ a2 ∧ a2 ≤ 2147483647) (p0 : 0 ≤ a1) (p1 : a1 ≤ a2) (p2 : a2 ≤ r0 6 6) : z_T (fX9_drop fu r0 6 a1 a2) (P_X9_drop_6 r0) := by
  refine T_of (fX9_drop.eq_1 ..) ?_
  refine T_if1 (by decide +kernel) ?_
  refine T_let 7 (by decide +kernel) ?_
  refine T_if1 (by decide +kernel) ?_
  refine T_leq (fun x1 e2 => ?_)
  have u3 := CI_b c0 (k := 6) (j := 6) bd_6_6
  refine T_if1 (by decide +kernel) ?_
  refine T_close hfu (by decide +kernel) (c := 8) (by decide +kernel) (by omega) (by omega) (by omega) bdr_8 (by decide) c0 (fun s4 e7 c5 g8 => ?_)
  have f6 := z_Fr.up (R := R_X9_drop_6) z_Fr.rf g8 (by decide)
  have t9 : s4 6 6 = r0 6 6 := g8 6 6 (by decide)
  refine T_if1 (by decide +kernel) ?_
  refine T_let 9 (by decide +kernel) ?_
  refine T_if1 (by decide +kernel) ?_
  refine T_leq (fun x10 e11 => ?_)
  have u12 := CI_b c5 (k := 6) (j := 6) bd_6_6
  refine T_if1 (by decide +kernel) ?_
  refine T_close hfu (by decide +kernel) (c := 10) (by decide +kernel) (by omega) (by omega) (by omega) bdr_10 (by decide) c5 (fun s13 e16 c14 g17 => ?_)
  have f15 := z_Fr.up (R := R_X9_drop_6) f6 g17 (by decide)
  have t18 : s13 6 6 = s4 6 6 := g17 6 6 (by decide)
  refine T_if1 (by decide +kernel) ?_
  refine T_let 11 (by decide +kernel) ?_
  refine T_if1 (by decide +kernel) ?_
  refine T_leq (fun x19 e20 => ?_)
  have u21 := CI_b c14 (k := 6) (j := 6) bd_6_6
  refine T_if1 (by decide +kernel) ?_
  refine T_close hfu (by decide +kernel) (c := 12) (by decide +kernel) (by omega) (by omega) (by omega) bdr_12 (by decide) c14 (fun s22 e25 c23 g26 => ?_)
  have f24 := z_Fr.up (R := R_X9_drop_6) f15 g26 (by decide)
  have t27 : s22 6 6 = s13 6 6 := g26 6 6 (by decide)
  refine T_if1 (by decide +kernel) ?_
  refine T_let 13 (by decide +kernel) ?_
  refine T_if1 (by decide +kernel) ?_
  refine T_leq (fun x28 e29 => ?_)
  have u30 := CI_b c23 (k := 6) (j := 6) bd_6_6
  refine T_if1 (by decide +kernel) ?_
  refine T_close hfu (by decide +kernel) (c := 14) (by decide +kernel) (by omega) (by omega) (by omega) bdr_14 (by decide) c23 (fun s31 e34 c32 g35 => ?_)
  have f33 := z_Fr.up (R := R_X9_drop_6) f24 g35 (by decide)
  have t36 : s31 6 6 = s22 6 6 := g35 6 6 (by decide)
  refine T_if1 (by decide +kernel) ?_
  refine T_let 15 (by decide +kernel) ?_
  refine T_if1 (by decide +kernel) ?_
  refine T_leq (fun x37 e38 => ?_)
  have u39 := CI_b c32 (k := 6) (j := 6) bd_6_6
  refine T_if1 (by decide +kernel) ?_
  refine T_lclose hfu (by decide +kernel) (c := 16) (by decide +kernel) (by omega) (by omega) (by omega) bdr_16 (by decide) c32 (fun s40 e43 c41 g44 => ?_)
  have f42 := z_Fr.up (R := R_X9_drop_6) f33 g44 (by decide)
  have t45 : s40 6 6 = s31 6 6 := g44 6 6 (by decide)
  refine T_if1 (by decide +kernel) ?_
  refine T_let 17 (by decide +kernel) ?_
  refine T_if1 (by decide +kernel) ?_
  refine T_leq (fun x46 e47 => ?_)
  have u48 := CI_b c41 (k := 6) (j := 6) bd_6_6
  refine T_if1 (by decide +kernel) ?_
  refine T_lclose hfu (by decide +kernel) (c := 18) (by decide +kernel) (by omega) (by omega) (by omega) bdr_18 (by decide) c41 (fun s49 e52 c50 g53 => ?_)
  have f51 := z_Fr.up (R := R_X9_drop_6) f42 g53 (by decide)
  have t54 : s49 6 6 = s40 6 6 := g53 6 6 (by decide)
  refine T_if1 (by decide +kernel) ?_
  refine T_leq (fun x55 e56 => ?_)
  have u57 := CI_b c50 (k := 6) (j := 6) bd_6_6
  refine T_leq (fun x58 e59 => ?_)
  have w60 := z_wb e59
  refine T_leq (fun x61 e62 => ?_)
  have w63 := z_wb e62
  refine T_if1 (by decide +kernel) ?_
  refine T_upg c50 bd_6_6 (by omega) (fun s64 c65 g67 g68 e69 => ?_)
  have f66 := z_Fr.up (R := R_X9_drop_6) f51 g67 (by decide)
  refine T_if1 (by decide +kernel) ?_
  refine T_useN (sf_X9_renumber_6 hfu s64 c65) (fun v75 s70 hq => ?_)
  obtain ⟨c71, f72, rfl⟩ := hq
  refine T_vN ?_
  have f73 := z_Fr.tr (R := R_X9_drop_6) f66 f72 (fun a h => by unfold R_X9_renumber_6 at h; unfold R_X9_drop_6; omega)
  have u78 := CI_b c71 (k := 6) (j := 6) bd_6_6
  exact T_ret ⟨c71, f73, rfl⟩
