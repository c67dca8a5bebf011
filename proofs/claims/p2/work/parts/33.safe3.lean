/-! SAFETY, further (by program) -/
abbrev R_X9_copyFrom_6_139 (a : Int) : Prop := (6 ≤ a ∧ a ≤ 18)
abbrev P_X9_copyFrom_6_139 (r0 : z_M) : z_V → z_M → Prop := fun v s' => z_CI s' ∧ z_Fr R_X9_copyFrom_6_139 r0 s' ∧ (v = vN)
theorem sf_X9_copyFrom_6_139 {fu : Nat} (hfu : 8589934592 ≤ fu) (r0 : z_M) (c0 : z_CI r0) : z_T (fX9_copyFrom fu r0 6 139) (P_X9_copyFrom_6_139 r0) := by
  refine T_of (fX9_copyFrom.eq_1 ..) ?_
  refine T_if1 (by decide +kernel) ?_
  refine T_leq (fun x1 e2 => ?_)
  have u3 := CI_b c0 (k := 139) (j := 6) bd_139_6
  refine T_if1 (by decide +kernel) ?_
  refine T_upg c0 bd_6_6 (by omega) (fun s4 c5 g7 g8 e9 => ?_)
  have f6 := z_Fr.up (R := R_X9_copyFrom_6_139) z_Fr.rf g7 (by decide)
  have t10 : s4 139 6 = r0 139 6 := g7 139 6 (by decide)
  have t11 : s4 139 7 = r0 139 7 := g7 139 7 (by decide)
  have t12 : s4 139 8 = r0 139 8 := g7 139 8 (by decide)
  refine T_if1 (by decide +kernel) ?_
  refine T_leq (fun x13 e14 => ?_)
  have u15 := CI_b c5 (k := 139) (j := 7) bd_139_7
  refine T_if1 (by decide +kernel) ?_
  refine T_upg c5 bd_6_7 (by omega) (fun s16 c17 g19 g20 e21 => ?_)
  have f18 := z_Fr.up (R := R_X9_copyFrom_6_139) f6 g19 (by decide)
  have t22 : s16 6 6 = s4 6 6 := g20 6 (by decide)
  have t23 : s16 139 6 = s4 139 6 := g19 139 6 (by decide)
  have t24 : s16 139 7 = s4 139 7 := g19 139 7 (by decide)
  have t25 : s16 139 8 = s4 139 8 := g19 139 8 (by decide)
  refine T_if1 (by decide +kernel) ?_
  refine T_leq (fun x26 e27 => ?_)
  have u28 := CI_b c17 (k := 139) (j := 8) bd_139_8
  refine T_if1 (by decide +kernel) ?_
  refine T_upg c17 bd_6_8 (by omega) (fun s29 c30 g32 g33 e34 => ?_)
  have f31 := z_Fr.up (R := R_X9_copyFrom_6_139) f18 g32 (by decide)
  have t35 : s29 6 6 = s16 6 6 := g33 6 (by decide)
  have t36 : s29 139 6 = s16 139 6 := g32 139 6 (by decide)
  have t37 : s29 139 7 = s16 139 7 := g32 139 7 (by decide)
  have t38 : s29 139 8 = s16 139 8 := g32 139 8 (by decide)
  refine T_if1 (by decide +kernel) ?_
  refine T_let 7 (by decide +kernel) ?_
  refine T_if1 (by decide +kernel) ?_
  refine T_let 140 (by decide +kernel) ?_
  refine T_if1 (by decide +kernel) ?_
  refine T_leq (fun x39 e40 => ?_)
  have u41 := CI_b c30 (k := 6) (j := 6) bd_6_6
  refine T_if1 (by decide +kernel) ?_
  refine T_copy hfu (by decide +kernel) (by decide +kernel) (c := 8) (c2 := 141) (by decide +kernel) (by decide +kernel) (by decide) (by omega) bdr_8 bdr_141 (by decide) (by decide) c30 (fun s42 e45 c43 g46 => ?_)
  have f44 := z_Fr.up (R := R_X9_copyFrom_6_139) f31 g46 (by decide)
  have t47 : s42 6 6 = s29 6 6 := g46 6 6 (by decide)
  have t48 : s42 139 6 = s29 139 6 := g46 139 6 (by decide)
  have t49 : s42 139 7 = s29 139 7 := g46 139 7 (by decide)
  have t50 : s42 139 8 = s29 139 8 := g46 139 8 (by decide)
  refine T_if1 (by decide +kernel) ?_
  refine T_let 9 (by decide +kernel) ?_
  refine T_if1 (by decide +kernel) ?_
  refine T_let 142 (by decide +kernel) ?_
  refine T_if1 (by decide +kernel) ?_
  refine T_leq (fun x51 e52 => ?_)
  have u53 := CI_b c43 (k := 6) (j := 6) bd_6_6
  refine T_if1 (by decide +kernel) ?_
  refine T_copy hfu (by decide +kernel) (by decide +kernel) (c := 10) (c2 := 143) (by decide +kernel) (by decide +kernel) (by decide) (by omega) bdr_10 bdr_143 (by decide) (by decide) c43 (fun s54 e57 c55 g58 => ?_)
  have f56 := z_Fr.up (R := R_X9_copyFrom_6_139) f44 g58 (by decide)
  have t59 : s54 6 6 = s42 6 6 := g58 6 6 (by decide)
  have t60 : s54 139 6 = s42 139 6 := g58 139 6 (by decide)
  have t61 : s54 139 7 = s42 139 7 := g58 139 7 (by decide)
  have t62 : s54 139 8 = s42 139 8 := g58 139 8 (by decide)
  refine T_if1 (by decide +kernel) ?_
  refine T_let 11 (by decide +kernel) ?_
  refine T_if1 (by decide +kernel) ?_
  refine T_let 144 (by decide +kernel) ?_
  refine T_if1 (by decide +kernel) ?_
  refine T_leq (fun x63 e64 => ?_)
  have u65 := CI_b c55 (k := 6) (j := 6) bd_6_6
  refine T_if1 (by decide +kernel) ?_
  refine T_copy hfu (by decide +kernel) (by decide +kernel) (c := 12) (c2 := 145) (by decide +kernel) (by decide +kernel) (by decide) (by omega) bdr_12 bdr_145 (by decide) (by decide) c55 (fun s66 e69 c67 g70 => ?_)
  have f68 := z_Fr.up (R := R_X9_copyFrom_6_139) f56 g70 (by decide)
  have t71 : s66 6 6 = s54 6 6 := g70 6 6 (by decide)
  have t72 : s66 139 6 = s54 139 6 := g70 139 6 (by decide)
  have t73 : s66 139 7 = s54 139 7 := g70 139 7 (by decide)
  have t74 : s66 139 8 = s54 139 8 := g70 139 8 (by decide)
  refine T_if1 (by decide +kernel) ?_
  refine T_let 13 (by decide +kernel) ?_
  refine T_if1 (by decide +kernel) ?_
  refine T_let 146 (by decide +kernel) ?_
  refine T_if1 (by decide +kernel) ?_
  refine T_leq (fun x75 e76 => ?_)
  have u77 := CI_b c67 (k := 6) (j := 6) bd_6_6
  refine T_if1 (by decide +kernel) ?_
  refine T_copy hfu (by decide +kernel) (by decide +kernel) (c := 14) (c2 := 147) (by decide +kernel) (by decide +kernel) (by decide) (by omega) bdr_14 bdr_147 (by decide) (by decide) c67 (fun s78 e81 c79 g82 => ?_)
  have f80 := z_Fr.up (R := R_X9_copyFrom_6_139) f68 g82 (by decide)
  have t83 : s78 6 6 = s66 6 6 := g82 6 6 (by decide)
  have t84 : s78 139 6 = s66 139 6 := g82 139 6 (by decide)
  have t85 : s78 139 7 = s66 139 7 := g82 139 7 (by decide)
  have t86 : s78 139 8 = s66 139 8 := g82 139 8 (by decide)
  refine T_if1 (by decide +kernel) ?_
  refine T_let 15 (by decide +kernel) ?_
  refine T_if1 (by decide +kernel) ?_
  refine T_let 148 (by decide +kernel) ?_
  refine T_if1 (by decide +kernel) ?_
  refine T_leq (fun x87 e88 => ?_)
  have u89 := CI_b c79 (k := 6) (j := 6) bd_6_6
  refine T_if1 (by decide +kernel) ?_
  refine T_lcopy hfu (by decide +kernel) (by decide +kernel) (c := 16) (c2 := 149) (by decide +kernel) (by decide +kernel) (by decide) (by omega) bdr_16 bdr_149 (by decide) (by decide) c79 (fun s90 e93 c91 g94 => ?_)
  have f92 := z_Fr.up (R := R_X9_copyFrom_6_139) f80 g94 (by decide)
  have t95 : s90 6 6 = s78 6 6 := g94 6 6 (by decide)
  have t96 : s90 139 6 = s78 139 6 := g94 139 6 (by decide)
  have t97 : s90 139 7 = s78 139 7 := g94 139 7 (by decide)
  have t98 : s90 139 8 = s78 139 8 := g94 139 8 (by decide)
  refine T_if1 (by decide +kernel) ?_
  refine T_let 17 (by decide +kernel) ?_
  refine T_if1 (by decide +kernel) ?_
  refine T_let 150 (by decide +kernel) ?_
  refine T_if1 (by decide +kernel) ?_
  refine T_leq (fun x99 e100 => ?_)
  have u101 := CI_b c91 (k := 6) (j := 6) bd_6_6
  refine T_if1 (by decide +kernel) ?_
  refine T_lcopy hfu (by decide +kernel) (by decide +kernel) (c := 18) (c2 := 151) (by decide +kernel) (by decide +kernel) (by decide) (by omega) bdr_18 bdr_151 (by decide) (by decide) c91 (fun s102 e105 c103 g106 => ?_)
  have f104 := z_Fr.up (R := R_X9_copyFrom_6_139) f92 g106 (by decide)
  have t107 : s102 6 6 = s90 6 6 := g106 6 6 (by decide)
  have t108 : s102 139 6 = s90 139 6 := g106 139 6 (by decide)
  have t109 : s102 139 7 = s90 139 7 := g106 139 7 (by decide)
  have t110 : s102 139 8 = s90 139 8 := g106 139 8 (by decide)
  exact T_ret ⟨c103, f104, rfl⟩
abbrev R_X9_copyFrom_6_126 (a : Int) : Prop := (6 ≤ a ∧ a ≤ 18)
abbrev P_X9_copyFrom_6_126 (r0 : z_M) : z_V → z_M → Prop := fun v s' => z_CI s' ∧ z_Fr R_X9_copyFrom_6_126 r0 s' ∧ (v = vN)
theorem sf_X9_copyFrom_6_126 {fu : Nat} (hfu : 8589934592 ≤ fu) (r0 : z_M) (c0 : z_CI r0) : z_T (fX9_copyFrom fu r0 6 126) (P_X9_copyFrom_6_126 r0) := by
  refine T_of (fX9_copyFrom.eq_1 ..) ?_
  refine T_if1 (by decide +kernel) ?_
  refine T_leq (fun x1 e2 => ?_)
  have u3 := CI_b c0 (k := 126) (j := 6) bd_126_6
  refine T_if1 (by decide +kernel) ?_
  refine T_upg c0 bd_6_6 (by omega) (fun s4 c5 g7 g8 e9 => ?_)
  have f6 := z_Fr.up (R := R_X9_copyFrom_6_126) z_Fr.rf g7 (by decide)
  have t10 : s4 126 6 = r0 126 6 := g7 126 6 (by decide)
  have t11 : s4 126 7 = r0 126 7 := g7 126 7 (by decide)
  have t12 : s4 126 8 = r0 126 8 := g7 126 8 (by decide)
  refine T_if1 (by decide +kernel) ?_
  refine T_leq (fun x13 e14 => ?_)
  have u15 := CI_b c5 (k := 126) (j := 7) bd_126_7
  refine T_if1 (by decide +kernel) ?_
  refine T_upg c5 bd_6_7 (by omega) (fun s16 c17 g19 g20 e21 => ?_)
  have f18 := z_Fr.up (R := R_X9_copyFrom_6_126) f6 g19 (by decide)
  have t22 : s16 6 6 = s4 6 6 := g20 6 (by decide)
  have t23 : s16 126 6 = s4 126 6 := g19 126 6 (by decide)
  have t24 : s16 126 7 = s4 126 7 := g19 126 7 (by decide)
  have t25 : s16 126 8 = s4 126 8 := g19 126 8 (by decide)
  refine T_if1 (by decide +kernel) ?_
  refine T_leq (fun x26 e27 => ?_)
  have u28 := CI_b c17 (k := 126) (j := 8) bd_126_8
  refine T_if1 (by decide +kernel) ?_
  refine T_upg c17 bd_6_8 (by omega) (fun s29 c30 g32 g33 e34 => ?_)
  have f31 := z_Fr.up (R := R_X9_copyFrom_6_126) f18 g32 (by decide)
  have t35 : s29 6 6 = s16 6 6 := g33 6 (by decide)
  have t36 : s29 126 6 = s16 126 6 := g32 126 6 (by decide)
  have t37 : s29 126 7 = s16 126 7 := g32 126 7 (by decide)
  have t38 : s29 126 8 = s16 126 8 := g32 126 8 (by decide)
  refine T_if1 (by decide +kernel) ?_
  refine T_let 7 (by decide +kernel) ?_
  refine T_if1 (by decide +kernel) ?_
  refine T_let 127 (by decide +kernel) ?_
  refine T_if1 (by decide +kernel) ?_
  refine T_leq (fun x39 e40 => ?_)
  have u41 := CI_b c30 (k := 6) (j := 6) bd_6_6
  refine T_if1 (by decide +kernel) ?_
  refine T_copy hfu (by decide +kernel) (by decide +kernel) (c := 8) (c2 := 128) (by decide +kernel) (by decide +kernel) (by decide) (by omega) bdr_8 bdr_128 (by decide) (by decide) c30 (fun s42 e45 c43 g46 => ?_)
  have f44 := z_Fr.up (R := R_X9_copyFrom_6_126) f31 g46 (by decide)
  have t47 : s42 6 6 = s29 6 6 := g46 6 6 (by decide)
  have t48 : s42 126 6 = s29 126 6 := g46 126 6 (by decide)
  have t49 : s42 126 7 = s29 126 7 := g46 126 7 (by decide)
  have t50 : s42 126 8 = s29 126 8 := g46 126 8 (by decide)
  refine T_if1 (by decide +kernel) ?_
  refine T_let 9 (by decide +kernel) ?_
  refine T_if1 (by decide +kernel) ?_
  refine T_let 129 (by decide +kernel) ?_
  refine T_if1 (by decide +kernel) ?_
  refine T_leq (fun x51 e52 => ?_)
  have u53 := CI_b c43 (k := 6) (j := 6) bd_6_6
  refine T_if1 (by decide +kernel) ?_
  refine T_copy hfu (by decide +kernel) (by decide +kernel) (c := 10) (c2 := 130) (by decide +kernel) (by decide +kernel) (by decide) (by omega) bdr_10 bdr_130 (by decide) (by decide) c43 (fun s54 e57 c55 g58 => ?_)
  have f56 := z_Fr.up (R := R_X9_copyFrom_6_126) f44 g58 (by decide)
  have t59 : s54 6 6 = s42 6 6 := g58 6 6 (by decide)
  have t60 : s54 126 6 = s42 126 6 := g58 126 6 (by decide)
  have t61 : s54 126 7 = s42 126 7 := g58 126 7 (by decide)
  have t62 : s54 126 8 = s42 126 8 := g58 126 8 (by decide)
  refine T_if1 (by decide +kernel) ?_
  refine T_let 11 (by decide +kernel) ?_
  refine T_if1 (by decide +kernel) ?_
  refine T_let 131 (by decide +kernel) ?_
  refine T_if1 (by decide +kernel) ?_
  refine T_leq (fun x63 e64 => ?_)
  have u65 := CI_b c55 (k := 6) (j := 6) bd_6_6
  refine T_if1 (by decide +kernel) ?_
  refine T_copy hfu (by decide +kernel) (by decide +kernel) (c := 12) (c2 := 132) (by decide +kernel) (by decide +kernel) (by decide) (by omega) bdr_12 bdr_132 (by decide) (by decide) c55 (fun s66 e69 c67 g70 => ?_)
  have f68 := z_Fr.up (R := R_X9_copyFrom_6_126) f56 g70 (by decide)
  have t71 : s66 6 6 = s54 6 6 := g70 6 6 (by decide)
  have t72 : s66 126 6 = s54 126 6 := g70 126 6 (by decide)
  have t73 : s66 126 7 = s54 126 7 := g70 126 7 (by decide)
  have t74 : s66 126 8 = s54 126 8 := g70 126 8 (by decide)
  refine T_if1 (by decide +kernel) ?_
  refine T_let 13 (by decide +kernel) ?_
  refine T_if1 (by decide +kernel) ?_
  refine T_let 133 (by decide +kernel) ?_
  refine T_if1 (by decide +kernel) ?_
  refine T_leq (fun x75 e76 => ?_)
  have u77 := CI_b c67 (k := 6) (j := 6) bd_6_6
  refine T_if1 (by decide +kernel) ?_
  refine T_copy hfu (by decide +kernel) (by decide +kernel) (c := 14) (c2 := 134) (by decide +kernel) (by decide +kernel) (by decide) (by omega) bdr_14 bdr_134 (by decide) (by decide) c67 (fun s78 e81 c79 g82 => ?_)
  have f80 := z_Fr.up (R := R_X9_copyFrom_6_126) f68 g82 (by decide)
  have t83 : s78 6 6 = s66 6 6 := g82 6 6 (by decide)
  have t84 : s78 126 6 = s66 126 6 := g82 126 6 (by decide)
  have t85 : s78 126 7 = s66 126 7 := g82 126 7 (by decide)
  have t86 : s78 126 8 = s66 126 8 := g82 126 8 (by decide)
  refine T_if1 (by decide +kernel) ?_
  refine T_let 15 (by decide +kernel) ?_
  refine T_if1 (by decide +kernel) ?_
  refine T_let 135 (by decide +kernel) ?_
  refine T_if1 (by decide +kernel) ?_
  refine T_leq (fun x87 e88 => ?_)
  have u89 := CI_b c79 (k := 6) (j := 6) bd_6_6
  refine T_if1 (by decide +kernel) ?_
  refine T_lcopy hfu (by decide +kernel) (by decide +kernel) (c := 16) (c2 := 136) (by decide +kernel) (by decide +kernel) (by decide) (by omega) bdr_16 bdr_136 (by decide) (by decide) c79 (fun s90 e93 c91 g94 => ?_)
  have f92 := z_Fr.up (R := R_X9_copyFrom_6_126) f80 g94 (by decide)
  have t95 : s90 6 6 = s78 6 6 := g94 6 6 (by decide)
  have t96 : s90 126 6 = s78 126 6 := g94 126 6 (by decide)
  have t97 : s90 126 7 = s78 126 7 := g94 126 7 (by decide)
  have t98 : s90 126 8 = s78 126 8 := g94 126 8 (by decide)
  refine T_if1 (by decide +kernel) ?_
  refine T_let 17 (by decide +kernel) ?_
  refine T_if1 (by decide +kernel) ?_
  refine T_let 137 (by decide +kernel) ?_
  refine T_if1 (by decide +kernel) ?_
  refine T_leq (fun x99 e100 => ?_)
  have u101 := CI_b c91 (k := 6) (j := 6) bd_6_6
  refine T_if1 (by decide +kernel) ?_
  refine T_lcopy hfu (by decide +kernel) (by decide +kernel) (c := 18) (c2 := 138) (by decide +kernel) (by decide +kernel) (by decide) (by omega) bdr_18 bdr_138 (by decide) (by decide) c91 (fun s102 e105 c103 g106 => ?_)
  have f104 := z_Fr.up (R := R_X9_copyFrom_6_126) f92 g106 (by decide)
  have t107 : s102 6 6 = s90 6 6 := g106 6 6 (by decide)
  have t108 : s102 126 6 = s90 126 6 := g106 126 6 (by decide)
  have t109 : s102 126 7 = s90 126 7 := g106 126 7 (by decide)
  have t110 : s102 126 8 = s90 126 8 := g106 126 8 (by decide)
  exact T_ret ⟨c103, f104, rfl⟩
abbrev R_X9_copyFrom_6_113 (a : Int) : Prop := (6 ≤ a ∧ a ≤ 18)
abbrev P_X9_copyFrom_6_113 (r0 : z_M) : z_V → z_M → Prop := fun v s' => z_CI s' ∧ z_Fr R_X9_copyFrom_6_113 r0 s' ∧ (v = vN)
theorem sf_X9_copyFrom_6_113 {fu : Nat} (hfu : 8589934592 ≤ fu) (r0 : z_M) (c0 : z_CI r0) : z_T (fX9_copyFrom fu r0 6 113) (P_X9_copyFrom_6_113 r0) := by
  refine T_of (fX9_copyFrom.eq_1 ..) ?_
  refine T_if1 (by decide +kernel) ?_
  refine T_leq (fun x1 e2 => ?_)
  have u3 := CI_b c0 (k := 113) (j := 6) bd_113_6
  refine T_if1 (by decide +kernel) ?_
  refine T_upg c0 bd_6_6 (by omega) (fun s4 c5 g7 g8 e9 => ?_)
  have f6 := z_Fr.up (R := R_X9_copyFrom_6_113) z_Fr.rf g7 (by decide)
  have t10 : s4 113 6 = r0 113 6 := g7 113 6 (by decide)
  have t11 : s4 113 7 = r0 113 7 := g7 113 7 (by decide)
  have t12 : s4 113 8 = r0 113 8 := g7 113 8 (by decide)
  refine T_if1 (by decide +kernel) ?_
  refine T_leq (fun x13 e14 => ?_)
  have u15 := CI_b c5 (k := 113) (j := 7) bd_113_7
  refine T_if1 (by decide +kernel) ?_
  refine T_upg c5 bd_6_7 (by omega) (fun s16 c17 g19 g20 e21 => ?_)
  have f18 := z_Fr.up (R := R_X9_copyFrom_6_113) f6 g19 (by decide)
  have t22 : s16 6 6 = s4 6 6 := g20 6 (by decide)
  have t23 : s16 113 6 = s4 113 6 := g19 113 6 (by decide)
  have t24 : s16 113 7 = s4 113 7 := g19 113 7 (by decide)
  have t25 : s16 113 8 = s4 113 8 := g19 113 8 (by decide)
  refine T_if1 (by decide +kernel) ?_
  refine T_leq (fun x26 e27 => ?_)
  have u28 := CI_b c17 (k := 113) (j := 8) bd_113_8
  refine T_if1 (by decide +kernel) ?_
  refine T_upg c17 bd_6_8 (by omega) (fun s29 c30 g32 g33 e34 => ?_)
  have f31 := z_Fr.up (R := R_X9_copyFrom_6_113) f18 g32 (by decide)
  have t35 : s29 6 6 = s16 6 6 := g33 6 (by decide)
  have t36 : s29 113 6 = s16 113 6 := g32 113 6 (by decide)
  have t37 : s29 113 7 = s16 113 7 := g32 113 7 (by decide)
  have t38 : s29 113 8 = s16 113 8 := g32 113 8 (by decide)
  refine T_if1 (by decide +kernel) ?_
  refine T_let 7 (by decide +kernel) ?_
  refine T_if1 (by decide +kernel) ?_
  refine T_let 114 (by decide +kernel) ?_
  refine T_if1 (by decide +kernel) ?_
  refine T_leq (fun x39 e40 => ?_)
  have u41 := CI_b c30 (k := 6) (j := 6) bd_6_6
  refine T_if1 (by decide +kernel) ?_
  refine T_copy hfu (by decide +kernel) (by decide +kernel) (c := 8) (c2 := 115) (by decide +kernel) (by decide +kernel) (by decide) (by omega) bdr_8 bdr_115 (by decide) (by decide) c30 (fun s42 e45 c43 g46 => ?_)
  have f44 := z_Fr.up (R := R_X9_copyFrom_6_113) f31 g46 (by decide)
  have t47 : s42 6 6 = s29 6 6 := g46 6 6 (by decide)
  have t48 : s42 113 6 = s29 113 6 := g46 113 6 (by decide)
  have t49 : s42 113 7 = s29 113 7 := g46 113 7 (by decide)
  have t50 : s42 113 8 = s29 113 8 := g46 113 8 (by decide)
  refine T_if1 (by decide +kernel) ?_
  refine T_let 9 (by decide +kernel) ?_
  refine T_if1 (by decide +kernel) ?_
  refine T_let 116 (by decide +kernel) ?_
  refine T_if1 (by decide +kernel) ?_
  refine T_leq (fun x51 e52 => ?_)
  have u53 := CI_b c43 (k := 6) (j := 6) bd_6_6
  refine T_if1 (by decide +kernel) ?_
  refine T_copy hfu (by decide +kernel) (by decide +kernel) (c := 10) (c2 := 117) (by decide +kernel) (by decide +kernel) (by decide) (by omega) bdr_10 bdr_117 (by decide) (by decide) c43 (fun s54 e57 c55 g58 => ?_)
  have f56 := z_Fr.up (R := R_X9_copyFrom_6_113) f44 g58 (by decide)
  have t59 : s54 6 6 = s42 6 6 := g58 6 6 (by decide)
  have t60 : s54 113 6 = s42 113 6 := g58 113 6 (by decide)
  have t61 : s54 113 7 = s42 113 7 := g58 113 7 (by decide)
  have t62 : s54 113 8 = s42 113 8 := g58 113 8 (by decide)
  refine T_if1 (by decide +kernel) ?_
  refine T_let 11 (by decide +kernel) ?_
  refine T_if1 (by decide +kernel) ?_
  refine T_let 118 (by decide +kernel) ?_
  refine T_if1 (by decide +kernel) ?_
  refine T_leq (fun x63 e64 => ?_)
  have u65 := CI_b c55 (k := 6) (j := 6) bd_6_6
  refine T_if1 (by decide +kernel) ?_
  refine T_copy hfu (by decide +kernel) (by decide +kernel) (c := 12) (c2 := 119) (by decide +kernel) (by decide +kernel) (by decide) (by omega) bdr_12 bdr_119 (by decide) (by decide) c55 (fun s66 e69 c67 g70 => ?_)
  have f68 := z_Fr.up (R := R_X9_copyFrom_6_113) f56 g70 (by decide)
  have t71 : s66 6 6 = s54 6 6 := g70 6 6 (by decide)
  have t72 : s66 113 6 = s54 113 6 := g70 113 6 (by decide)
  have t73 : s66 113 7 = s54 113 7 := g70 113 7 (by decide)
  have t74 : s66 113 8 = s54 113 8 := g70 113 8 (by decide)
  refine T_if1 (by decide +kernel) ?_
  refine T_let 13 (by decide +kernel) ?_
  refine T_if1 (by decide +kernel) ?_
  refine T_let 120 (by decide +kernel) ?_
  refine T_if1 (by decide +kernel) ?_
  refine T_leq (fun x75 e76 => ?_)
  have u77 := CI_b c67 (k := 6) (j := 6) bd_6_6
  refine T_if1 (by decide +kernel) ?_
  refine T_copy hfu (by decide +kernel) (by decide +kernel) (c := 14) (c2 := 121) (by decide +kernel) (by decide +kernel) (by decide) (by omega) bdr_14 bdr_121 (by decide) (by decide) c67 (fun s78 e81 c79 g82 => ?_)
  have f80 := z_Fr.up (R := R_X9_copyFrom_6_113) f68 g82 (by decide)
  have t83 : s78 6 6 = s66 6 6 := g82 6 6 (by decide)
  have t84 : s78 113 6 = s66 113 6 := g82 113 6 (by decide)
  have t85 : s78 113 7 = s66 113 7 := g82 113 7 (by decide)
  have t86 : s78 113 8 = s66 113 8 := g82 113 8 (by decide)
  refine T_if1 (by decide +kernel) ?_
  refine T_let 15 (by decide +kernel) ?_
  refine T_if1 (by decide +kernel) ?_
  refine T_let 122 (by decide +kernel) ?_
  refine T_if1 (by decide +kernel) ?_
  refine T_leq (fun x87 e88 => ?_)
  have u89 := CI_b c79 (k := 6) (j := 6) bd_6_6
  refine T_if1 (by decide +kernel) ?_
  refine T_lcopy hfu (by decide +kernel) (by decide +kernel) (c := 16) (c2 := 123) (by decide +kernel) (by decide +kernel) (by decide) (by omega) bdr_16 bdr_123 (by decide) (by decide) c79 (fun s90 e93 c91 g94 => ?_)
  have f92 := z_Fr.up (R := R_X9_copyFrom_6_113) f80 g94 (by decide)
  have t95 : s90 6 6 = s78 6 6 := g94 6 6 (by decide)
  have t96 : s90 113 6 = s78 113 6 := g94 113 6 (by decide)
  have t97 : s90 113 7 = s78 113 7 := g94 113 7 (by decide)
  have t98 : s90 113 8 = s78 113 8 := g94 113 8 (by decide)
  refine T_if1 (by decide +kernel) ?_
  refine T_let 17 (by decide +kernel) ?_
  refine T_if1 (by decide +kernel) ?_
  refine T_let 124 (by decide +kernel) ?_
  refine T_if1 (by decide +kernel) ?_
  refine T_leq (fun x99 e100 => ?_)
  have u101 := CI_b c91 (k := 6) (j := 6) bd_6_6
  refine T_if1 (by decide +kernel) ?_
  refine T_lcopy hfu (by decide +kernel) (by decide +kernel) (c := 18) (c2 := 125) (by decide +kernel) (by decide +kernel) (by decide) (by omega) bdr_18 bdr_125 (by decide) (by decide) c91 (fun s102 e105 c103 g106 => ?_)
  have f104 := z_Fr.up (R := R_X9_copyFrom_6_113) f92 g106 (by decide)
  have t107 : s102 6 6 = s90 6 6 := g106 6 6 (by decide)
  have t108 : s102 113 6 = s90 113 6 := g106 113 6 (by decide)
  have t109 : s102 113 7 = s90 113 7 := g106 113 7 (by decide)
  have t110 : s102 113 8 = s90 113 8 := g106 113 8 (by decide)
  exact T_ret ⟨c103, f104, rfl⟩
abbrev R_X9_copyFrom_6_100 (a : Int) : Prop := (6 ≤ a ∧ a ≤ 18)
abbrev P_X9_copyFrom_6_100 (r0 : z_M) : z_V → z_M → Prop := fun v s' => z_CI s' ∧ z_Fr R_X9_copyFrom_6_100 r0 s' ∧ (v = vN)
theorem sf_X9_copyFrom_6_100 {fu : Nat} (hfu : 8589934592 ≤ fu) (r0 : z_M) (c0 : z_CI r0) : z_T (fX9_copyFrom fu r0 6 100) (P_X9_copyFrom_6_100 r0) := by
  refine T_of (fX9_copyFrom.eq_1 ..) ?_
  refine T_if1 (by decide +kernel) ?_
  refine T_leq (fun x1 e2 => ?_)
  have u3 := CI_b c0 (k := 100) (j := 6) bd_100_6
  refine T_if1 (by decide +kernel) ?_
  refine T_upg c0 bd_6_6 (by omega) (fun s4 c5 g7 g8 e9 => ?_)
  have f6 := z_Fr.up (R := R_X9_copyFrom_6_100) z_Fr.rf g7 (by decide)
  have t10 : s4 100 6 = r0 100 6 := g7 100 6 (by decide)
  have t11 : s4 100 7 = r0 100 7 := g7 100 7 (by decide)
  have t12 : s4 100 8 = r0 100 8 := g7 100 8 (by decide)
  refine T_if1 (by decide +kernel) ?_
  refine T_leq (fun x13 e14 => ?_)
  have u15 := CI_b c5 (k := 100) (j := 7) bd_100_7
  refine T_if1 (by decide +kernel) ?_
  refine T_upg c5 bd_6_7 (by omega) (fun s16 c17 g19 g20 e21 => ?_)
  have f18 := z_Fr.up (R := R_X9_copyFrom_6_100) f6 g19 (by decide)
  have t22 : s16 6 6 = s4 6 6 := g20 6 (by decide)
  have t23 : s16 100 6 = s4 100 6 := g19 100 6 (by decide)
  have t24 : s16 100 7 = s4 100 7 := g19 100 7 (by decide)
  have t25 : s16 100 8 = s4 100 8 := g19 100 8 (by decide)
  refine T_if1 (by decide +kernel) ?_
  refine T_leq (fun x26 e27 => ?_)
  have u28 := CI_b c17 (k := 100) (j := 8) bd_100_8
  refine T_if1 (by decide +kernel) ?_
  refine T_upg c17 bd_6_8 (by omega) (fun s29 c30 g32 g33 e34 => ?_)
  have f31 := z_Fr.up (R := R_X9_copyFrom_6_100) f18 g32 (by decide)
  have t35 : s29 6 6 = s16 6 6 := g33 6 (by decide)
  have t36 : s29 100 6 = s16 100 6 := g32 100 6 (by decide)
  have t37 : s29 100 7 = s16 100 7 := g32 100 7 (by decide)
  have t38 : s29 100 8 = s16 100 8 := g32 100 8 (by decide)
  refine T_if1 (by decide +kernel) ?_
  refine T_let 7 (by decide +kernel) ?_
  refine T_if1 (by decide +kernel) ?_
  refine T_let 101 (by decide +kernel) ?_
  refine T_if1 (by decide +kernel) ?_
  refine T_leq (fun x39 e40 => ?_)
  have u41 := CI_b c30 (k := 6) (j := 6) bd_6_6
  refine T_if1 (by decide +kernel) ?_
  refine T_copy hfu (by decide +kernel) (by decide +kernel) (c := 8) (c2 := 102) (by decide +kernel) (by decide +kernel) (by decide) (by omega) bdr_8 bdr_102 (by decide) (by decide) c30 (fun s42 e45 c43 g46 => ?_)
  have f44 := z_Fr.up (R := R_X9_copyFrom_6_100) f31 g46 (by decide)
  have t47 : s42 6 6 = s29 6 6 := g46 6 6 (by decide)
  have t48 : s42 100 6 = s29 100 6 := g46 100 6 (by decide)
  have t49 : s42 100 7 = s29 100 7 := g46 100 7 (by decide)
  have t50 : s42 100 8 = s29 100 8 := g46 100 8 (by decide)
  refine T_if1 (by decide +kernel) ?_
  refine T_let 9 (by decide +kernel) ?_
  refine T_if1 (by decide +kernel) ?_
  refine T_let 103 (by decide +kernel) ?_
  refine T_if1 (by decide +kernel) ?_
  refine T_leq (fun x51 e52 => ?_)
  have u53 := CI_b c43 (k := 6) (j := 6) bd_6_6
  refine T_if1 (by decide +kernel) ?_
  refine T_copy hfu (by decide +kernel) (by decide +kernel) (c := 10) (c2 := 104) (by decide +kernel) (by decide +kernel) (by decide) (by omega) bdr_10 bdr_104 (by decide) (by decide) c43 (fun s54 e57 c55 g58 => ?_)
  have f56 := z_Fr.up (R := R_X9_copyFrom_6_100) f44 g58 (by decide)
  have t59 : s54 6 6 = s42 6 6 := g58 6 6 (by decide)
  have t60 : s54 100 6 = s42 100 6 := g58 100 6 (by decide)
  have t61 : s54 100 7 = s42 100 7 := g58 100 7 (by decide)
  have t62 : s54 100 8 = s42 100 8 := g58 100 8 (by decide)
  refine T_if1 (by decide +kernel) ?_
  refine T_let 11 (by decide +kernel) ?_
  refine T_if1 (by decide +kernel) ?_
  refine T_let 105 (by decide +kernel) ?_
  refine T_if1 (by decide +kernel) ?_
  refine T_leq (fun x63 e64 => ?_)
  have u65 := CI_b c55 (k := 6) (j := 6) bd_6_6
  refine T_if1 (by decide +kernel) ?_
  refine T_copy hfu (by decide +kernel) (by decide +kernel) (c := 12) (c2 := 106) (by decide +kernel) (by decide +kernel) (by decide) (by omega) bdr_12 bdr_106 (by decide) (by decide) c55 (fun s66 e69 c67 g70 => ?_)
  have f68 := z_Fr.up (R := R_X9_copyFrom_6_100) f56 g70 (by decide)
  have t71 : s66 6 6 = s54 6 6 := g70 6 6 (by decide)
  have t72 : s66 100 6 = s54 100 6 := g70 100 6 (by decide)
  have t73 : s66 100 7 = s54 100 7 := g70 100 7 (by decide)
  have t74 : s66 100 8 = s54 100 8 := g70 100 8 (by decide)
  refine T_if1 (by decide +kernel) ?_
  refine T_let 13 (by decide +kernel) ?_
  refine T_if1 (by decide +kernel) ?_
  refine T_let 107 (by decide +kernel) ?_
  refine T_if1 (by decide +kernel) ?_
  refine T_leq (fun x75 e76 => ?_)
  have u77 := CI_b c67 (k := 6) (j := 6) bd_6_6
  refine T_if1 (by decide +kernel) ?_
  refine T_copy hfu (by decide +kernel) (by decide +kernel) (c := 14) (c2 := 108) (by decide +kernel) (by decide +kernel) (by decide) (by omega) bdr_14 bdr_108 (by decide) (by decide) c67 (fun s78 e81 c79 g82 => ?_)
  have f80 := z_Fr.up (R := R_X9_copyFrom_6_100) f68 g82 (by decide)
  have t83 : s78 6 6 = s66 6 6 := g82 6 6 (by decide)
  have t84 : s78 100 6 = s66 100 6 := g82 100 6 (by decide)
  have t85 : s78 100 7 = s66 100 7 := g82 100 7 (by decide)
  have t86 : s78 100 8 = s66 100 8 := g82 100 8 (by decide)
  refine T_if1 (by decide +kernel) ?_
  refine T_let 15 (by decide +kernel) ?_
  refine T_if1 (by decide +kernel) ?_
  refine T_let 109 (by decide +kernel) ?_
  refine T_if1 (by decide +kernel) ?_
  refine T_leq (fun x87 e88 => ?_)
  have u89 := CI_b c79 (k := 6) (j := 6) bd_6_6
  refine T_if1 (by decide +kernel) ?_
  refine T_lcopy hfu (by decide +kernel) (by decide +kernel) (c := 16) (c2 := 110) (by decide +kernel) (by decide +kernel) (by decide) (by omega) bdr_16 bdr_110 (by decide) (by decide) c79 (fun s90 e93 c91 g94 => ?_)
  have f92 := z_Fr.up (R := R_X9_copyFrom_6_100) f80 g94 (by decide)
  have t95 : s90 6 6 = s78 6 6 := g94 6 6 (by decide)
  have t96 : s90 100 6 = s78 100 6 := g94 100 6 (by decide)
  have t97 : s90 100 7 = s78 100 7 := g94 100 7 (by decide)
  have t98 : s90 100 8 = s78 100 8 := g94 100 8 (by decide)
  refine T_if1 (by decide +kernel) ?_
  refine T_let 17 (by decide +kernel) ?_
  refine T_if1 (by decide +kernel) ?_
  refine T_let 111 (by decide +kernel) ?_
  refine T_if1 (by decide +kernel) ?_
  refine T_leq (fun x99 e100 => ?_)
  have u101 := CI_b c91 (k := 6) (j := 6) bd_6_6
  refine T_if1 (by decide +kernel) ?_
  refine T_lcopy hfu (by decide +kernel) (by decide +kernel) (c := 18) (c2 := 112) (by decide +kernel) (by decide +kernel) (by decide) (by omega) bdr_18 bdr_112 (by decide) (by decide) c91 (fun s102 e105 c103 g106 => ?_)
  have f104 := z_Fr.up (R := R_X9_copyFrom_6_100) f92 g106 (by decide)
  have t107 : s102 6 6 = s90 6 6 := g106 6 6 (by decide)
  have t108 : s102 100 6 = s90 100 6 := g106 100 6 (by decide)
  have t109 : s102 100 7 = s90 100 7 := g106 100 7 (by decide)
  have t110 : s102 100 8 = s90 100 8 := g106 100 8 (by decide)
  exact T_ret ⟨c103, f104, rfl⟩
abbrev R_X9_copyFrom_6_87 (a : Int) : Prop := (6 ≤ a ∧ a ≤ 18)
abbrev P_X9_copyFrom_6_87 (r0 : z_M) : z_V → z_M → Prop := fun v s' => z_CI s' ∧ z_Fr R_X9_copyFrom_6_87 r0 s' ∧ (v = vN)
theorem sf_X9_copyFrom_6_87 {fu : Nat} (hfu : 8589934592 ≤ fu) (r0 : z_M) (c0 : z_CI r0) : z_T (fX9_copyFrom fu r0 6 87) (P_X9_copyFrom_6_87 r0) := by
  refine T_of (fX9_copyFrom.eq_1 ..) ?_
  refine T_if1 (by decide +kernel) ?_
  refine T_leq (fun x1 e2 => ?_)
  have u3 := CI_b c0 (k := 87) (j := 6) bd_87_6
  refine T_if1 (by decide +kernel) ?_
  refine T_upg c0 bd_6_6 (by omega) (fun s4 c5 g7 g8 e9 => ?_)
  have f6 := z_Fr.up (R := R_X9_copyFrom_6_87) z_Fr.rf g7 (by decide)
  have t10 : s4 87 6 = r0 87 6 := g7 87 6 (by decide)
  have t11 : s4 87 7 = r0 87 7 := g7 87 7 (by decide)
  have t12 : s4 87 8 = r0 87 8 := g7 87 8 (by decide)
  refine T_if1 (by decide +kernel) ?_
  refine T_leq (fun x13 e14 => ?_)
  have u15 := CI_b c5 (k := 87) (j := 7) bd_87_7
  refine T_if1 (by decide +kernel) ?_
  refine T_upg c5 bd_6_7 (by omega) (fun s16 c17 g19 g20 e21 => ?_)
  have f18 := z_Fr.up (R := R_X9_copyFrom_6_87) f6 g19 (by decide)
  have t22 : s16 6 6 = s4 6 6 := g20 6 (by decide)
  have t23 : s16 87 6 = s4 87 6 := g19 87 6 (by decide)
  have t24 : s16 87 7 = s4 87 7 := g19 87 7 (by decide)
  have t25 : s16 87 8 = s4 87 8 := g19 87 8 (by decide)
  refine T_if1 (by decide +kernel) ?_
  refine T_leq (fun x26 e27 => ?_)
  have u28 := CI_b c17 (k := 87) (j := 8) bd_87_8
  refine T_if1 (by decide +kernel) ?_
  refine T_upg c17 bd_6_8 (by omega) (fun s29 c30 g32 g33 e34 => ?_)
  have f31 := z_Fr.up (R := R_X9_copyFrom_6_87) f18 g32 (by decide)
  have t35 : s29 6 6 = s16 6 6 := g33 6 (by decide)
  have t36 : s29 87 6 = s16 87 6 := g32 87 6 (by decide)
  have t37 : s29 87 7 = s16 87 7 := g32 87 7 (by decide)
  have t38 : s29 87 8 = s16 87 8 := g32 87 8 (by decide)
  refine T_if1 (by decide +kernel) ?_
  refine T_let 7 (by decide +kernel) ?_
  refine T_if1 (by decide +kernel) ?_
  refine T_let 88 (by decide +kernel) ?_
  refine T_if1 (by decide +kernel) ?_
  refine T_leq (fun x39 e40 => ?_)
  have u41 := CI_b c30 (k := 6) (j := 6) bd_6_6
  refine T_if1 (by decide +kernel) ?_
  refine T_copy hfu (by decide +kernel) (by decide +kernel) (c := 8) (c2 := 89) (by decide +kernel) (by decide +kernel) (by decide) (by omega) bdr_8 bdr_89 (by decide) (by decide) c30 (fun s42 e45 c43 g46 => ?_)
  have f44 := z_Fr.up (R := R_X9_copyFrom_6_87) f31 g46 (by decide)
  have t47 : s42 6 6 = s29 6 6 := g46 6 6 (by decide)
  have t48 : s42 87 6 = s29 87 6 := g46 87 6 (by decide)
  have t49 : s42 87 7 = s29 87 7 := g46 87 7 (by decide)
  have t50 : s42 87 8 = s29 87 8 := g46 87 8 (by decide)
  refine T_if1 (by decide +kernel) ?_
  refine T_let 9 (by decide +kernel) ?_
  refine T_if1 (by decide +kernel) ?_
  refine T_let 90 (by decide +kernel) ?_
  refine T_if1 (by decide +kernel) ?_
  refine T_leq (fun x51 e52 => ?_)
  have u53 := CI_b c43 (k := 6) (j := 6) bd_6_6
  refine T_if1 (by decide +kernel) ?_
  refine T_copy hfu (by decide +kernel) (by decide +kernel) (c := 10) (c2 := 91) (by decide +kernel) (by decide +kernel) (by decide) (by omega) bdr_10 bdr_91 (by decide) (by decide) c43 (fun s54 e57 c55 g58 => ?_)
  have f56 := z_Fr.up (R := R_X9_copyFrom_6_87) f44 g58 (by decide)
  have t59 : s54 6 6 = s42 6 6 := g58 6 6 (by decide)
  have t60 : s54 87 6 = s42 87 6 := g58 87 6 (by decide)
  have t61 : s54 87 7 = s42 87 7 := g58 87 7 (by decide)
  have t62 : s54 87 8 = s42 87 8 := g58 87 8 (by decide)
  refine T_if1 (by decide +kernel) ?_
  refine T_let 11 (by decide +kernel) ?_
  refine T_if1 (by decide +kernel) ?_
  refine T_let 92 (by decide +kernel) ?_
  refine T_if1 (by decide +kernel) ?_
  refine T_leq (fun x63 e64 => ?_)
  have u65 := CI_b c55 (k := 6) (j := 6) bd_6_6
  refine T_if1 (by decide +kernel) ?_
  refine T_copy hfu (by decide +kernel) (by decide +kernel) (c := 12) (c2 := 93) (by decide +kernel) (by decide +kernel) (by decide) (by omega) bdr_12 bdr_93 (by decide) (by decide) c55 (fun s66 e69 c67 g70 => ?_)
  have f68 := z_Fr.up (R := R_X9_copyFrom_6_87) f56 g70 (by decide)
  have t71 : s66 6 6 = s54 6 6 := g70 6 6 (by decide)
  have t72 : s66 87 6 = s54 87 6 := g70 87 6 (by decide)
  have t73 : s66 87 7 = s54 87 7 := g70 87 7 (by decide)
  have t74 : s66 87 8 = s54 87 8 := g70 87 8 (by decide)
  refine T_if1 (by decide +kernel) ?_
  refine T_let 13 (by decide +kernel) ?_
  refine T_if1 (by decide +kernel) ?_
  refine T_let 94 (by decide +kernel) ?_
  refine T_if1 (by decide +kernel) ?_
  refine T_leq (fun x75 e76 => ?_)
  have u77 := CI_b c67 (k := 6) (j := 6) bd_6_6
  refine T_if1 (by decide +kernel) ?_
  refine T_copy hfu (by decide +kernel) (by decide +kernel) (c := 14) (c2 := 95) (by decide +kernel) (by decide +kernel) (by decide) (by omega) bdr_14 bdr_95 (by decide) (by decide) c67 (fun s78 e81 c79 g82 => ?_)
  have f80 := z_Fr.up (R := R_X9_copyFrom_6_87) f68 g82 (by decide)
  have t83 : s78 6 6 = s66 6 6 := g82 6 6 (by decide)
  have t84 : s78 87 6 = s66 87 6 := g82 87 6 (by decide)
  have t85 : s78 87 7 = s66 87 7 := g82 87 7 (by decide)
  have t86 : s78 87 8 = s66 87 8 := g82 87 8 (by decide)
  refine T_if1 (by decide +kernel) ?_
  refine T_let 15 (by decide +kernel) ?_
  refine T_if1 (by decide +kernel) ?_
  refine T_let 96 (by decide +kernel) ?_
  refine T_if1 (by decide +kernel) ?_
  refine T_leq (fun x87 e88 => ?_)
  have u89 := CI_b c79 (k := 6) (j := 6) bd_6_6
  refine T_if1 (by decide +kernel) ?_
  refine T_lcopy hfu (by decide +kernel) (by decide +kernel) (c := 16) (c2 := 97) (by decide +kernel) (by decide +kernel) (by decide) (by omega) bdr_16 bdr_97 (by decide) (by decide) c79 (fun s90 e93 c91 g94 => ?_)
  have f92 := z_Fr.up (R := R_X9_copyFrom_6_87) f80 g94 (by decide)
  have t95 : s90 6 6 = s78 6 6 := g94 6 6 (by decide)
  have t96 : s90 87 6 = s78 87 6 := g94 87 6 (by decide)
  have t97 : s90 87 7 = s78 87 7 := g94 87 7 (by decide)
  have t98 : s90 87 8 = s78 87 8 := g94 87 8 (by decide)
  refine T_if1 (by decide +kernel) ?_
  refine T_let 17 (by decide +kernel) ?_
  refine T_if1 (by decide +kernel) ?_
  refine T_let 98 (by decide +kernel) ?_
  refine T_if1 (by decide +kernel) ?_
  refine T_leq (fun x99 e100 => ?_)
  have u101 := CI_b c91 (k := 6) (j := 6) bd_6_6
  refine T_if1 (by decide +kernel) ?_
  refine T_lcopy hfu (by decide +kernel) (by decide +kernel) (c := 18) (c2 := 99) (by decide +kernel) (by decide +kernel) (by decide) (by omega) bdr_18 bdr_99 (by decide) (by decide) c91 (fun s102 e105 c103 g106 => ?_)
  have f104 := z_Fr.up (R := R_X9_copyFrom_6_87) f92 g106 (by decide)
  have t107 : s102 6 6 = s90 6 6 := g106 6 6 (by decide)
  have t108 : s102 87 6 = s90 87 6 := g106 87 6 (by decide)
  have t109 : s102 87 7 = s90 87 7 := g106 87 7 (by decide)
  have t110 : s102 87 8 = s90 87 8 := g106 87 8 (by decide)
  exact T_ret ⟨c103, f104, rfl⟩
abbrev R_X9_copyFrom_6_74 (a : Int) : Prop := (6 ≤ a ∧ a ≤ 18)
abbrev P_X9_copyFrom_6_74 (r0 : z_M) : z_V → z_M → Prop := fun v s' => z_CI s' ∧ z_Fr R_X9_copyFrom_6_74 r0 s' ∧ (v = vN)
theorem sf_X9_copyFrom_6_74 {fu : Nat} (hfu : 8589934592 ≤ fu) (r0 : z_M) (c0 : z_CI r0) : z_T (fX9_copyFrom fu r0 6 74) (P_X9_copyFrom_6_74 r0) := by
  refine T_of (fX9_copyFrom.eq_1 ..) ?_
  refine T_if1 (by decide +kernel) ?_
  refine T_leq (fun x1 e2 => ?_)
  have u3 := CI_b c0 (k := 74) (j := 6) bd_74_6
  refine T_if1 (by decide +kernel) ?_
  refine T_upg c0 bd_6_6 (by omega) (fun s4 c5 g7 g8 e9 => ?_)
  have f6 := z_Fr.up (R := R_X9_copyFrom_6_74) z_Fr.rf g7 (by decide)
  have t10 : s4 74 6 = r0 74 6 := g7 74 6 (by decide)
  have t11 : s4 74 7 = r0 74 7 := g7 74 7 (by decide)
  have t12 : s4 74 8 = r0 74 8 := g7 74 8 (by decide)
  refine T_if1 (by decide +kernel) ?_
  refine T_leq (fun x13 e14 => ?_)
  have u15 := CI_b c5 (k := 74) (j := 7) bd_74_7
  refine T_if1 (by decide +kernel) ?_
  refine T_upg c5 bd_6_7 (by omega) (fun s16 c17 g19 g20 e21 => ?_)
  have f18 := z_Fr.up (R := R_X9_copyFrom_6_74) f6 g19 (by decide)
  have t22 : s16 6 6 = s4 6 6 := g20 6 (by decide)
  have t23 : s16 74 6 = s4 74 6 := g19 74 6 (by decide)
  have t24 : s16 74 7 = s4 74 7 := g19 74 7 (by decide)
  have t25 : s16 74 8 = s4 74 8 := g19 74 8 (by decide)
  refine T_if1 (by decide +kernel) ?_
  refine T_leq (fun x26 e27 => ?_)
  have u28 := CI_b c17 (k := 74) (j := 8) bd_74_8
  refine T_if1 (by decide +kernel) ?_
  refine T_upg c17 bd_6_8 (by omega) (fun s29 c30 g32 g33 e34 => ?_)
  have f31 := z_Fr.up (R := R_X9_copyFrom_6_74) f18 g32 (by decide)
  have t35 : s29 6 6 = s16 6 6 := g33 6 (by decide)
  have t36 : s29 74 6 = s16 74 6 := g32 74 6 (by decide)
  have t37 : s29 74 7 = s16 74 7 := g32 74 7 (by decide)
  have t38 : s29 74 8 = s16 74 8 := g32 74 8 (by decide)
  refine T_if1 (by decide +kernel) ?_
  refine T_let 7 (by decide +kernel) ?_
  refine T_if1 (by decide +kernel) ?_
  refine T_let 75 (by decide +kernel) ?_
  refine T_if1 (by decide +kernel) ?_
  refine T_leq (fun x39 e40 => ?_)
  have u41 := CI_b c30 (k := 6) (j := 6) bd_6_6
  refine T_if1 (by decide +kernel) ?_
  refine T_copy hfu (by decide +kernel) (by decide +kernel) (c := 8) (c2 := 76) (by decide +kernel) (by decide +kernel) (by decide) (by omega) bdr_8 bdr_76 (by decide) (by decide) c30 (fun s42 e45 c43 g46 => ?_)
  have f44 := z_Fr.up (R := R_X9_copyFrom_6_74) f31 g46 (by decide)
  have t47 : s42 6 6 = s29 6 6 := g46 6 6 (by decide)
  have t48 : s42 74 6 = s29 74 6 := g46 74 6 (by decide)
  have t49 : s42 74 7 = s29 74 7 := g46 74 7 (by decide)
  have t50 : s42 74 8 = s29 74 8 := g46 74 8 (by decide)
  refine T_if1 (by decide +kernel) ?_
  refine T_let 9 (by decide +kernel) ?_
  refine T_if1 (by decide +kernel) ?_
  refine T_let 77 (by decide +kernel) ?_
  refine T_if1 (by decide +kernel) ?_
  refine T_leq (fun x51 e52 => ?_)
  have u53 := CI_b c43 (k := 6) (j := 6) bd_6_6
  refine T_if1 (by decide +kernel) ?_
  refine T_copy hfu (by decide +kernel) (by decide +kernel) (c := 10) (c2 := 78) (by decide +kernel) (by decide +kernel) (by decide) (by omega) bdr_10 bdr_78 (by decide) (by decide) c43 (fun s54 e57 c55 g58 => ?_)
  have f56 := z_Fr.up (R := R_X9_copyFrom_6_74) f44 g58 (by decide)
  have t59 : s54 6 6 = s42 6 6 := g58 6 6 (by decide)
  have t60 : s54 74 6 = s42 74 6 := g58 74 6 (by decide)
  have t61 : s54 74 7 = s42 74 7 := g58 74 7 (by decide)
  have t62 : s54 74 8 = s42 74 8 := g58 74 8 (by decide)
  refine T_if1 (by decide +kernel) ?_
  refine T_let 11 (by decide +kernel) ?_
  refine T_if1 (by decide +kernel) ?_
  refine T_let 79 (by decide +kernel) ?_
  refine T_if1 (by decide +kernel) ?_
  refine T_leq (fun x63 e64 => ?_)
  have u65 := CI_b c55 (k := 6) (j := 6) bd_6_6
  refine T_if1 (by decide +kernel) ?_
  refine T_copy hfu (by decide +kernel) (by decide +kernel) (c := 12) (c2 := 80) (by decide +kernel) (by decide +kernel) (by decide) (by omega) bdr_12 bdr_80 (by decide) (by decide) c55 (fun s66 e69 c67 g70 => ?_)
  have f68 := z_Fr.up (R := R_X9_copyFrom_6_74) f56 g70 (by decide)
  have t71 : s66 6 6 = s54 6 6 := g70 6 6 (by decide)
  have t72 : s66 74 6 = s54 74 6 := g70 74 6 (by decide)
  have t73 : s66 74 7 = s54 74 7 := g70 74 7 (by decide)
  have t74 : s66 74 8 = s54 74 8 := g70 74 8 (by decide)
  refine T_if1 (by decide +kernel) ?_
  refine T_let 13 (by decide +kernel) ?_
  refine T_if1 (by decide +kernel) ?_
  refine T_let 81 (by decide +kernel) ?_
  refine T_if1 (by decide +kernel) ?_
  refine T_leq (fun x75 e76 => ?_)
  have u77 := CI_b c67 (k := 6) (j := 6) bd_6_6
  refine T_if1 (by decide +kernel) ?_
  refine T_copy hfu (by decide +kernel) (by decide +kernel) (c := 14) (c2 := 82) (by decide +kernel) (by decide +kernel) (by decide) (by omega) bdr_14 bdr_82 (by decide) (by decide) c67 (fun s78 e81 c79 g82 => ?_)
  have f80 := z_Fr.up (R := R_X9_copyFrom_6_74) f68 g82 (by decide)
  have t83 : s78 6 6 = s66 6 6 := g82 6 6 (by decide)
  have t84 : s78 74 6 = s66 74 6 := g82 74 6 (by decide)
  have t85 : s78 74 7 = s66 74 7 := g82 74 7 (by decide)
  have t86 : s78 74 8 = s66 74 8 := g82 74 8 (by decide)
  refine T_if1 (by decide +kernel) ?_
  refine T_let 15 (by decide +kernel) ?_
  refine T_if1 (by decide +kernel) ?_
  refine T_let 83 (by decide +kernel) ?_
  refine T_if1 (by decide +kernel) ?_
  refine T_leq (fun x87 e88 => ?_)
  have u89 := CI_b c79 (k := 6) (j := 6) bd_6_6
  refine T_if1 (by decide +kernel) ?_
  refine T_lcopy hfu (by decide +kernel) (by decide +kernel) (c := 16) (c2 := 84) (by decide +kernel) (by decide +kernel) (by decide) (by omega) bdr_16 bdr_84 (by decide) (by decide) c79 (fun s90 e93 c91 g94 => ?_)
  have f92 := z_Fr.up (R := R_X9_copyFrom_6_74) f80 g94 (by decide)
  have t95 : s90 6 6 = s78 6 6 := g94 6 6 (by decide)
  have t96 : s90 74 6 = s78 74 6 := g94 74 6 (by decide)
  have t97 : s90 74 7 = s78 74 7 := g94 74 7 (by decide)
  have t98 : s90 74 8 = s78 74 8 := g94 74 8 (by decide)
  refine T_if1 (by decide +kernel) ?_
  refine T_let 17 (by decide +kernel) ?_
  refine T_if1 (by decide +kernel) ?_
  refine T_let 85 (by decide +kernel) ?_
  refine T_if1 (by decide +kernel) ?_
  refine T_leq (fun x99 e100 => ?_)
  have u101 := CI_b c91 (k := 6) (j := 6) bd_6_6
  refine T_if1 (by decide +kernel) ?_
  refine T_lcopy hfu (by decide +kernel) (by decide +kernel) (c := 18) (c2 := 86) (by decide +kernel) (by decide +kernel) (by decide) (by omega) bdr_18 bdr_86 (by decide) (by decide) c91 (fun s102 e105 c103 g106 => ?_)
  have f104 := z_Fr.up (R := R_X9_copyFrom_6_74) f92 g106 (by decide)
  have t107 : s102 6 6 = s90 6 6 := g106 6 6 (by decide)
  have t108 : s102 74 6 = s90 74 6 := g106 74 6 (by decide)
  have t109 : s102 74 7 = s90 74 7 := g106 74 7 (by decide)
  have t110 : s102 74 8 = s90 74 8 := g106 74 8 (by decide)
  exact T_ret ⟨c103, f104, rfl⟩
abbrev R_X9_copyFrom_6_61 (a : Int) : Prop := (6 ≤ a ∧ a ≤ 18)
abbrev P_X9_copyFrom_6_61 (r0 : z_M) : z_V → z_M → Prop := fun v s' => z_CI s' ∧ z_Fr R_X9_copyFrom_6_61 r0 s' ∧ (v = vN)
theorem sf_X9_copyFrom_6_61 {fu : Nat} (hfu : 8589934592 ≤ fu) (r0 : z_M) (c0 : z_CI r0) : z_T (fX9_copyFrom fu r0 6 61) (P_X9_copyFrom_6_61 r0) := by
  refine T_of (fX9_copyFrom.eq_1 ..) ?_
  refine T_if1 (by decide +kernel) ?_
  refine T_leq (fun x1 e2 => ?_)
  have u3 := CI_b c0 (k := 61) (j := 6) bd_61_6
  refine T_if1 (by decide +kernel) ?_
  refine T_upg c0 bd_6_6 (by omega) (fun s4 c5 g7 g8 e9 => ?_)
  have f6 := z_Fr.up (R := R_X9_copyFrom_6_61) z_Fr.rf g7 (by decide)
  have t10 : s4 61 6 = r0 61 6 := g7 61 6 (by decide)
  have t11 : s4 61 7 = r0 61 7 := g7 61 7 (by decide)
  have t12 : s4 61 8 = r0 61 8 := g7 61 8 (by decide)
  refine T_if1 (by decide +kernel) ?_
  refine T_leq (fun x13 e14 => ?_)
  have u15 := CI_b c5 (k := 61) (j := 7) bd_61_7
  refine T_if1 (by decide +kernel) ?_
  refine T_upg c5 bd_6_7 (by omega) (fun s16 c17 g19 g20 e21 => ?_)
  have f18 := z_Fr.up (R := R_X9_copyFrom_6_61) f6 g19 (by decide)
  have t22 : s16 6 6 = s4 6 6 := g20 6 (by decide)
  have t23 : s16 61 6 = s4 61 6 := g19 61 6 (by decide)
  have t24 : s16 61 7 = s4 61 7 := g19 61 7 (by decide)
  have t25 : s16 61 8 = s4 61 8 := g19 61 8 (by decide)
  refine T_if1 (by decide +kernel) ?_
  refine T_leq (fun x26 e27 => ?_)
  have u28 := CI_b c17 (k := 61) (j := 8) bd_61_8
  refine T_if1 (by decide +kernel) ?_
  refine T_upg c17 bd_6_8 (by omega) (fun s29 c30 g32 g33 e34 => ?_)
  have f31 := z_Fr.up (R := R_X9_copyFrom_6_61) f18 g32 (by decide)
  have t35 : s29 6 6 = s16 6 6 := g33 6 (by decide)
  have t36 : s29 61 6 = s16 61 6 := g32 61 6 (by decide)
  have t37 : s29 61 7 = s16 61 7 := g32 61 7 (by decide)
  have t38 : s29 61 8 = s16 61 8 := g32 61 8 (by decide)
  refine T_if1 (by decide +kernel) ?_
  refine T_let 7 (by decide +kernel) ?_
  refine T_if1 (by decide +kernel) ?_
  refine T_let 62 (by decide +kernel) ?_
  refine T_if1 (by decide +kernel) ?_
  refine T_leq (fun x39 e40 => ?_)
  have u41 := CI_b c30 (k := 6) (j := 6) bd_6_6
  refine T_if1 (by decide +kernel) ?_
  refine T_copy hfu (by decide +kernel) (by decide +kernel) (c := 8) (c2 := 63) (by decide +kernel) (by decide +kernel) (by decide) (by omega) bdr_8 bdr_63 (by decide) (by decide) c30 (fun s42 e45 c43 g46 => ?_)
  have f44 := z_Fr.up (R := R_X9_copyFrom_6_61) f31 g46 (by decide)
  have t47 : s42 6 6 = s29 6 6 := g46 6 6 (by decide)
  have t48 : s42 61 6 = s29 61 6 := g46 61 6 (by decide)
  have t49 : s42 61 7 = s29 61 7 := g46 61 7 (by decide)
  have t50 : s42 61 8 = s29 61 8 := g46 61 8 (by decide)
  refine T_if1 (by decide +kernel) ?_
  refine T_let 9 (by decide +kernel) ?_
  refine T_if1 (by decide +kernel) ?_
  refine T_let 64 (by decide +kernel) ?_
  refine T_if1 (by decide +kernel) ?_
  refine T_leq (fun x51 e52 => ?_)
  have u53 := CI_b c43 (k := 6) (j := 6) bd_6_6
  refine T_if1 (by decide +kernel) ?_
  refine T_copy hfu (by decide +kernel) (by decide +kernel) (c := 10) (c2 := 65) (by decide +kernel) (by decide +kernel) (by decide) (by omega) bdr_10 bdr_65 (by decide) (by decide) c43 (fun s54 e57 c55 g58 => ?_)
  have f56 := z_Fr.up (R := R_X9_copyFrom_6_61) f44 g58 (by decide)
  have t59 : s54 6 6 = s42 6 6 := g58 6 6 (by decide)
  have t60 : s54 61 6 = s42 61 6 := g58 61 6 (by decide)
  have t61 : s54 61 7 = s42 61 7 := g58 61 7 (by decide)
  have t62 : s54 61 8 = s42 61 8 := g58 61 8 (by decide)
  refine T_if1 (by decide +kernel) ?_
  refine T_let 11 (by decide +kernel) ?_
  refine T_if1 (by decide +kernel) ?_
  refine T_let 66 (by decide +kernel) ?_
  refine T_if1 (by decide +kernel) ?_
  refine T_leq (fun x63 e64 => ?_)
  have u65 := CI_b c55 (k := 6) (j := 6) bd_6_6
  refine T_if1 (by decide +kernel) ?_
  refine T_copy hfu (by decide +kernel) (by decide +kernel) (c := 12) (c2 := 67) (by decide +kernel) (by decide +kernel) (by decide) (by omega) bdr_12 bdr_67 (by decide) (by decide) c55 (fun s66 e69 c67 g70 => ?_)
  have f68 := z_Fr.up (R := R_X9_copyFrom_6_61) f56 g70 (by decide)
  have t71 : s66 6 6 = s54 6 6 := g70 6 6 (by decide)
  have t72 : s66 61 6 = s54 61 6 := g70 61 6 (by decide)
  have t73 : s66 61 7 = s54 61 7 := g70 61 7 (by decide)
  have t74 : s66 61 8 = s54 61 8 := g70 61 8 (by decide)
  refine T_if1 (by decide +kernel) ?_
  refine T_let 13 (by decide +kernel) ?_
  refine T_if1 (by decide +kernel) ?_
  refine T_let 68 (by decide +kernel) ?_
  refine T_if1 (by decide +kernel) ?_
  refine T_leq (fun x75 e76 => ?_)
  have u77 := CI_b c67 (k := 6) (j := 6) bd_6_6
  refine T_if1 (by decide +kernel) ?_
  refine T_copy hfu (by decide +kernel) (by decide +kernel) (c := 14) (c2 := 69) (by decide +kernel) (by decide +kernel) (by decide) (by omega) bdr_14 bdr_69 (by decide) (by decide) c67 (fun s78 e81 c79 g82 => ?_)
  have f80 := z_Fr.up (R := R_X9_copyFrom_6_61) f68 g82 (by decide)
  have t83 : s78 6 6 = s66 6 6 := g82 6 6 (by decide)
  have t84 : s78 61 6 = s66 61 6 := g82 61 6 (by decide)
  have t85 : s78 61 7 = s66 61 7 := g82 61 7 (by decide)
  have t86 : s78 61 8 = s66 61 8 := g82 61 8 (by decide)
  refine T_if1 (by decide +kernel) ?_
  refine T_let 15 (by decide +kernel) ?_
  refine T_if1 (by decide +kernel) ?_
  refine T_let 70 (by decide +kernel) ?_
  refine T_if1 (by decide +kernel) ?_
  refine T_leq (fun x87 e88 => ?_)
  have u89 := CI_b c79 (k := 6) (j := 6) bd_6_6
  refine T_if1 (by decide +kernel) ?_
  refine T_lcopy hfu (by decide +kernel) (by decide +kernel) (c := 16) (c2 := 71) (by decide +kernel) (by decide +kernel) (by decide) (by omega) bdr_16 bdr_71 (by decide) (by decide) c79 (fun s90 e93 c91 g94 => ?_)
  have f92 := z_Fr.up (R := R_X9_copyFrom_6_61) f80 g94 (by decide)
  have t95 : s90 6 6 = s78 6 6 := g94 6 6 (by decide)
  have t96 : s90 61 6 = s78 61 6 := g94 61 6 (by decide)
  have t97 : s90 61 7 = s78 61 7 := g94 61 7 (by decide)
  have t98 : s90 61 8 = s78 61 8 := g94 61 8 (by decide)
  refine T_if1 (by decide +kernel) ?_
  refine T_let 17 (by decide +kernel) ?_
  refine T_if1 (by decide +kernel) ?_
  refine T_let 72 (by decide +kernel) ?_
  refine T_if1 (by decide +kernel) ?_
  refine T_leq (fun x99 e100 => ?_)
  have u101 := CI_b c91 (k := 6) (j := 6) bd_6_6
  refine T_if1 (by decide +kernel) ?_
  refine T_lcopy hfu (by decide +kernel) (by decide +kernel) (c := 18) (c2 := 73) (by decide +kernel) (by decide +kernel) (by decide) (by omega) bdr_18 bdr_73 (by decide) (by decide) c91 (fun s102 e105 c103 g106 => ?_)
  have f104 := z_Fr.up (R := R_X9_copyFrom_6_61) f92 g106 (by decide)
  have t107 : s102 6 6 = s90 6 6 := g106 6 6 (by decide)
  have t108 : s102 61 6 = s90 61 6 := g106 61 6 (by decide)
  have t109 : s102 61 7 = s90 61 7 := g106 61 7 (by decide)
  have t110 : s102 61 8 = s90 61 8 := g106 61 8 (by decide)
  exact T_ret ⟨c103, f104, rfl⟩
abbrev R_X9_copyFrom_6_48 (a : Int) : Prop := (6 ≤ a ∧ a ≤ 18)
abbrev P_X9_copyFrom_6_48 (r0 : z_M) : z_V → z_M → Prop := fun v s' => z_CI s' ∧ z_Fr R_X9_copyFrom_6_48 r0 s' ∧ (v = vN)
theorem sf_X9_copyFrom_6_48 {fu : Nat} (hfu : 8589934592 ≤ fu) (r0 : z_M) (c0 : z_CI r0) : z_T (fX9_copyFrom fu r0 6 48) (P_X9_copyFrom_6_48 r0) := by
  refine T_of (fX9_copyFrom.eq_1 ..) ?_
  refine T_if1 (by decide +kernel) ?_
  refine T_leq (fun x1 e2 => ?_)
  have u3 := CI_b c0 (k := 48) (j := 6) bd_48_6
  refine T_if1 (by decide +kernel) ?_
  refine T_upg c0 bd_6_6 (by omega) (fun s4 c5 g7 g8 e9 => ?_)
  have f6 := z_Fr.up (R := R_X9_copyFrom_6_48) z_Fr.rf g7 (by decide)
  have t10 : s4 48 6 = r0 48 6 := g7 48 6 (by decide)
  have t11 : s4 48 7 = r0 48 7 := g7 48 7 (by decide)
  have t12 : s4 48 8 = r0 48 8 := g7 48 8 (by decide)
  refine T_if1 (by decide +kernel) ?_
  refine T_leq (fun x13 e14 => ?_)
  have u15 := CI_b c5 (k := 48) (j := 7) bd_48_7
  refine T_if1 (by decide +kernel) ?_
  refine T_upg c5 bd_6_7 (by omega) (fun s16 c17 g19 g20 e21 => ?_)
  have f18 := z_Fr.up (R := R_X9_copyFrom_6_48) f6 g19 (by decide)
  have t22 : s16 6 6 = s4 6 6 := g20 6 (by decide)
  have t23 : s16 48 6 = s4 48 6 := g19 48 6 (by decide)
  have t24 : s16 48 7 = s4 48 7 := g19 48 7 (by decide)
  have t25 : s16 48 8 = s4 48 8 := g19 48 8 (by decide)
  refine T_if1 (by decide +kernel) ?_
  refine T_leq (fun x26 e27 => ?_)
  have u28 := CI_b c17 (k := 48) (j := 8) bd_48_8
  refine T_if1 (by decide +kernel) ?_
  refine T_upg c17 bd_6_8 (by omega) (fun s29 c30 g32 g33 e34 => ?_)
  have f31 := z_Fr.up (R := R_X9_copyFrom_6_48) f18 g32 (by decide)
  have t35 : s29 6 6 = s16 6 6 := g33 6 (by decide)
  have t36 : s29 48 6 = s16 48 6 := g32 48 6 (by decide)
  have t37 : s29 48 7 = s16 48 7 := g32 48 7 (by decide)
  have t38 : s29 48 8 = s16 48 8 := g32 48 8 (by decide)
  refine T_if1 (by decide +kernel) ?_
  refine T_let 7 (by decide +kernel) ?_
  refine T_if1 (by decide +kernel) ?_
  refine T_let 49 (by decide +kernel) ?_
  refine T_if1 (by decide +kernel) ?_
  refine T_leq (fun x39 e40 => ?_)
  have u41 := CI_b c30 (k := 6) (j := 6) bd_6_6
  refine T_if1 (by decide +kernel) ?_
  refine T_copy hfu (by decide +kernel) (by decide +kernel) (c := 8) (c2 := 50) (by decide +kernel) (by decide +kernel) (by decide) (by omega) bdr_8 bdr_50 (by decide) (by decide) c30 (fun s42 e45 c43 g46 => ?_)
  have f44 := z_Fr.up (R := R_X9_copyFrom_6_48) f31 g46 (by decide)
  have t47 : s42 6 6 = s29 6 6 := g46 6 6 (by decide)
  have t48 : s42 48 6 = s29 48 6 := g46 48 6 (by decide)
  have t49 : s42 48 7 = s29 48 7 := g46 48 7 (by decide)
  have t50 : s42 48 8 = s29 48 8 := g46 48 8 (by decide)
  refine T_if1 (by decide +kernel) ?_
  refine T_let 9 (by decide +kernel) ?_
  refine T_if1 (by decide +kernel) ?_
  refine T_let 51 (by decide +kernel) ?_
  refine T_if1 (by decide +kernel) ?_
  refine T_leq (fun x51 e52 => ?_)
  have u53 := CI_b c43 (k := 6) (j := 6) bd_6_6
  refine T_if1 (by decide +kernel) ?_
  refine T_copy hfu (by decide +kernel) (by decide +kernel) (c := 10) (c2 := 52) (by decide +kernel) (by decide +kernel) (by decide) (by omega) bdr_10 bdr_52 (by decide) (by decide) c43 (fun s54 e57 c55 g58 => ?_)
  have f56 := z_Fr.up (R := R_X9_copyFrom_6_48) f44 g58 (by decide)
  have t59 : s54 6 6 = s42 6 6 := g58 6 6 (by decide)
  have t60 : s54 48 6 = s42 48 6 := g58 48 6 (by decide)
  have t61 : s54 48 7 = s42 48 7 := g58 48 7 (by decide)
  have t62 : s54 48 8 = s42 48 8 := g58 48 8 (by decide)
  refine T_if1 (by decide +kernel) ?_
  refine T_let 11 (by decide +kernel) ?_
  refine T_if1 (by decide +kernel) ?_
  refine T_let 53 (by decide +kernel) ?_
  refine T_if1 (by decide +kernel) ?_
  refine T_leq (fun x63 e64 => ?_)
  have u65 := CI_b c55 (k := 6) (j := 6) bd_6_6
  refine T_if1 (by decide +kernel) ?_
  refine T_copy hfu (by decide +kernel) (by decide +kernel) (c := 12) (c2 := 54) (by decide +kernel) (by decide +kernel) (by decide) (by omega) bdr_12 bdr_54 (by decide) (by decide) c55 (fun s66 e69 c67 g70 => ?_)
  have f68 := z_Fr.up (R := R_X9_copyFrom_6_48) f56 g70 (by decide)
  have t71 : s66 6 6 = s54 6 6 := g70 6 6 (by decide)
  have t72 : s66 48 6 = s54 48 6 := g70 48 6 (by decide)
  have t73 : s66 48 7 = s54 48 7 := g70 48 7 (by decide)
  have t74 : s66 48 8 = s54 48 8 := g70 48 8 (by decide)
  refine T_if1 (by decide +kernel) ?_
  refine T_let 13 (by decide +kernel) ?_
  refine T_if1 (by decide +kernel) ?_
  refine T_let 55 (by decide +kernel) ?_
  refine T_if1 (by decide +kernel) ?_
  refine T_leq (fun x75 e76 => ?_)
  have u77 := CI_b c67 (k := 6) (j := 6) bd_6_6
  refine T_if1 (by decide +kernel) ?_
  refine T_copy hfu (by decide +kernel) (by decide +kernel) (c := 14) (c2 := 56) (by decide +kernel) (by decide +kernel) (by decide) (by omega) bdr_14 bdr_56 (by decide) (by decide) c67 (fun s78 e81 c79 g82 => ?_)
  have f80 := z_Fr.up (R := R_X9_copyFrom_6_48) f68 g82 (by decide)
  have t83 : s78 6 6 = s66 6 6 := g82 6 6 (by decide)
  have t84 : s78 48 6 = s66 48 6 := g82 48 6 (by decide)
  have t85 : s78 48 7 = s66 48 7 := g82 48 7 (by decide)
  have t86 : s78 48 8 = s66 48 8 := g82 48 8 (by decide)
  refine T_if1 (by decide +kernel) ?_
  refine T_let 15 (by decide +kernel) ?_
  refine T_if1 (by decide +kernel) ?_
  refine T_let 57 (by decide +kernel) ?_
  refine T_if1 (by decide +kernel) ?_
  refine T_leq (fun x87 e88 => ?_)
  have u89 := CI_b c79 (k := 6) (j := 6) bd_6_6
  refine T_if1 (by decide +kernel) ?_
  refine T_lcopy hfu (by decide +kernel) (by decide +kernel) (c := 16) (c2 := 58) (by decide +kernel) (by decide +kernel) (by decide) (by omega) bdr_16 bdr_58 (by decide) (by decide) c79 (fun s90 e93 c91 g94 => ?_)
  have f92 := z_Fr.up (R := R_X9_copyFrom_6_48) f80 g94 (by decide)
  have t95 : s90 6 6 = s78 6 6 := g94 6 6 (by decide)
  have t96 : s90 48 6 = s78 48 6 := g94 48 6 (by decide)
  have t97 : s90 48 7 = s78 48 7 := g94 48 7 (by decide)
  have t98 : s90 48 8 = s78 48 8 := g94 48 8 (by decide)
  refine T_if1 (by decide +kernel) ?_
  refine T_let 17 (by decide +kernel) ?_
  refine T_if1 (by decide +kernel) ?_
  refine T_let 59 (by decide +kernel) ?_
  refine T_if1 (by decide +kernel) ?_
  refine T_leq (fun x99 e100 => ?_)
  have u101 := CI_b c91 (k := 6) (j := 6) bd_6_6
  refine T_if1 (by decide +kernel) ?_
  refine T_lcopy hfu (by decide +kernel) (by decide +kernel) (c := 18) (c2 := 60) (by decide +kernel) (by decide +kernel) (by decide) (by omega) bdr_18 bdr_60 (by decide) (by decide) c91 (fun s102 e105 c103 g106 => ?_)
  have f104 := z_Fr.up (R := R_X9_copyFrom_6_48) f92 g106 (by decide)
  have t107 : s102 6 6 = s90 6 6 := g106 6 6 (by decide)
  have t108 : s102 48 6 = s90 48 6 := g106 48 6 (by decide)
  have t109 : s102 48 7 = s90 48 7 := g106 48 7 (by decide)
  have t110 : s102 48 8 = s90 48 8 := g106 48 8 (by decide)
  exact T_ret ⟨c103, f104, rfl⟩
abbrev R_X9_copyFrom_6_35 (a : Int) : Prop := (6 ≤ a ∧ a ≤ 18)
abbrev P_X9_copyFrom_6_35 (r0 : z_M) : z_V → z_M → Prop := fun v s' => z_CI s' ∧ z_Fr R_X9_copyFrom_6_35 r0 s' ∧ (v = vN)
theorem sf_X9_copyFrom_6_35 {fu : Nat} (hfu : 8589934592 ≤ fu) (r0 : z_M) (c0 : z_CI r0) : z_T (fX9_copyFrom fu r0 6 35) (P_X9_copyFrom_6_35 r0) := by
  refine T_of (fX9_copyFrom.eq_1 ..) ?_
  refine T_if1 (by decide +kernel) ?_
  refine T_leq (fun x1 e2 => ?_)
  have u3 := CI_b c0 (k := 35) (j := 6) bd_35_6
  refine T_if1 (by decide +kernel) ?_
  refine T_upg c0 bd_6_6 (by omega) (fun s4 c5 g7 g8 e9 => ?_)
  have f6 := z_Fr.up (R := R_X9_copyFrom_6_35) z_Fr.rf g7 (by decide)
  have t10 : s4 35 6 = r0 35 6 := g7 35 6 (by decide)
  have t11 : s4 35 7 = r0 35 7 := g7 35 7 (by decide)
  have t12 : s4 35 8 = r0 35 8 := g7 35 8 (by decide)
  refine T_if1 (by decide +kernel) ?_
  refine T_leq (fun x13 e14 => ?_)
  have u15 := CI_b c5 (k := 35) (j := 7) bd_35_7
  refine T_if1 (by decide +kernel) ?_
  refine T_upg c5 bd_6_7 (by omega) (fun s16 c17 g19 g20 e21 => ?_)
  have f18 := z_Fr.up (R := R_X9_copyFrom_6_35) f6 g19 (by decide)
  have t22 : s16 6 6 = s4 6 6 := g20 6 (by decide)
  have t23 : s16 35 6 = s4 35 6 := g19 35 6 (by decide)
  have t24 : s16 35 7 = s4 35 7 := g19 35 7 (by decide)
  have t25 : s16 35 8 = s4 35 8 := g19 35 8 (by decide)
  refine T_if1 (by decide +kernel) ?_
  refine T_leq (fun x26 e27 => ?_)
  have u28 := CI_b c17 (k := 35) (j := 8) bd_35_8
  refine T_if1 (by decide +kernel) ?_
  refine T_upg c17 bd_6_8 (by omega) (fun s29 c30 g32 g33 e34 => ?_)
  have f31 := z_Fr.up (R := R_X9_copyFrom_6_35) f18 g32 (by decide)
  have t35 : s29 6 6 = s16 6 6 := g33 6 (by decide)
  have t36 : s29 35 6 = s16 35 6 := g32 35 6 (by decide)
  have t37 : s29 35 7 = s16 35 7 := g32 35 7 (by decide)
  have t38 : s29 35 8 = s16 35 8 := g32 35 8 (by decide)
  refine T_if1 (by decide +kernel) ?_
  refine T_let 7 (by decide +kernel) ?_
  refine T_if1 (by decide +kernel) ?_
  refine T_let 36 (by decide +kernel) ?_
  refine T_if1 (by decide +kernel) ?_
  refine T_leq (fun x39 e40 => ?_)
  have u41 := CI_b c30 (k := 6) (j := 6) bd_6_6
  refine T_if1 (by decide +kernel) ?_
  refine T_copy hfu (by decide +kernel) (by decide +kernel) (c := 8) (c2 := 37) (by decide +kernel) (by decide +kernel) (by decide) (by omega) bdr_8 bdr_37 (by decide) (by decide) c30 (fun s42 e45 c43 g46 => ?_)
  have f44 := z_Fr.up (R := R_X9_copyFrom_6_35) f31 g46 (by decide)
  have t47 : s42 6 6 = s29 6 6 := g46 6 6 (by decide)
  have t48 : s42 35 6 = s29 35 6 := g46 35 6 (by decide)
  have t49 : s42 35 7 = s29 35 7 := g46 35 7 (by decide)
  have t50 : s42 35 8 = s29 35 8 := g46 35 8 (by decide)
  refine T_if1 (by decide +kernel) ?_
  refine T_let 9 (by decide +kernel) ?_
  refine T_if1 (by decide +kernel) ?_
  refine T_let 38 (by decide +kernel) ?_
  refine T_if1 (by decide +kernel) ?_
  refine T_leq (fun x51 e52 => ?_)
  have u53 := CI_b c43 (k := 6) (j := 6) bd_6_6
  refine T_if1 (by decide +kernel) ?_
  refine T_copy hfu (by decide +kernel) (by decide +kernel) (c := 10) (c2 := 39) (by decide +kernel) (by decide +kernel) (by decide) (by omega) bdr_10 bdr_39 (by decide) (by decide) c43 (fun s54 e57 c55 g58 => ?_)
  have f56 := z_Fr.up (R := R_X9_copyFrom_6_35) f44 g58 (by decide)
  have t59 : s54 6 6 = s42 6 6 := g58 6 6 (by decide)
  have t60 : s54 35 6 = s42 35 6 := g58 35 6 (by decide)
  have t61 : s54 35 7 = s42 35 7 := g58 35 7 (by decide)
  have t62 : s54 35 8 = s42 35 8 := g58 35 8 (by decide)
  refine T_if1 (by decide +kernel) ?_
  refine T_let 11 (by decide +kernel) ?_
  refine T_if1 (by decide +kernel) ?_
  refine T_let 40 (by decide +kernel) ?_
  refine T_if1 (by decide +kernel) ?_
  refine T_leq (fun x63 e64 => ?_)
  have u65 := CI_b c55 (k := 6) (j := 6) bd_6_6
  refine T_if1 (by decide +kernel) ?_
  refine T_copy hfu (by decide +kernel) (by decide +kernel) (c := 12) (c2 := 41) (by decide +kernel) (by decide +kernel) (by decide) (by omega) bdr_12 bdr_41 (by decide) (by decide) c55 (fun s66 e69 c67 g70 => ?_)
  have f68 := z_Fr.up (R := R_X9_copyFrom_6_35) f56 g70 (by decide)
  have t71 : s66 6 6 = s54 6 6 := g70 6 6 (by decide)
  have t72 : s66 35 6 = s54 35 6 := g70 35 6 (by decide)
  have t73 : s66 35 7 = s54 35 7 := g70 35 7 (by decide)
  have t74 : s66 35 8 = s54 35 8 := g70 35 8 (by decide)
  refine T_if1 (by decide +kernel) ?_
  refine T_let 13 (by decide +kernel) ?_
  refine T_if1 (by decide +kernel) ?_
  refine T_let 42 (by decide +kernel) ?_
  refine T_if1 (by decide +kernel) ?_
  refine T_leq (fun x75 e76 => ?_)
  have u77 := CI_b c67 (k := 6) (j := 6) bd_6_6
  refine T_if1 (by decide +kernel) ?_
  refine T_copy hfu (by decide +kernel) (by decide +kernel) (c := 14) (c2 := 43) (by decide +kernel) (by decide +kernel) (by decide) (by omega) bdr_14 bdr_43 (by decide) (by decide) c67 (fun s78 e81 c79 g82 => ?_)
  have f80 := z_Fr.up (R := R_X9_copyFrom_6_35) f68 g82 (by decide)
  have t83 : s78 6 6 = s66 6 6 := g82 6 6 (by decide)
  have t84 : s78 35 6 = s66 35 6 := g82 35 6 (by decide)
  have t85 : s78 35 7 = s66 35 7 := g82 35 7 (by decide)
  have t86 : s78 35 8 = s66 35 8 := g82 35 8 (by decide)
  refine T_if1 (by decide +kernel) ?_
  refine T_let 15 (by decide +kernel) ?_
  refine T_if1 (by decide +kernel) ?_
  refine T_let 44 (by decide +kernel) ?_
  refine T_if1 (by decide +kernel) ?_
  refine T_leq (fun x87 e88 => ?_)
  have u89 := CI_b c79 (k := 6) (j := 6) bd_6_6
  refine T_if1 (by decide +kernel) ?_
  refine T_lcopy hfu (by decide +kernel) (by decide +kernel) (c := 16) (c2 := 45) (by decide +kernel) (by decide +kernel) (by decide) (by omega) bdr_16 bdr_45 (by decide) (by decide) c79 (fun s90 e93 c91 g94 => ?_)
  have f92 := z_Fr.up (R := R_X9_copyFrom_6_35) f80 g94 (by decide)
  have t95 : s90 6 6 = s78 6 6 := g94 6 6 (by decide)
  have t96 : s90 35 6 = s78 35 6 := g94 35 6 (by decide)
  have t97 : s90 35 7 = s78 35 7 := g94 35 7 (by decide)
  have t98 : s90 35 8 = s78 35 8 := g94 35 8 (by decide)
  refine T_if1 (by decide +kernel) ?_
  refine T_let 17 (by decide +kernel) ?_
  refine T_if1 (by decide +kernel) ?_
  refine T_let 46 (by decide +kernel) ?_
  refine T_if1 (by decide +kernel) ?_
  refine T_leq (fun x99 e100 => ?_)
  have u101 := CI_b c91 (k := 6) (j := 6) bd_6_6
  refine T_if1 (by decide +kernel) ?_
  refine T_lcopy hfu (by decide +kernel) (by decide +kernel) (c := 18) (c2 := 47) (by decide +kernel) (by decide +kernel) (by decide) (by omega) bdr_18 bdr_47 (by decide) (by decide) c91 (fun s102 e105 c103 g106 => ?_)
  have f104 := z_Fr.up (R := R_X9_copyFrom_6_35) f92 g106 (by decide)
  have t107 : s102 6 6 = s90 6 6 := g106 6 6 (by decide)
  have t108 : s102 35 6 = s90 35 6 := g106 35 6 (by decide)
  have t109 : s102 35 7 = s90 35 7 := g106 35 7 (by decide)
  have t110 : s102 35 8 = s90 35 8 := g106 35 8 (by decide)
  exact T_ret ⟨c103, f104, rfl⟩
abbrev R_X2_takeBack_33_6 (a : Int) : Prop := (6 ≤ a ∧ a ≤ 18) ∨ (33 ≤ a ∧ a ≤ 33)
abbrev P_X2_takeBack_33_6 (r0 : z_M) : z_V → z_M → Prop := fun v s' => z_CI s' ∧ z_Fr R_X2_takeBack_33_6 r0 s' ∧ (∃ x, v = vI x ∧ 0 ≤ x ∧ x ≤ 1)
theorem sj_X2_takeBack_33_6_J38 {fu : Nat} (hfu : 8589934592 ≤ fu) (r0 s : z_M) (c : z_CI s) (f : z_Fr R_X2_takeBack_33_6 r0 s) (t1 : Int) (d1 : 0 ≤ t1 ∧ t1 ≤ 11) : z_T (fX2_takeBack_J38 fu s 33 6 33 t1) (P_X2_takeBack_33_6 r0) := by
  refine T_of (fX2_takeBack_J38.eq_1 ..) ?_
  have u1 := CI_b c (k := 33) (j := 1) bd_33_1
  have u2 := CI_b c (k := 33) (j := 2) bd_33_2
  refine T_if1 (by decide +kernel) ?_
  refine T_upg c bd_33_1 (by omega) (fun s3 c4 g6 g7 e8 => ?_)
  have f5 := z_Fr.up (R := R_X2_takeBack_33_6) f g6 (by decide)
  have t9 : s3 33 2 = s 33 2 := g7 2 (by decide)
  refine T_if1 (by decide +kernel) ?_
  refine T_bR ?_
  refine T_of (fX2_place.eq_1 ..) ?_
  refine T_if1 (by decide +kernel) ?_
  refine T_leq (fun x10 e11 => ?_)
  have u12 := CI_b c4 (k := 33) (j := 1) bd_33_1
  refine T_ite (fun h13 => ?_) (fun h13 => ?_)
  · refine T_of (fX2_place_J31.eq_1 ..) ?_
    exfalso
    omega
  · refine T_if1 (by decide +kernel) ?_
    refine T_leq (fun x14 e15 => ?_)
    have u16 := CI_b c4 (k := 33) (j := 1) bd_33_1
    refine T_if1 (by decide +kernel) ?_
    refine T_let 34 (by decide +kernel) ?_
    refine T_if1 (by decide +kernel) ?_
    refine T_let 12 (by decide +kernel) ?_
    refine T_ite (fun h17 => ?_) (fun h17 => ?_)
    · refine T_of (fX2_place_J31.eq_1 ..) ?_
      exfalso
      omega
    · refine T_if1 (by decide +kernel) ?_
      refine T_let 34 (by decide +kernel) ?_
      refine T_if1 (by decide +kernel) ?_
      refine T_leq (fun x18 e19 => ?_)
      have u20 := CI_b c4 (k := 33) (j := 1) bd_33_1
      rcases (show x18 = 0 ∨ x18 = 1 ∨ x18 = 2 ∨ x18 = 3 ∨ x18 = 4 ∨ x18 = 5 ∨ x18 = 6 ∨ x18 = 7 ∨ x18 = 8 ∨ x18 = 9 ∨ x18 = 10 ∨ x18 = 11 by omega) with rfl | rfl | rfl | rfl | rfl | rfl | rfl | rfl | rfl | rfl | rfl | rfl
      · refine T_if1 (by decide +kernel) ?_
        refine T_let 35 (by decide +kernel) ?_
        refine T_of (fX2_place_J32.eq_1 ..) ?_
        refine T_rR ?_
        refine T_if1 (by decide) ?_
        refine T_if1 (by decide +kernel) ?_
        refine T_useN (sf_X9_copyFrom_6_35 hfu s3 c4) (fun v27 s22 hq => ?_)
        obtain ⟨c23, f24, rfl⟩ := hq
        refine T_vN ?_
        have f25 := z_Fr.tr (R := R_X2_takeBack_33_6) f5 f24 (fun a h => by unfold R_X9_copyFrom_6_35 at h; unfold R_X2_takeBack_33_6; omega)
        have t30 : s22 33 1 = s3 33 1 := f24 33 1 (by decide)
        have t31 : s22 33 2 = s3 33 2 := f24 33 2 (by decide)
        refine T_if1 (by unfold z_bl; omega) ?_
        exact T_ret ⟨c23, f25, ⟨1, rfl, by omega, by omega⟩⟩
      · refine T_if1 (by decide +kernel) ?_
        refine T_let 48 (by decide +kernel) ?_
        refine T_of (fX2_place_J32.eq_1 ..) ?_
        refine T_rR ?_
        refine T_if1 (by decide) ?_
        refine T_if1 (by decide +kernel) ?_
        refine T_useN (sf_X9_copyFrom_6_48 hfu s3 c4) (fun v37 s32 hq => ?_)
        obtain ⟨c33, f34, rfl⟩ := hq
        refine T_vN ?_
        have f35 := z_Fr.tr (R := R_X2_takeBack_33_6) f5 f34 (fun a h => by unfold R_X9_copyFrom_6_48 at h; unfold R_X2_takeBack_33_6; omega)
        have t40 : s32 33 1 = s3 33 1 := f34 33 1 (by decide)
        have t41 : s32 33 2 = s3 33 2 := f34 33 2 (by decide)
        refine T_if1 (by unfold z_bl; omega) ?_
        exact T_ret ⟨c33, f35, ⟨1, rfl, by omega, by omega⟩⟩
      · refine T_if1 (by decide +kernel) ?_
        refine T_let 61 (by decide +kernel) ?_
        refine T_of (fX2_place_J32.eq_1 ..) ?_
        refine T_rR ?_
        refine T_if1 (by decide) ?_
        refine T_if1 (by decide +kernel) ?_
        refine T_useN (sf_X9_copyFrom_6_61 hfu s3 c4) (fun v47 s42 hq => ?_)
        obtain ⟨c43, f44, rfl⟩ := hq
        refine T_vN ?_
        have f45 := z_Fr.tr (R := R_X2_takeBack_33_6) f5 f44 (fun a h => by unfold R_X9_copyFrom_6_61 at h; unfold R_X2_takeBack_33_6; omega)
        have t50 : s42 33 1 = s3 33 1 := f44 33 1 (by decide)
        have t51 : s42 33 2 = s3 33 2 := f44 33 2 (by decide)
        refine T_if1 (by unfold z_bl; omega) ?_
        exact T_ret ⟨c43, f45, ⟨1, rfl, by omega, by omega⟩⟩
      · refine T_if1 (by decide +kernel) ?_
        refine T_let 74 (by decide +kernel) ?_
        refine T_of (fX2_place_J32.eq_1 ..) ?_
        refine T_rR ?_
        refine T_if1 (by decide) ?_
        refine T_if1 (by decide +kernel) ?_
        refine T_useN (sf_X9_copyFrom_6_74 hfu s3 c4) (fun v57 s52 hq => ?_)
        obtain ⟨c53, f54, rfl⟩ := hq
        refine T_vN ?_
        have f55 := z_Fr.tr (R := R_X2_takeBack_33_6) f5 f54 (fun a h => by unfold R_X9_copyFrom_6_74 at h; unfold R_X2_takeBack_33_6; omega)
        have t60 : s52 33 1 = s3 33 1 := f54 33 1 (by decide)
        have t61 : s52 33 2 = s3 33 2 := f54 33 2 (by decide)
        refine T_if1 (by unfold z_bl; omega) ?_
        exact T_ret ⟨c53, f55, ⟨1, rfl, by omega, by omega⟩⟩
      · refine T_if1 (by decide +kernel) ?_
        refine T_let 87 (by decide +kernel) ?_
        refine T_of (fX2_place_J32.eq_1 ..) ?_
        refine T_rR ?_
        refine T_if1 (by decide) ?_
        refine T_if1 (by decide +kernel) ?_
        refine T_useN (sf_X9_copyFrom_6_87 hfu s3 c4) (fun v67 s62 hq => ?_)
        obtain ⟨c63, f64, rfl⟩ := hq
        refine T_vN ?_
        have f65 := z_Fr.tr (R := R_X2_takeBack_33_6) f5 f64 (fun a h => by unfold R_X9_copyFrom_6_87 at h; unfold R_X2_takeBack_33_6; omega)
        have t70 : s62 33 1 = s3 33 1 := f64 33 1 (by decide)
        have t71 : s62 33 2 = s3 33 2 := f64 33 2 (by decide)
        refine T_if1 (by unfold z_bl; omega) ?_
        exact T_ret ⟨c63, f65, ⟨1, rfl, by omega, by omega⟩⟩
      · refine T_if1 (by decide +kernel) ?_
        refine T_let 100 (by decide +kernel) ?_
        refine T_of (fX2_place_J32.eq_1 ..) ?_
        refine T_rR ?_
        refine T_if1 (by decide) ?_
        refine T_if1 (by decide +kernel) ?_
        refine T_useN (sf_X9_copyFrom_6_100 hfu s3 c4) (fun v77 s72 hq => ?_)
        obtain ⟨c73, f74, rfl⟩ := hq
        refine T_vN ?_
        have f75 := z_Fr.tr (R := R_X2_takeBack_33_6) f5 f74 (fun a h => by unfold R_X9_copyFrom_6_100 at h; unfold R_X2_takeBack_33_6; omega)
        have t80 : s72 33 1 = s3 33 1 := f74 33 1 (by decide)
        have t81 : s72 33 2 = s3 33 2 := f74 33 2 (by decide)
        refine T_if1 (by unfold z_bl; omega) ?_
        exact T_ret ⟨c73, f75, ⟨1, rfl, by omega, by omega⟩⟩
      · refine T_if1 (by decide +kernel) ?_
        refine T_let 113 (by decide +kernel) ?_
        refine T_of (fX2_place_J32.eq_1 ..) ?_
        refine T_rR ?_
        refine T_if1 (by decide) ?_
        refine T_if1 (by decide +kernel) ?_
        refine T_useN (sf_X9_copyFrom_6_113 hfu s3 c4) (fun v87 s82 hq => ?_)
        obtain ⟨c83, f84, rfl⟩ := hq
        refine T_vN ?_
        have f85 := z_Fr.tr (R := R_X2_takeBack_33_6) f5 f84 (fun a h => by unfold R_X9_copyFrom_6_113 at h; unfold R_X2_takeBack_33_6; omega)
        have t90 : s82 33 1 = s3 33 1 := f84 33 1 (by decide)
        have t91 : s82 33 2 = s3 33 2 := f84 33 2 (by decide)
        refine T_if1 (by unfold z_bl; omega) ?_
        exact T_ret ⟨c83, f85, ⟨1, rfl, by omega, by omega⟩⟩
      · refine T_if1 (by decide +kernel) ?_
        refine T_let 126 (by decide +kernel) ?_
        refine T_of (fX2_place_J32.eq_1 ..) ?_
        refine T_rR ?_
        refine T_if1 (by decide) ?_
        refine T_if1 (by decide +kernel) ?_
        refine T_useN (sf_X9_copyFrom_6_126 hfu s3 c4) (fun v97 s92 hq => ?_)
        obtain ⟨c93, f94, rfl⟩ := hq
        refine T_vN ?_
        have f95 := z_Fr.tr (R := R_X2_takeBack_33_6) f5 f94 (fun a h => by unfold R_X9_copyFrom_6_126 at h; unfold R_X2_takeBack_33_6; omega)
        have t100 : s92 33 1 = s3 33 1 := f94 33 1 (by decide)
        have t101 : s92 33 2 = s3 33 2 := f94 33 2 (by decide)
        refine T_if1 (by unfold z_bl; omega) ?_
        exact T_ret ⟨c93, f95, ⟨1, rfl, by omega, by omega⟩⟩
      · refine T_if1 (by decide +kernel) ?_
        refine T_let 139 (by decide +kernel) ?_
        refine T_of (fX2_place_J32.eq_1 ..) ?_
        refine T_rR ?_
        refine T_if1 (by decide) ?_
        refine T_if1 (by decide +kernel) ?_
        refine T_useN (sf_X9_copyFrom_6_139 hfu s3 c4) (fun v107 s102 hq => ?_)
        obtain ⟨c103, f104, rfl⟩ := hq
        refine T_vN ?_
        have f105 := z_Fr.tr (R := R_X2_takeBack_33_6) f5 f104 (fun a h => by unfold R_X9_copyFrom_6_139 at h; unfold R_X2_takeBack_33_6; omega)
        have t110 : s102 33 1 = s3 33 1 := f104 33 1 (by decide)
        have t111 : s102 33 2 = s3 33 2 := f104 33 2 (by decide)
        refine T_if1 (by unfold z_bl; omega) ?_
        exact T_ret ⟨c103, f105, ⟨1, rfl, by omega, by omega⟩⟩
      · refine T_if1 (by decide +kernel) ?_
        refine T_let 152 (by decide +kernel) ?_
        refine T_of (fX2_place_J32.eq_1 ..) ?_
        refine T_rR ?_
        refine T_if1 (by decide) ?_
        refine T_if1 (by decide +kernel) ?_
        refine T_useN (sf_X9_copyFrom_6_152 hfu s3 c4) (fun v117 s112 hq => ?_)
        obtain ⟨c113, f114, rfl⟩ := hq
        refine T_vN ?_
        have f115 := z_Fr.tr (R := R_X2_takeBack_33_6) f5 f114 (fun a h => by unfold R_X9_copyFrom_6_152 at h; unfold R_X2_takeBack_33_6; omega)
        have t120 : s112 33 1 = s3 33 1 := f114 33 1 (by decide)
        have t121 : s112 33 2 = s3 33 2 := f114 33 2 (by decide)
        refine T_if1 (by unfold z_bl; omega) ?_
        exact T_ret ⟨c113, f115, ⟨1, rfl, by omega, by omega⟩⟩
      · refine T_if1 (by decide +kernel) ?_
        refine T_let 165 (by decide +kernel) ?_
        refine T_of (fX2_place_J32.eq_1 ..) ?_
        refine T_rR ?_
        refine T_if1 (by decide) ?_
        refine T_if1 (by decide +kernel) ?_
        refine T_useN (sf_X9_copyFrom_6_165 hfu s3 c4) (fun v127 s122 hq => ?_)
        obtain ⟨c123, f124, rfl⟩ := hq
        refine T_vN ?_
        have f125 := z_Fr.tr (R := R_X2_takeBack_33_6) f5 f124 (fun a h => by unfold R_X9_copyFrom_6_165 at h; unfold R_X2_takeBack_33_6; omega)
        have t130 : s122 33 1 = s3 33 1 := f124 33 1 (by decide)
        have t131 : s122 33 2 = s3 33 2 := f124 33 2 (by decide)
        refine T_if1 (by unfold z_bl; omega) ?_
        exact T_ret ⟨c123, f125, ⟨1, rfl, by omega, by omega⟩⟩
      · refine T_if1 (by decide +kernel) ?_
        refine T_let 178 (by decide +kernel) ?_
        refine T_of (fX2_place_J32.eq_1 ..) ?_
        refine T_rR ?_
        refine T_if1 (by decide) ?_
        refine T_if1 (by decide +kernel) ?_
        refine T_useN (sf_X9_copyFrom_6_178 hfu s3 c4) (fun v137 s132 hq => ?_)
        obtain ⟨c133, f134, rfl⟩ := hq
        refine T_vN ?_
        have f135 := z_Fr.tr (R := R_X2_takeBack_33_6) f5 f134 (fun a h => by unfold R_X9_copyFrom_6_178 at h; unfold R_X2_takeBack_33_6; omega)
        have t140 : s132 33 1 = s3 33 1 := f134 33 1 (by decide)
        have t141 : s132 33 2 = s3 33 2 := f134 33 2 (by decide)
        refine T_if1 (by unfold z_bl; omega) ?_
        exact T_ret ⟨c133, f135, ⟨1, rfl, by omega, by omega⟩⟩
theorem sf_X2_takeBack_33_6 {fu : Nat} (hfu : 8589934592 ≤ fu) (r0 : z_M) (c0 : z_CI r0) : z_T (fX2_takeBack fu r0 33 6) (P_X2_takeBack_33_6 r0) := by
  refine T_of (fX2_takeBack.eq_1 ..) ?_
  refine T_if1 (by decide +kernel) ?_
  refine T_leq (fun x1 e2 => ?_)
  have u3 := CI_b c0 (k := 33) (j := 2) bd_33_2
  refine T_ite (fun h4 => ?_) (fun h4 => ?_)
  · refine T_if1 (by decide +kernel) ?_
    refine T_leq (fun x5 e6 => ?_)
    have u7 := CI_b c0 (k := 33) (j := 2) bd_33_2
    refine T_leq (fun x8 e9 => ?_)
    have w10 := z_wb e9
    refine T_if1 (by decide +kernel) ?_
    refine T_upg c0 bd_33_2 (by omega) (fun s11 c12 g14 g15 e16 => ?_)
    have f13 := z_Fr.up (R := R_X2_takeBack_33_6) z_Fr.rf g14 (by decide)
    have t17 : s11 33 1 = r0 33 1 := g15 1 (by decide)
    refine T_if1 (by decide +kernel) ?_
    refine T_leq (fun x18 e19 => ?_)
    have u20 := CI_b c12 (k := 33) (j := 1) bd_33_1
    refine T_ite (fun h21 => ?_) (fun h21 => ?_)
    · exact sj_X2_takeBack_33_6_J38 hfu r0 s11 c12 f13 11 (by omega)
    · refine T_if1 (by decide +kernel) ?_
      refine T_leq (fun x22 e23 => ?_)
      have u24 := CI_b c12 (k := 33) (j := 1) bd_33_1
      refine T_leq (fun x25 e26 => ?_)
      have w27 := z_wb e26
      exact sj_X2_takeBack_33_6_J38 hfu r0 s11 c12 f13 x25 (by omega)
  · refine T_if1 (by unfold z_bl; omega) ?_
    exact T_ret ⟨c0, z_Fr.rf, ⟨0, rfl, by omega, by omega⟩⟩
abbrev R_X9_clear_19 (a : Int) : Prop := (19 ≤ a ∧ a ≤ 19)
abbrev P_X9_clear_19 (r0 : z_M) : z_V → z_M → Prop := fun v s' => z_CI s' ∧ z_Fr R_X9_clear_19 r0 s' ∧ (v = vN)
theorem sf_X9_clear_19 {fu : Nat} (hfu : 8589934592 ≤ fu) (r0 : z_M) (c0 : z_CI r0) : z_T (fX9_clear fu r0 19) (P_X9_clear_19 r0) := by
  refine T_of (fX9_clear.eq_1 ..) ?_
  refine T_if1 (by decide +kernel) ?_
  refine T_upg c0 bd_19_6 (by omega) (fun s1 c2 g4 g5 e6 => ?_)
  have f3 := z_Fr.up (R := R_X9_clear_19) z_Fr.rf g4 (by decide)
  refine T_if1 (by decide +kernel) ?_
  refine T_upg c2 bd_19_7 (by omega) (fun s7 c8 g10 g11 e12 => ?_)
  have f9 := z_Fr.up (R := R_X9_clear_19) f3 g10 (by decide)
  refine T_if1 (by decide +kernel) ?_
  refine T_upg c8 bd_19_8 (by omega) (fun s13 c14 g16 g17 e18 => ?_)
  have f15 := z_Fr.up (R := R_X9_clear_19) f9 g16 (by decide)
  exact T_ret ⟨c14, f15, rfl⟩
abbrev R_X9_copyFrom_19_6 (a : Int) : Prop := (19 ≤ a ∧ a ≤ 31)
abbrev P_X9_copyFrom_19_6 (r0 : z_M) : z_V → z_M → Prop := fun v s' => z_CI s' ∧ z_Fr R_X9_copyFrom_19_6 r0 s' ∧ (v = vN)
theorem sf_X9_copyFrom_19_6 {fu : Nat} (hfu : 8589934592 ≤ fu) (r0 : z_M) (c0 : z_CI r0) : z_T (fX9_copyFrom fu r0 19 6) (P_X9_copyFrom_19_6 r0) := by
  refine T_of (fX9_copyFrom.eq_1 ..) ?_
  refine T_if1 (by decide +kernel) ?_
  refine T_leq (fun x1 e2 => ?_)
  have u3 := CI_b c0 (k := 6) (j := 6) bd_6_6
  refine T_if1 (by decide +kernel) ?_
  refine T_upg c0 bd_19_6 (by omega) (fun s4 c5 g7 g8 e9 => ?_)
  have f6 := z_Fr.up (R := R_X9_copyFrom_19_6) z_Fr.rf g7 (by decide)
  have t10 : s4 6 6 = r0 6 6 := g7 6 6 (by decide)
  have t11 : s4 6 7 = r0 6 7 := g7 6 7 (by decide)
  have t12 : s4 6 8 = r0 6 8 := g7 6 8 (by decide)
  refine T_if1 (by decide +kernel) ?_
  refine T_leq (fun x13 e14 => ?_)
  have u15 := CI_b c5 (k := 6) (j := 7) bd_6_7
  refine T_if1 (by decide +kernel) ?_
  refine T_upg c5 bd_19_7 (by omega) (fun s16 c17 g19 g20 e21 => ?_)
  have f18 := z_Fr.up (R := R_X9_copyFrom_19_6) f6 g19 (by decide)
  have t22 : s16 6 6 = s4 6 6 := g19 6 6 (by decide)
  have t23 : s16 6 7 = s4 6 7 := g19 6 7 (by decide)
  have t24 : s16 6 8 = s4 6 8 := g19 6 8 (by decide)
  have t25 : s16 19 6 = s4 19 6 := g20 6 (by decide)
  refine T_if1 (by decide +kernel) ?_
  refine T_leq (fun x26 e27 => ?_)
  have u28 := CI_b c17 (k := 6) (j := 8) bd_6_8
  refine T_if1 (by decide +kernel) ?_
  refine T_upg c17 bd_19_8 (by omega) (fun s29 c30 g32 g33 e34 => ?_)
  have f31 := z_Fr.up (R := R_X9_copyFrom_19_6) f18 g32 (by decide)
  have t35 : s29 6 6 = s16 6 6 := g32 6 6 (by decide)
  have t36 : s29 6 7 = s16 6 7 := g32 6 7 (by decide)
  have t37 : s29 6 8 = s16 6 8 := g32 6 8 (by decide)
  have t38 : s29 19 6 = s16 19 6 := g33 6 (by decide)
  refine T_if1 (by decide +kernel) ?_
  refine T_let 20 (by decide +kernel) ?_
  refine T_if1 (by decide +kernel) ?_
  refine T_let 7 (by decide +kernel) ?_
  refine T_if1 (by decide +kernel) ?_
  refine T_leq (fun x39 e40 => ?_)
  have u41 := CI_b c30 (k := 19) (j := 6) bd_19_6
  refine T_if1 (by decide +kernel) ?_
  refine T_copy hfu (by decide +kernel) (by decide +kernel) (c := 21) (c2 := 8) (by decide +kernel) (by decide +kernel) (by decide) (by omega) bdr_21 bdr_8 (by decide) (by decide) c30 (fun s42 e45 c43 g46 => ?_)
  have f44 := z_Fr.up (R := R_X9_copyFrom_19_6) f31 g46 (by decide)
  have t47 : s42 6 6 = s29 6 6 := g46 6 6 (by decide)
  have t48 : s42 6 7 = s29 6 7 := g46 6 7 (by decide)
  have t49 : s42 6 8 = s29 6 8 := g46 6 8 (by decide)
  have t50 : s42 19 6 = s29 19 6 := g46 19 6 (by decide)
  refine T_if1 (by decide +kernel) ?_
  refine T_let 22 (by decide +kernel) ?_
  refine T_if1 (by decide +kernel) ?_
  refine T_let 9 (by decide +kernel) ?_
  refine T_if1 (by decide +kernel) ?_
  refine T_leq (fun x51 e52 => ?_)
  have u53 := CI_b c43 (k := 19) (j := 6) bd_19_6
  refine T_if1 (by decide +kernel) ?_
  refine T_copy hfu (by decide +kernel) (by decide +kernel) (c := 23) (c2 := 10) (by decide +kernel) (by decide +kernel) (by decide) (by omega) bdr_23 bdr_10 (by decide) (by decide) c43 (fun s54 e57 c55 g58 => ?_)
  have f56 := z_Fr.up (R := R_X9_copyFrom_19_6) f44 g58 (by decide)
  have t59 : s54 6 6 = s42 6 6 := g58 6 6 (by decide)
  have t60 : s54 6 7 = s42 6 7 := g58 6 7 (by decide)
  have t61 : s54 6 8 = s42 6 8 := g58 6 8 (by decide)
  have t62 : s54 19 6 = s42 19 6 := g58 19 6 (by decide)
  refine T_if1 (by decide +kernel) ?_
  refine T_let 24 (by decide +kernel) ?_
  refine T_if1 (by decide +kernel) ?_
  refine T_let 11 (by decide +kernel) ?_
  refine T_if1 (by decide +kernel) ?_
  refine T_leq (fun x63 e64 => ?_)
  have u65 := CI_b c55 (k := 19) (j := 6) bd_19_6
  refine T_if1 (by decide +kernel) ?_
  refine T_copy hfu (by decide +kernel) (by decide +kernel) (c := 25) (c2 := 12) (by decide +kernel) (by decide +kernel) (by decide) (by omega) bdr_25 bdr_12 (by decide) (by decide) c55 (fun s66 e69 c67 g70 => ?_)
  have f68 := z_Fr.up (R := R_X9_copyFrom_19_6) f56 g70 (by decide)
  have t71 : s66 6 6 = s54 6 6 := g70 6 6 (by decide)
  have t72 : s66 6 7 = s54 6 7 := g70 6 7 (by decide)
  have t73 : s66 6 8 = s54 6 8 := g70 6 8 (by decide)
  have t74 : s66 19 6 = s54 19 6 := g70 19 6 (by decide)
  refine T_if1 (by decide +kernel) ?_
  refine T_let 26 (by decide +kernel) ?_
  refine T_if1 (by decide +kernel) ?_
  refine T_let 13 (by decide +kernel) ?_
  refine T_if1 (by decide +kernel) ?_
  refine T_leq (fun x75 e76 => ?_)
  have u77 := CI_b c67 (k := 19) (j := 6) bd_19_6
  refine T_if1 (by decide +kernel) ?_
  refine T_copy hfu (by decide +kernel) (by decide +kernel) (c := 27) (c2 := 14) (by decide +kernel) (by decide +kernel) (by decide) (by omega) bdr_27 bdr_14 (by decide) (by decide) c67 (fun s78 e81 c79 g82 => ?_)
  have f80 := z_Fr.up (R := R_X9_copyFrom_19_6) f68 g82 (by decide)
  have t83 : s78 6 6 = s66 6 6 := g82 6 6 (by decide)
  have t84 : s78 6 7 = s66 6 7 := g82 6 7 (by decide)
  have t85 : s78 6 8 = s66 6 8 := g82 6 8 (by decide)
  have t86 : s78 19 6 = s66 19 6 := g82 19 6 (by decide)
  refine T_if1 (by decide +kernel) ?_
  refine T_let 28 (by decide +kernel) ?_
  refine T_if1 (by decide +kernel) ?_
  refine T_let 15 (by decide +kernel) ?_
  refine T_if1 (by decide +kernel) ?_
  refine T_leq (fun x87 e88 => ?_)
  have u89 := CI_b c79 (k := 19) (j := 6) bd_19_6
  refine T_if1 (by decide +kernel) ?_
  refine T_lcopy hfu (by decide +kernel) (by decide +kernel) (c := 29) (c2 := 16) (by decide +kernel) (by decide +kernel) (by decide) (by omega) bdr_29 bdr_16 (by decide) (by decide) c79 (fun s90 e93 c91 g94 => ?_)
  have f92 := z_Fr.up (R := R_X9_copyFrom_19_6) f80 g94 (by decide)
  have t95 : s90 6 6 = s78 6 6 := g94 6 6 (by decide)
  have t96 : s90 6 7 = s78 6 7 := g94 6 7 (by decide)
  have t97 : s90 6 8 = s78 6 8 := g94 6 8 (by decide)
  have t98 : s90 19 6 = s78 19 6 := g94 19 6 (by decide)
  refine T_if1 (by decide +kernel) ?_
  refine T_let 30 (by decide +kernel) ?_
  refine T_if1 (by decide +kernel) ?_
  refine T_let 17 (by decide +kernel) ?_
  refine T_if1 (by decide +kernel) ?_
  refine T_leq (fun x99 e100 => ?_)
  have u101 := CI_b c91 (k := 19) (j := 6) bd_19_6
  refine T_if1 (by decide +kernel) ?_
  refine T_lcopy hfu (by decide +kernel) (by decide +kernel) (c := 31) (c2 := 18) (by decide +kernel) (by decide +kernel) (by decide) (by omega) bdr_31 bdr_18 (by decide) (by decide) c91 (fun s102 e105 c103 g106 => ?_)
  have f104 := z_Fr.up (R := R_X9_copyFrom_19_6) f92 g106 (by decide)
  have t107 : s102 6 6 = s90 6 6 := g106 6 6 (by decide)
  have t108 : s102 6 7 = s90 6 7 := g106 6 7 (by decide)
  have t109 : s102 6 8 = s90 6 8 := g106 6 8 (by decide)
  have t110 : s102 19 6 = s90 19 6 := g106 19 6 (by decide)
  exact T_ret ⟨c103, f104, rfl⟩
abbrev R_X9_copyFrom_6_19 (a : Int) : Prop := (6 ≤ a ∧ a ≤ 18)
abbrev P_X9_copyFrom_6_19 (r0 : z_M) : z_V → z_M → Prop := fun v s' => z_CI s' ∧ z_Fr R_X9_copyFrom_6_19 r0 s' ∧ (v = vN)
theorem sf_X9_copyFrom_6_19 {fu : Nat} (hfu : 8589934592 ≤ fu) (r0 : z_M) (c0 : z_CI r0) : z_T (fX9_copyFrom fu r0 6 19) (P_X9_copyFrom_6_19 r0) := by
  refine T_of (fX9_copyFrom.eq_1 ..) ?_
  refine T_if1 (by decide +kernel) ?_
  refine T_leq (fun x1 e2 => ?_)
  have u3 := CI_b c0 (k := 19) (j := 6) bd_19_6
  refine T_if1 (by decide +kernel) ?_
  refine T_upg c0 bd_6_6 (by omega) (fun s4 c5 g7 g8 e9 => ?_)
  have f6 := z_Fr.up (R := R_X9_copyFrom_6_19) z_Fr.rf g7 (by decide)
  have t10 : s4 19 6 = r0 19 6 := g7 19 6 (by decide)
  have t11 : s4 19 7 = r0 19 7 := g7 19 7 (by decide)
  have t12 : s4 19 8 = r0 19 8 := g7 19 8 (by decide)
  refine T_if1 (by decide +kernel) ?_
  refine T_leq (fun x13 e14 => ?_)
  have u15 := CI_b c5 (k := 19) (j := 7) bd_19_7
  refine T_if1 (by decide +kernel) ?_
  refine T_upg c5 bd_6_7 (by omega) (fun s16 c17 g19 g20 e21 => ?_)
  have f18 := z_Fr.up (R := R_X9_copyFrom_6_19) f6 g19 (by decide)
  have t22 : s16 6 6 = s4 6 6 := g20 6 (by decide)
  have t23 : s16 19 6 = s4 19 6 := g19 19 6 (by decide)
  have t24 : s16 19 7 = s4 19 7 := g19 19 7 (by decide)
  have t25 : s16 19 8 = s4 19 8 := g19 19 8 (by decide)
  refine T_if1 (by decide +kernel) ?_
  refine T_leq (fun x26 e27 => ?_)
  have u28 := CI_b c17 (k := 19) (j := 8) bd_19_8
  refine T_if1 (by decide +kernel) ?_
  refine T_upg c17 bd_6_8 (by omega) (fun s29 c30 g32 g33 e34 => ?_)
  have f31 := z_Fr.up (R := R_X9_copyFrom_6_19) f18 g32 (by decide)
  have t35 : s29 6 6 = s16 6 6 := g33 6 (by decide)
  have t36 : s29 19 6 = s16 19 6 := g32 19 6 (by decide)
  have t37 : s29 19 7 = s16 19 7 := g32 19 7 (by decide)
  have t38 : s29 19 8 = s16 19 8 := g32 19 8 (by decide)
  refine T_if1 (by decide +kernel) ?_
  refine T_let 7 (by decide +kernel) ?_
  refine T_if1 (by decide +kernel) ?_
  refine T_let 20 (by decide +kernel) ?_
  refine T_if1 (by decide +kernel) ?_
  refine T_leq (fun x39 e40 => ?_)
  have u41 := CI_b c30 (k := 6) (j := 6) bd_6_6
  refine T_if1 (by decide +kernel) ?_
  refine T_copy hfu (by decide +kernel) (by decide +kernel) (c := 8) (c2 := 21) (by decide +kernel) (by decide +kernel) (by decide) (by omega) bdr_8 bdr_21 (by decide) (by decide) c30 (fun s42 e45 c43 g46 => ?_)
  have f44 := z_Fr.up (R := R_X9_copyFrom_6_19) f31 g46 (by decide)
  have t47 : s42 6 6 = s29 6 6 := g46 6 6 (by decide)
  have t48 : s42 19 6 = s29 19 6 := g46 19 6 (by decide)
  have t49 : s42 19 7 = s29 19 7 := g46 19 7 (by decide)
  have t50 : s42 19 8 = s29 19 8 := g46 19 8 (by decide)
  refine T_if1 (by decide +kernel) ?_
  refine T_let 9 (by decide +kernel) ?_
  refine T_if1 (by decide +kernel) ?_
  refine T_let 22 (by decide +kernel) ?_
  refine T_if1 (by decide +kernel) ?_
  refine T_leq (fun x51 e52 => ?_)
  have u53 := CI_b c43 (k := 6) (j := 6) bd_6_6
  refine T_if1 (by decide +kernel) ?_
  refine T_copy hfu (by decide +kernel) (by decide +kernel) (c := 10) (c2 := 23) (by decide +kernel) (by decide +kernel) (by decide) (by omega) bdr_10 bdr_23 (by decide) (by decide) c43 (fun s54 e57 c55 g58 => ?_)
  have f56 := z_Fr.up (R := R_X9_copyFrom_6_19) f44 g58 (by decide)
  have t59 : s54 6 6 = s42 6 6 := g58 6 6 (by decide)
  have t60 : s54 19 6 = s42 19 6 := g58 19 6 (by decide)
  have t61 : s54 19 7 = s42 19 7 := g58 19 7 (by decide)
  have t62 : s54 19 8 = s42 19 8 := g58 19 8 (by decide)
  refine T_if1 (by decide +kernel) ?_
  refine T_let 11 (by decide +kernel) ?_
  refine T_if1 (by decide +kernel) ?_
  refine T_let 24 (by decide +kernel) ?_
  refine T_if1 (by decide +kernel) ?_
  refine T_leq (fun x63 e64 => ?_)
  have u65 := CI_b c55 (k := 6) (j := 6) bd_6_6
  refine T_if1 (by decide +kernel) ?_
  refine T_copy hfu (by decide +kernel) (by decide +kernel) (c := 12) (c2 := 25) (by decide +kernel) (by decide +kernel) (by decide) (by omega) bdr_12 bdr_25 (by decide) (by decide) c55 (fun s66 e69 c67 g70 => ?_)
  have f68 := z_Fr.up (R := R_X9_copyFrom_6_19) f56 g70 (by decide)
  have t71 : s66 6 6 = s54 6 6 := g70 6 6 (by decide)
  have t72 : s66 19 6 = s54 19 6 := g70 19 6 (by decide)
  have t73 : s66 19 7 = s54 19 7 := g70 19 7 (by decide)
  have t74 : s66 19 8 = s54 19 8 := g70 19 8 (by decide)
  refine T_if1 (by decide +kernel) ?_
  refine T_let 13 (by decide +kernel) ?_
  refine T_if1 (by decide +kernel) ?_
  refine T_let 26 (by decide +kernel) ?_
  refine T_if1 (by decide +kernel) ?_
  refine T_leq (fun x75 e76 => ?_)
  have u77 := CI_b c67 (k := 6) (j := 6) bd_6_6
  refine T_if1 (by decide +kernel) ?_
  refine T_copy hfu (by decide +kernel) (by decide +kernel) (c := 14) (c2 := 27) (by decide +kernel) (by decide +kernel) (by decide) (by omega) bdr_14 bdr_27 (by decide) (by decide) c67 (fun s78 e81 c79 g82 => ?_)
  have f80 := z_Fr.up (R := R_X9_copyFrom_6_19) f68 g82 (by decide)
  have t83 : s78 6 6 = s66 6 6 := g82 6 6 (by decide)
  have t84 : s78 19 6 = s66 19 6 := g82 19 6 (by decide)
  have t85 : s78 19 7 = s66 19 7 := g82 19 7 (by decide)
  have t86 : s78 19 8 = s66 19 8 := g82 19 8 (by decide)
  refine T_if1 (by decide +kernel) ?_
  refine T_let 15 (by decide +kernel) ?_
  refine T_if1 (by decide +kernel) ?_
  refine T_let 28 (by decide +kernel) ?_
  refine T_if1 (by decide +kernel) ?_
  refine T_leq (fun x87 e88 => ?_)
  have u89 := CI_b c79 (k := 6) (j := 6) bd_6_6
  refine T_if1 (by decide +kernel) ?_
  refine T_lcopy hfu (by decide +kernel) (by decide +kernel) (c := 16) (c2 := 29) (by decide +kernel) (by decide +kernel) (by decide) (by omega) bdr_16 bdr_29 (by decide) (by decide) c79 (fun s90 e93 c91 g94 => ?_)
  have f92 := z_Fr.up (R := R_X9_copyFrom_6_19) f80 g94 (by decide)
  have t95 : s90 6 6 = s78 6 6 := g94 6 6 (by decide)
  have t96 : s90 19 6 = s78 19 6 := g94 19 6 (by decide)
  have t97 : s90 19 7 = s78 19 7 := g94 19 7 (by decide)
  have t98 : s90 19 8 = s78 19 8 := g94 19 8 (by decide)
  refine T_if1 (by decide +kernel) ?_
  refine T_let 17 (by decide +kernel) ?_
  refine T_if1 (by decide +kernel) ?_
  refine T_let 30 (by decide +kernel) ?_
  refine T_if1 (by decide +kernel) ?_
  refine T_leq (fun x99 e100 => ?_)
  have u101 := CI_b c91 (k := 6) (j := 6) bd_6_6
  refine T_if1 (by decide +kernel) ?_
  refine T_lcopy hfu (by decide +kernel) (by decide +kernel) (c := 18) (c2 := 31) (by decide +kernel) (by decide +kernel) (by decide) (by omega) bdr_18 bdr_31 (by decide) (by decide) c91 (fun s102 e105 c103 g106 => ?_)
  have f104 := z_Fr.up (R := R_X9_copyFrom_6_19) f92 g106 (by decide)
  have t107 : s102 6 6 = s90 6 6 := g106 6 6 (by decide)
  have t108 : s102 19 6 = s90 19 6 := g106 19 6 (by decide)
  have t109 : s102 19 7 = s90 19 7 := g106 19 7 (by decide)
  have t110 : s102 19 8 = s90 19 8 := g106 19 8 (by decide)
  exact T_ret ⟨c103, f104, rfl⟩
abbrev R_X9_renumber_6 (a : Int) : Prop := (6 ≤ a ∧ a ≤ 6) ∨ (12 ≤ a ∧ a ≤ 12)
abbrev P_X9_renumber_6 (r0 : z_M) : z_V → z_M → Prop := fun v s' => z_CI s' ∧ z_Fr R_X9_renumber_6 r0 s' ∧ (v = vN)
theorem sj_X9_renumber_6_J64 {fu : Nat} (hfu : 8589934592 ≤ fu) (r0 s : z_M) (c : z_CI s) (f : z_Fr R_X9_renumber_6 r0 s) (a2 : Int) (a3 : Int) (b2 : -2147483648 ≤ a2 ∧ a2 ≤ 2147483646) (b3 : -2147483648 ≤ a3 ∧ a3 ≤ 2147483647) (M : Int) (pm : 2147483647 - a2 ≤ M) {r : z_M → Int → Int → z_O} {k : z_M → z_O} (hr : ∀ (s' : z_M) (v1 : Int) (v2 : Int), z_CI s' → z_Fr R_X9_renumber_6 r0 s' → (-2147483648 ≤ v1 ∧ v1 ≤ 2147483647) → (-2147483648 ≤ v2 ∧ v2 ≤ 2147483647) → (2147483647 - v2 < M) → z_T (r s' v1 v2) (P_X9_renumber_6 r0)) (hk : ∀ (s' : z_M), z_CI s' → z_Fr R_X9_renumber_6 r0 s' → z_T (k s') (P_X9_renumber_6 r0)) : z_T (fX9_renumber_J64 fu s 6 a2 a3 r k) (P_X9_renumber_6 r0) := by
  refine T_of (fX9_renumber_J64.eq_1 ..) ?_
  have u1 := CI_b c (k := 6) (j := 6) bd_6_6
  have u2 := CI_b c (k := 6) (j := 7) bd_6_7
  refine T_leq (fun x3 e4 => ?_)
  have w5 := z_wb e4
  exact hr s a3 x3 c f (by omega) (by omega) (by omega)
theorem sj_X9_renumber_6_J46 {fu : Nat} (hfu : 8589934592 ≤ fu) (r0 s : z_M) (c : z_CI s) (f : z_Fr R_X9_renumber_6 r0 s) (a2 : Int) (a3 : Int) (t1 : Int) (t2 : Int) (b2 : -2147483648 ≤ a2 ∧ a2 ≤ 2147483646) (b3 : -2147483648 ≤ a3 ∧ a3 ≤ 2147483647) (d1 : -2147483648 ≤ t1 ∧ t1 ≤ 2147483647) (d2 : 0 ≤ t2 ∧ t2 ≤ 1) (M : Int) (pm : 2147483647 - a2 ≤ M) {r : z_M → Int → Int → z_O} {k : z_M → z_O} (hr : ∀ (s' : z_M) (v1 : Int) (v2 : Int), z_CI s' → z_Fr R_X9_renumber_6 r0 s' → (-2147483648 ≤ v1 ∧ v1 ≤ 2147483647) → (-2147483648 ≤ v2 ∧ v2 ≤ 2147483647) → (2147483647 - v2 < M) → z_T (r s' v1 v2) (P_X9_renumber_6 r0)) (hk : ∀ (s' : z_M), z_CI s' → z_Fr R_X9_renumber_6 r0 s' → z_T (k s') (P_X9_renumber_6 r0)) : z_T (fX9_renumber_J46 fu s 6 a2 a3 6 t1 t2 r k) (P_X9_renumber_6 r0) := by
  refine T_of (fX9_renumber_J46.eq_1 ..) ?_
  have u1 := CI_b c (k := 6) (j := 6) bd_6_6
  have u2 := CI_b c (k := 6) (j := 7) bd_6_7
  refine T_leq (fun x3 e4 => ?_)
  have w5 := z_wr e4
  refine T_if1 (by decide +kernel) ?_
  refine T_upg c bd_6_7 (by omega) (fun s6 c7 g9 g10 e11 => ?_)
  have f8 := z_Fr.up (R := R_X9_renumber_6) f g9 (by decide)
  have t12 : s6 6 6 = s 6 6 := g10 6 (by decide)
  refine T_if1 (by decide +kernel) ?_
  refine T_let 11 (by decide +kernel) ?_
  refine T_if1 (by decide +kernel) ?_
  refine T_leq (fun x13 e14 => ?_)
  have u15 := CI_b c7 (k := 6) (j := 7) bd_6_7
  refine T_leq (fun x16 e17 => ?_)
  have w18 := z_wr e17
  refine T_if1 (by decide +kernel) ?_
  refine T_put (by decide +kernel) (c := 12) (by decide +kernel) bdr_12 (by omega) c7 (fun s19 e22 c20 g23 => ?_)
  have f21 := z_Fr.up (R := R_X9_renumber_6) f8 g23 (by decide)
  have t24 : s19 6 6 = s6 6 6 := g23 6 6 (by decide)
  have t25 : s19 6 7 = s6 6 7 := g23 6 7 (by decide)
  exact sj_X9_renumber_6_J64 hfu r0 s19 c20 f21 a2 a3 (by omega) (by omega) M (by omega) (fun s' v1 v2 c' f' w1 w2 pg => hr s' v1 v2 c' f' w1 w2 (by omega)) hk
theorem sl_X9_renumber_6_L9 {fu : Nat} (hfu : 8589934592 ≤ fu) (r0 : z_M) {k : z_M → z_O} (hk : ∀ (s' : z_M), z_CI s' → z_Fr R_X9_renumber_6 r0 s' → z_T (k s') (P_X9_renumber_6 r0)) : ∀ (F : Nat) (s : z_M) (a1 : Int) (a2 : Int), z_CI s → z_Fr R_X9_renumber_6 r0 s → (-2147483648 ≤ a1 ∧ a1 ≤ 2147483647) → (-2147483648 ≤ a2 ∧ a2 ≤ 2147483647) → (2147483647 - a2 < (F : Int)) → z_T (fX9_renumber_L9 fu 6 F s a1 a2 k) (P_X9_renumber_6 r0) := by
  intro F
  induction F with
  | zero =>
    intro s a1 a2 c f b1 b2 hm
    have u17 := CI_b c (k := 6) (j := 6) bd_6_6
    have u18 := CI_b c (k := 6) (j := 7) bd_6_7
    exfalso; omega
  | succ F ih =>
    intro s a1 a2 c f b1 b2 hm
    refine T_of (fX9_renumber_L9.eq_2 ..) ?_
    have u1 := CI_b c (k := 6) (j := 6) bd_6_6
    have u2 := CI_b c (k := 6) (j := 7) bd_6_7
    refine T_if1 (by decide +kernel) ?_
    refine T_leq (fun x3 e4 => ?_)
    have u5 := CI_b c (k := 6) (j := 6) bd_6_6
    refine T_ite (fun h6 => ?_) (fun h6 => ?_)
    · exact hk s c f
    · refine T_if1 (by decide +kernel) ?_
      refine T_let 11 (by decide +kernel) ?_
      refine T_if1 (by decide +kernel) ?_
      refine T_get (by decide +kernel) (c := 12) (by decide +kernel) bdr_12 (by decide) c (fun x7 e8 b9 w10 => ?_)
      have l11 : z_ln 11 = 200 := by decide +kernel
      refine T_ite (fun h12 => ?_) (fun h12 => ?_)
      · exact sj_X9_renumber_6_J64 hfu r0 s c f a2 x7 (by omega) (by omega) (2147483647 - a2) (by omega) (fun s' v1 v2 c' f' w1 w2 pg => ih s' v1 v2 c' f' w1 w2 (by omega)) hk
      · refine T_if1 (by decide +kernel) ?_
        refine T_leq (fun x13 e14 => ?_)
        have u15 := CI_b c (k := 6) (j := 7) bd_6_7
        refine T_ite (fun h16 => ?_) (fun h16 => ?_)
        · exact sj_X9_renumber_6_J46 hfu r0 s c f a2 x7 x13 1 (by omega) (by omega) (by omega) (by omega) (2147483647 - a2) (by omega) (fun s' v1 v2 c' f' w1 w2 pg => ih s' v1 v2 c' f' w1 w2 (by omega)) hk
        · exact sj_X9_renumber_6_J46 hfu r0 s c f a2 x7 x13 0 (by omega) (by omega) (by omega) (by omega) (2147483647 - a2) (by omega) (fun s' v1 v2 c' f' w1 w2 pg => ih s' v1 v2 c' f' w1 w2 (by omega)) hk
theorem sf_X9_renumber_6 {fu : Nat} (hfu : 8589934592 ≤ fu) (r0 : z_M) (c0 : z_CI r0) : z_T (fX9_renumber fu r0 6) (P_X9_renumber_6 r0) := by
  refine T_of (fX9_renumber.eq_1 ..) ?_
  refine T_if1 (by decide +kernel) ?_
  refine T_upg c0 bd_6_7 (by omega) (fun s1 c2 g4 g5 e6 => ?_)
  have f3 := z_Fr.up (R := R_X9_renumber_6) z_Fr.rf g4 (by decide)
  have t7 : s1 6 6 = r0 6 6 := g5 6 (by decide)
  refine sl_X9_renumber_6_L9 hfu r0 (fun s8 c9 f10 => ?_) fu s1 (-1) 0 c2 f3 (by omega) (by omega) (by omega)
  have u11 := CI_b c9 (k := 6) (j := 6) bd_6_6
  have u12 := CI_b c9 (k := 6) (j := 7) bd_6_7
  exact T_ret ⟨c9, f10, rfl⟩
abbrev R_X9_drop_6 (a : Int) : Prop := (6 ≤ a ∧ a ≤ 18)
abbrev P_X9_drop_6 (r0 : z_M) : z_V → z_M → Prop := fun v s' => z_CI s' ∧ z_Fr R_X9_drop_6 r0 s' ∧ (v = vN)
theorem sf_X9_drop_6 {fu : Nat} (hfu : 8589934592 ≤ fu) (r0 : z_M) (c0 : z_CI r0) (a1 : Int) (a2 : Int) (b1 : -2147483648 ≤ a1 ∧ a1 ≤ 2147483647) (b2 : -2147483648 ≤ a2 ∧ a2 ≤ 2147483647) (p0 : 0 ≤ a1) (p1 : a1 ≤ a2) (p2 : a2 ≤ r0 6 6) : z_T (fX9_drop fu r0 6 a1 a2) (P_X9_drop_6 r0) := by
  refine T_of (fX9_drop.eq_1 ..) ?_
  refine T_if1 (by decide +kernel) ?_
  refine T_let 7 (by decide +kernel) ?_
  refine T_if1 (by decide +kernel) ?_
  refine T_leq (fun x1 e2 => ?_)
  have u3 := CI_b c0 (k := 6) (j := 6) bd_6_6
  refine T_if1 (by decide +kernel) ?_
  refine T_close hfu (by decide +kernel) (c := 8) (by decide +kernel) (by omega) (by omega) (by omega) bdr_8 (by decide) c0 (fun s4 e7 c5 g8 => ?_)
  have f6 := z_Fr.up (R := R_X9_drop_6) z_Fr.rf g8 (by decide)
  have t9 : s4 6 6 = r0 6 6 := g8 6 6 (by decide)
  refine T_if1 (by decide +kernel) ?_
  refine T_let 9 (by decide +kernel) ?_
  refine T_if1 (by decide +kernel) ?_
  refine T_leq (fun x10 e11 => ?_)
  have u12 := CI_b c5 (k := 6) (j := 6) bd_6_6
  refine T_if1 (by decide +kernel) ?_
  refine T_close hfu (by decide +kernel) (c := 10) (by decide +kernel) (by omega) (by omega) (by omega) bdr_10 (by decide) c5 (fun s13 e16 c14 g17 => ?_)
  have f15 := z_Fr.up (R := R_X9_drop_6) f6 g17 (by decide)
  have t18 : s13 6 6 = s4 6 6 := g17 6 6 (by decide)
  refine T_if1 (by decide +kernel) ?_
  refine T_let 11 (by decide +kernel) ?_
  refine T_if1 (by decide +kernel) ?_
  refine T_leq (fun x19 e20 => ?_)
  have u21 := CI_b c14 (k := 6) (j := 6) bd_6_6
  refine T_if1 (by decide +kernel) ?_
  refine T_close hfu (by decide +kernel) (c := 12) (by decide +kernel) (by omega) (by omega) (by omega) bdr_12 (by decide) c14 (fun s22 e25 c23 g26 => ?_)
  have f24 := z_Fr.up (R := R_X9_drop_6) f15 g26 (by decide)
  have t27 : s22 6 6 = s13 6 6 := g26 6 6 (by decide)
  refine T_if1 (by decide +kernel) ?_
  refine T_let 13 (by decide +kernel) ?_
  refine T_if1 (by decide +kernel) ?_
  refine T_leq (fun x28 e29 => ?_)
  have u30 := CI_b c23 (k := 6) (j := 6) bd_6_6
  refine T_if1 (by decide +kernel) ?_
  refine T_close hfu (by decide +kernel) (c := 14) (by decide +kernel) (by omega) (by omega) (by omega) bdr_14 (by decide) c23 (fun s31 e34 c32 g35 => ?_)
  have f33 := z_Fr.up (R := R_X9_drop_6) f24 g35 (by decide)
  have t36 : s31 6 6 = s22 6 6 := g35 6 6 (by decide)
  refine T_if1 (by decide +kernel) ?_
  refine T_let 15 (by decide +kernel) ?_
  refine T_if1 (by decide +kernel) ?_
  refine T_leq (fun x37 e38 => ?_)
  have u39 := CI_b c32 (k := 6) (j := 6) bd_6_6
  refine T_if1 (by decide +kernel) ?_
  refine T_lclose hfu (by decide +kernel) (c := 16) (by decide +kernel) (by omega) (by omega) (by omega) bdr_16 (by decide) c32 (fun s40 e43 c41 g44 => ?_)
  have f42 := z_Fr.up (R := R_X9_drop_6) f33 g44 (by decide)
  have t45 : s40 6 6 = s31 6 6 := g44 6 6 (by decide)
  refine T_if1 (by decide +kernel) ?_
  refine T_let 17 (by decide +kernel) ?_
  refine T_if1 (by decide +kernel) ?_
  refine T_leq (fun x46 e47 => ?_)
  have u48 := CI_b c41 (k := 6) (j := 6) bd_6_6
  refine T_if1 (by decide +kernel) ?_
  refine T_lclose hfu (by decide +kernel) (c := 18) (by decide +kernel) (by omega) (by omega) (by omega) bdr_18 (by decide) c41 (fun s49 e52 c50 g53 => ?_)
  have f51 := z_Fr.up (R := R_X9_drop_6) f42 g53 (by decide)
  have t54 : s49 6 6 = s40 6 6 := g53 6 6 (by decide)
  refine T_if1 (by decide +kernel) ?_
  refine T_leq (fun x55 e56 => ?_)
  have u57 := CI_b c50 (k := 6) (j := 6) bd_6_6
  refine T_leq (fun x58 e59 => ?_)
  have w60 := z_wb e59
  refine T_leq (fun x61 e62 => ?_)
  have w63 := z_wb e62
  refine T_if1 (by decide +kernel) ?_
  refine T_upg c50 bd_6_6 (by omega) (fun s64 c65 g67 g68 e69 => ?_)
  have f66 := z_Fr.up (R := R_X9_drop_6) f51 g67 (by decide)
  refine T_if1 (by decide +kernel) ?_
  refine T_useN (sf_X9_renumber_6 hfu s64 c65) (fun v75 s70 hq => ?_)
  obtain ⟨c71, f72, rfl⟩ := hq
  refine T_vN ?_
  have f73 := z_Fr.tr (R := R_X9_drop_6) f66 f72 (fun a h => by unfold R_X9_renumber_6 at h; unfold R_X9_drop_6; omega)
  have u78 := CI_b c71 (k := 6) (j := 6) bd_6_6
  exact T_ret ⟨c71, f73, rfl⟩
abbrev R_X11_tapeNumber_1 (a : Int) : Prop := (1 ≤ a ∧ a ≤ 1) ∨ (5 ≤ a ∧ a ≤ 5)
abbrev P_X11_tapeNumber_1 (r0 : z_M) : z_V → z_M → Prop := fun v s' => z_CI s' ∧ z_Fr R_X11_tapeNumber_1 r0 s' ∧ (s' 1 12 = r0 1 12 + 4) ∧ (v = vN)
theorem sl_X11_tapeNumber_1_L3 {fu : Nat} (hfu : 8589934592 ≤ fu) (r0 : z_M) (a1 : Int) (b1 : -2147483648 ≤ a1 ∧ a1 ≤ 2147483647) (q0 : r0 1 12 ≤ 296) {k : z_M → z_O} (hk : ∀ (s' : z_M), z_CI s' → z_Fr R_X11_tapeNumber_1 r0 s' → (8 * s' 1 12 = 8 * r0 1 12 + 32) → z_T (k s') (P_X11_tapeNumber_1 r0)) : ∀ (F : Nat) (s : z_M) (a2 : Int), z_CI s → z_Fr R_X11_tapeNumber_1 r0 s → ((-8) ≤ a2 ∧ a2 ≤ 24) → (8 * s 1 12 + a2 = 8 * r0 1 12 + 24) → (a2 + 2147483648 < (F : Int)) → z_T (fX11_tapeNumber_L3 fu 1 a1 F s a2 k) (P_X11_tapeNumber_1 r0) := by
  intro F
  induction F with
  | zero =>
    intro s a2 c f b2 i0 hm
    have u33 := CI_b c (k := 1) (j := 12) bd_1_12
    exfalso; omega
  | succ F ih =>
    intro s a2 c f b2 i0 hm
    refine T_of (fX11_tapeNumber_L3.eq_2 ..) ?_
    have u1 := CI_b c (k := 1) (j := 12) bd_1_12
    refine T_ite (fun h2 => ?_) (fun h2 => ?_)
    · exact hk s c f (by omega)
    · refine T_if1 (by decide +kernel) ?_
      refine T_let 4 (by decide +kernel) ?_
      refine T_if1 (by decide +kernel) ?_
      refine T_leq (fun x3 e4 => ?_)
      have u5 := CI_b c (k := 1) (j := 12) bd_1_12
      refine T_leq (fun x6 e7 => ?_)
      have w8 : -2147483648 ≤ x6 ∧ x6 ≤ 2147483647 := by rw [← e7]; exact z_i32b _
      refine T_leq (fun x9 e10 => ?_)
      have w11 : -2147483648 ≤ x9 ∧ x9 ≤ 2147483647 := by rw [← e10]; exact z_i32b _
      refine T_if1 (by decide +kernel) ?_
      refine T_put (by decide +kernel) (c := 5) (by decide +kernel) bdr_5 (by omega) c (fun s12 e15 c13 g16 => ?_)
      have f14 := z_Fr.up (R := R_X11_tapeNumber_1) f g16 (by decide)
      have t17 : s12 1 12 = s 1 12 := g16 1 12 (by decide)
      refine T_if1 (by decide +kernel) ?_
      refine T_leq (fun x18 e19 => ?_)
      have u20 := CI_b c13 (k := 1) (j := 12) bd_1_12
      refine T_leq (fun x21 e22 => ?_)
      have w23 := z_wb e22
      refine T_if1 (by decide +kernel) ?_
      refine T_upg c13 bd_1_12 (by omega) (fun s24 c25 g27 g28 e29 => ?_)
      have f26 := z_Fr.up (R := R_X11_tapeNumber_1) f14 g27 (by decide)
      refine T_leq (fun x30 e31 => ?_)
      have w32 := z_wb e31
      exact ih s24 x30 c25 f26 (by omega) (by omega) (by omega)
theorem sf_X11_tapeNumber_1 {fu : Nat} (hfu : 8589934592 ≤ fu) (r0 : z_M) (c0 : z_CI r0) (a1 : Int) (b1 : -2147483648 ≤ a1 ∧ a1 ≤ 2147483647) (p0 : r0 1 12 ≤ 296) : z_T (fX11_tapeNumber fu r0 1 a1) (P_X11_tapeNumber_1 r0) := by
  refine T_of (fX11_tapeNumber.eq_1 ..) ?_
  refine sl_X11_tapeNumber_1_L3 hfu r0 a1 (by omega) (by omega) (fun s1 c2 f3 g4 => ?_) fu r0 24 c0 z_Fr.rf (by omega) (by omega) (by omega)
  have u5 := CI_b c2 (k := 1) (j := 12) bd_1_12
  exact T_ret ⟨c2, f3, by omega, rfl⟩
abbrev R_X11_feed_1 (a : Int) : Prop := (1 ≤ a ∧ a ≤ 1) ∨ (5 ≤ a ∧ a ≤ 5)
abbrev P_X11_feed_1 (r0 : z_M) : z_V → z_M → Prop := fun v s' => z_CI s' ∧ z_Fr R_X11_feed_1 r0 s' ∧ (∃ x, v = vI x ∧ -2147483648 ≤ x ∧ x ≤ 2147483647)
theorem sf_X11_feed_1 {fu : Nat} (hfu : 8589934592 ≤ fu) (r0 : z_M) (c0 : z_CI r0) (a1 : Int) (a2 : Int) (a3 : Int) (a4 : Int) (a5 : Int) (b1 : -2147483648 ≤ a1 ∧ a1 ≤ 2147483647) (b2 : -2147483648 ≤ a2 ∧ a2 ≤ 2147483647) (b3 : -2147483648 ≤ a3 ∧ a3 ≤ 2147483647) (b4 : -2147483648 ≤ a4 ∧ a4 ≤ 2147483647) (b5 : -2147483648 ≤ a5 ∧ a5 ≤ 2147483647) : z_T (fX11_feed fu r0 1 a1 a2 a3 a4 a5) (P_X11_feed_1 r0) := by
  refine T_of (fX11_feed.eq_1 ..) ?_
  refine T_if1 (by decide +kernel) ?_
  refine T_leq (fun x1 e2 => ?_)
  have u3 := CI_b c0 (k := 1) (j := 12) bd_1_12
  refine T_ite (fun h4 => ?_) (fun h4 => ?_)
  · refine T_if1 (by decide +kernel) ?_
    refine T_useN (sf_X11_tapeNumber_1 hfu r0 c0 a1 (by omega) (by omega)) (fun v10 s5 hq => ?_)
    obtain ⟨c6, f7, o11, rfl⟩ := hq
    refine T_vN ?_
    have f8 := z_Fr.tr (R := R_X11_feed_1) z_Fr.rf f7 (fun a h => by unfold R_X11_tapeNumber_1 at h; unfold R_X11_feed_1; omega)
    have u14 := CI_b c6 (k := 1) (j := 12) bd_1_12
    refine T_if1 (by decide +kernel) ?_
    refine T_useN (sf_X11_tapeNumber_1 hfu s5 c6 a2 (by omega) (by omega)) (fun v20 s15 hq => ?_)
    obtain ⟨c16, f17, o21, rfl⟩ := hq
    refine T_vN ?_
    have f18 := z_Fr.tr (R := R_X11_feed_1) f8 f17 (fun a h => by unfold R_X11_tapeNumber_1 at h; unfold R_X11_feed_1; omega)
    have u24 := CI_b c16 (k := 1) (j := 12) bd_1_12
    refine T_if1 (by decide +kernel) ?_
    refine T_useN (sf_X11_tapeNumber_1 hfu s15 c16 a3 (by omega) (by omega)) (fun v30 s25 hq => ?_)
    obtain ⟨c26, f27, o31, rfl⟩ := hq
    refine T_vN ?_
    have f28 := z_Fr.tr (R := R_X11_feed_1) f18 f27 (fun a h => by unfold R_X11_tapeNumber_1 at h; unfold R_X11_feed_1; omega)
    have u34 := CI_b c26 (k := 1) (j := 12) bd_1_12
    refine T_if1 (by decide +kernel) ?_
    refine T_useN (sf_X11_tapeNumber_1 hfu s25 c26 a4 (by omega) (by omega)) (fun v40 s35 hq => ?_)
    obtain ⟨c36, f37, o41, rfl⟩ := hq
    refine T_vN ?_
    have f38 := z_Fr.tr (R := R_X11_feed_1) f28 f37 (fun a h => by unfold R_X11_tapeNumber_1 at h; unfold R_X11_feed_1; omega)
    have u44 := CI_b c36 (k := 1) (j := 12) bd_1_12
    refine T_if1 (by decide +kernel) ?_
    refine T_useN (sf_X11_tapeNumber_1 hfu s35 c36 a5 (by omega) (by omega)) (fun v50 s45 hq => ?_)
    obtain ⟨c46, f47, o51, rfl⟩ := hq
    refine T_vN ?_
    have f48 := z_Fr.tr (R := R_X11_feed_1) f38 f47 (fun a h => by unfold R_X11_tapeNumber_1 at h; unfold R_X11_feed_1; omega)
    have u54 := CI_b c46 (k := 1) (j := 12) bd_1_12
    refine T_if1 (by decide +kernel) ?_
    refine T_leq (fun x55 e56 => ?_)
    have u57 := CI_b c46 (k := 1) (j := 12) bd_1_12
    exact T_ret ⟨c46, f48, ⟨x55, rfl, by omega, by omega⟩⟩
  · exact T_ret ⟨c0, z_Fr.rf, ⟨(-1), rfl, by omega, by omega⟩⟩
abbrev R_X11_readTape_1 (a : Int) : Prop := (1 ≤ a ∧ a ≤ 1) ∨ (6 ≤ a ∧ a ≤ 190)
abbrev P_X11_readTape_1 (r0 : z_M) : z_V → z_M → Prop := fun v s' => z_CI s' ∧ z_Fr R_X11_readTape_1 r0 s' ∧ (∃ x, v = vI x ∧ -2147483648 ≤ x ∧ x ≤ 2147483647)
theorem sj_X11_readTape_1_J68 {fu : Nat} (hfu : 8589934592 ≤ fu) (r0 s : z_M) (c : z_CI s) (f : z_Fr R_X11_readTape_1 r0 s) (a2 : Int) (b2 : -2147483648 ≤ a2 ∧ a2 ≤ 2147483647) : z_T (fX11_readTape_J68 fu s a2) (P_X11_readTape_1 r0) := by
  refine T_of (fX11_readTape_J68.eq_1 ..) ?_
  have u1 := CI_b c (k := 32) (j := 7) bd_32_7
  exact T_ret ⟨c, f, ⟨a2, rfl, by omega, by omega⟩⟩
theorem sj_X11_readTape_1_J29 {fu : Nat} (hfu : 8589934592 ≤ fu) (r0 s : z_M) (c : z_CI s) (f : z_Fr R_X11_readTape_1 r0 s) (a2 : Int) (t1 : Int) (b2 : -2147483648 ≤ a2 ∧ a2 ≤ 2147483647) (d1 : -2147483648 ≤ t1 ∧ t1 ≤ 2147483647) : z_T (fX11_readTape_J29 fu s 1 a2 1 t1) (P_X11_readTape_1 r0) := by
  refine T_of (fX11_readTape_J29.eq_1 ..) ?_
  have u1 := CI_b c (k := 32) (j := 7) bd_32_7
  refine T_if1 (by decide +kernel) ?_
  refine T_upg c bd_1_13 (by omega) (fun s2 c3 g5 g6 e7 => ?_)
  have f4 := z_Fr.up (R := R_X11_readTape_1) f g5 (by decide)
  have t8 : s2 32 7 = s 32 7 := g5 32 7 (by decide)
  refine T_if1 (by decide +kernel) ?_
  refine T_upg c3 bd_1_12 (by omega) (fun s9 c10 g12 g13 e14 => ?_)
  have f11 := z_Fr.up (R := R_X11_readTape_1) f4 g12 (by decide)
  have t15 : s9 32 7 = s2 32 7 := g12 32 7 (by decide)
  refine T_ite (fun h16 => ?_) (fun h16 => ?_)
  · exact sj_X11_readTape_1_J68 hfu r0 s9 c10 f11 a2 (by omega)
  · refine T_if1 (by decide +kernel) ?_
    refine T_let 33 (by decide +kernel) ?_
    refine T_if1 (by decide +kernel) ?_
    refine T_let 6 (by decide +kernel) ?_
    refine T_if1 (by decide +kernel) ?_
    refine T_useN (sf_X2_keep_33_6 hfu s9 c10) (fun v22 s17 hq => ?_)
    obtain ⟨c18, f19, rfl⟩ := hq
    refine T_vN ?_
    have f20 := z_Fr.tr (R := R_X11_readTape_1) f11 f19 (fun a h => by unfold R_X2_keep_33_6 at h; unfold R_X11_readTape_1; omega)
    have t25 : s17 32 7 = s9 32 7 := f19 32 7 (by decide)
    refine T_if1 (by decide +kernel) ?_
    refine T_let 6 (by decide +kernel) ?_
    refine T_if1 (by decide +kernel) ?_
    refine T_let 19 (by decide +kernel) ?_
    refine T_if1 (by decide +kernel) ?_
    refine T_useN (sf_X9_copyFrom_6_19 hfu s17 c18) (fun v31 s26 hq => ?_)
    obtain ⟨c27, f28, rfl⟩ := hq
    refine T_vN ?_
    have f29 := z_Fr.tr (R := R_X11_readTape_1) f20 f28 (fun a h => by unfold R_X9_copyFrom_6_19 at h; unfold R_X11_readTape_1; omega)
    have t34 : s26 32 7 = s17 32 7 := f28 32 7 (by decide)
    refine T_if1 ⟨(by decide +kernel), by unfold z_bl; omega⟩ ?_
    refine T_upg c27 bd_1_16 (by omega) (fun s35 c36 g38 g39 e40 => ?_)
    have f37 := z_Fr.up (R := R_X11_readTape_1) f29 g38 (by decide)
    have t41 : s35 32 7 = s26 32 7 := g38 32 7 (by decide)
    exact sj_X11_readTape_1_J68 hfu r0 s35 c36 f37 a2 (by omega)
theorem sf_X11_readTape_1 {fu : Nat} (hfu : 8589934592 ≤ fu) (r0 : z_M) (c0 : z_CI r0) (a1 : Int) (b1 : -2147483648 ≤ a1 ∧ a1 ≤ 2147483647) : z_T (fX11_readTape fu r0 1 a1) (P_X11_readTape_1 r0) := by
  refine T_of (fX11_readTape.eq_1 ..) ?_
  refine T_if1 (by decide +kernel) ?_
  refine T_let 32 (by decide +kernel) ?_
  refine T_if1 (by decide +kernel) ?_
  refine T_let 4 (by decide +kernel) ?_
  refine T_if1 (by decide +kernel) ?_
  refine T_useI (sf_X6_read_32_4 hfu r0 c0 a1 (by omega)) (fun v6 s1 hq => ?_)
  obtain ⟨c2, f3, ⟨x5, rfl, b7, b8⟩⟩ := hq
  refine T_vI ?_
  have f4 := z_Fr.tr (R := R_X11_readTape_1) z_Fr.rf f3 (fun a h => by unfold R_X6_read_32_4 at h; unfold R_X11_readTape_1; omega)
  have u9 := CI_b c2 (k := 32) (j := 7) bd_32_7
  refine T_ite (fun h10 => ?_) (fun h10 => ?_)
  · refine T_if1 (by decide +kernel) ?_
    refine T_let 32 (by decide +kernel) ?_
    refine T_if1 (by decide +kernel) ?_
    refine T_leq (fun x11 e12 => ?_)
    have u13 := CI_b c2 (k := 32) (j := 7) bd_32_7
    exact sj_X11_readTape_1_J29 hfu r0 s1 c2 f4 x5 x11 (by omega) (by omega)
  · exact sj_X11_readTape_1_J29 hfu r0 s1 c2 f4 x5 (-1) (by omega) (by omega)
abbrev R_X11_refresh_1 (a : Int) : Prop := (1 ≤ a ∧ a ≤ 1) ∨ (191 ≤ a ∧ a ≤ 244) ∨ (248 ≤ a ∧ a ≤ 248) ∨ (260 ≤ a ∧ a ≤ 295)
abbrev P_X11_refresh_1 (r0 : z_M) : z_V → z_M → Prop := fun v s' => z_CI s' ∧ z_Fr R_X11_refresh_1 r0 s' ∧ (v = vN)
theorem sj_X11_refresh_1_J78 {fu : Nat} (hfu : 8589934592 ≤ fu) (r0 s : z_M) (c : z_CI s) (f : z_Fr R_X11_refresh_1 r0 s) : z_T (fX11_refresh_J78 fu s) (P_X11_refresh_1 r0) := by
  refine T_of (fX11_refresh_J78.eq_1 ..) ?_
  have u1 := CI_b c (k := 1) (j := 16) bd_1_16
  have u2 := CI_b c (k := 1) (j := 17) bd_1_17
  exact T_ret ⟨c, f, rfl⟩
theorem sj_X11_refresh_1_J31 {fu : Nat} (hfu : 8589934592 ≤ fu) (r0 s : z_M) (c : z_CI s) (f : z_Fr R_X11_refresh_1 r0 s) : z_T (fX11_refresh_J31 fu s 1) (P_X11_refresh_1 r0) := by
  refine T_of (fX11_refresh_J31.eq_1 ..) ?_
  have u1 := CI_b c (k := 1) (j := 16) bd_1_16
  have u2 := CI_b c (k := 1) (j := 17) bd_1_17
  refine T_if1 (by decide +kernel) ?_
  refine T_leq (fun x3 e4 => ?_)
  have u5 := CI_b c (k := 1) (j := 17) bd_1_17
  refine T_ite (fun h6 => ?_) (fun h6 => ?_)
  · exact sj_X11_refresh_1_J78 hfu r0 s c f
  · refine T_if1 (by decide +kernel) ?_
    refine T_let 240 (by decide +kernel) ?_
    refine T_if1 (by decide +kernel) ?_
    refine T_let 2 (by decide +kernel) ?_
    refine T_if1 (by decide +kernel) ?_
    refine T_get (by decide +kernel) (c := 3) (by decide +kernel) bdr_3 (by decide) c (fun x7 e8 b9 w10 => ?_)
    have l11 : z_ln 2 = 9 := by decide +kernel
    refine T_if1 (by decide +kernel) ?_
    refine T_let 2 (by decide +kernel) ?_
    refine T_if1 (by decide +kernel) ?_
    refine T_get (by decide +kernel) (c := 3) (by decide +kernel) bdr_3 (by decide) c (fun x12 e13 b14 w15 => ?_)
    have l16 : z_ln 2 = 9 := by decide +kernel
    refine T_if1 (by decide +kernel) ?_
    refine T_useN (sf_X1_go_240 hfu s c x7 x12 (by omega) (by omega)) (fun v22 s17 hq => ?_)
    obtain ⟨c18, f19, rfl⟩ := hq
    refine T_vN ?_
    have f20 := z_Fr.tr (R := R_X11_refresh_1) f f19 (fun a h => by unfold R_X1_go_240 at h; unfold R_X11_refresh_1; omega)
    have t25 : s17 1 16 = s 1 16 := f19 1 16 (by decide)
    have t26 : s17 1 17 = s 1 17 := f19 1 17 (by decide)
    refine T_if1 (by decide +kernel) ?_
    refine T_let 258 (by decide +kernel) ?_
    refine T_if1 (by decide +kernel) ?_
    refine T_useN (sf_X3_build_258 hfu s17 c18) (fun v32 s27 hq => ?_)
    obtain ⟨c28, f29, rfl⟩ := hq
    refine T_vN ?_
    have f30 := z_Fr.tr (R := R_X11_refresh_1) f20 f29 (fun a h => by unfold R_X3_build_258 at h; unfold R_X11_refresh_1; omega)
    have t35 : s27 1 16 = s17 1 16 := f29 1 16 (by decide)
    have t36 : s27 1 17 = s17 1 17 := f29 1 17 (by decide)
    refine T_if1 ⟨(by decide +kernel), by unfold z_bl; omega⟩ ?_
    refine T_upg c28 bd_1_17 (by omega) (fun s37 c38 g40 g41 e42 => ?_)
    have f39 := z_Fr.up (R := R_X11_refresh_1) f30 g40 (by decide)
    have t43 : s37 1 16 = s27 1 16 := g41 16 (by decide)
    refine T_if1 ⟨(by decide +kernel), by unfold z_bl; omega⟩ ?_
    refine T_upg c38 bd_1_18 (by omega) (fun s44 c45 g47 g48 e49 => ?_)
    have f46 := z_Fr.up (R := R_X11_refresh_1) f39 g47 (by decide)
    have t50 : s44 1 16 = s37 1 16 := g48 16 (by decide)
    have t51 : s44 1 17 = s37 1 17 := g48 17 (by decide)
    exact sj_X11_refresh_1_J78 hfu r0 s44 c45 f46
theorem sf_X11_refresh_1 {fu : Nat} (hfu : 8589934592 ≤ fu) (r0 : z_M) (c0 : z_CI r0) : z_T (fX11_refresh fu r0 1) (P_X11_refresh_1 r0) := by
  refine T_of (fX11_refresh.eq_1 ..) ?_
  refine T_if1 (by decide +kernel) ?_
  refine T_leq (fun x1 e2 => ?_)
  have u3 := CI_b c0 (k := 1) (j := 16) bd_1_16
  refine T_ite (fun h4 => ?_) (fun h4 => ?_)
  · exact sj_X11_refresh_1_J31 hfu r0 r0 c0 z_Fr.rf
  · refine T_if1 (by decide +kernel) ?_
    refine T_let 191 (by decide +kernel) ?_
    refine T_if1 (by decide +kernel) ?_
    refine T_useN (sf_X10_build_191 hfu r0 c0) (fun v10 s5 hq => ?_)
    obtain ⟨c6, f7, rfl⟩ := hq
    refine T_vN ?_
    have f8 := z_Fr.tr (R := R_X11_refresh_1) z_Fr.rf f7 (fun a h => by unfold R_X10_build_191 at h; unfold R_X11_refresh_1; omega)
    have t13 : s5 1 16 = r0 1 16 := f7 1 16 (by decide)
    have t14 : s5 1 17 = r0 1 17 := f7 1 17 (by decide)
    refine T_if1 (by decide +kernel) ?_
    refine T_let 220 (by decide +kernel) ?_
    refine T_if1 (by decide +kernel) ?_
    refine T_useN (sf_X5_forget_220 hfu s5 c6) (fun v20 s15 hq => ?_)
    obtain ⟨c16, f17, rfl⟩ := hq
    refine T_vN ?_
    have f18 := z_Fr.tr (R := R_X11_refresh_1) f8 f17 (fun a h => by unfold R_X5_forget_220 at h; unfold R_X11_refresh_1; omega)
    have t23 : s15 1 16 = s5 1 16 := f17 1 16 (by decide)
    have t24 : s15 1 17 = s5 1 17 := f17 1 17 (by decide)
    refine T_if1 ⟨(by decide +kernel), by unfold z_bl; omega⟩ ?_
    refine T_upg c16 bd_1_16 (by omega) (fun s25 c26 g28 g29 e30 => ?_)
    have f27 := z_Fr.up (R := R_X11_refresh_1) f18 g28 (by decide)
    have t31 : s25 1 17 = s15 1 17 := g29 17 (by decide)
    refine T_if1 ⟨(by decide +kernel), by unfold z_bl; omega⟩ ?_
    refine T_upg c26 bd_1_17 (by omega) (fun s32 c33 g35 g36 e37 => ?_)
    have f34 := z_Fr.up (R := R_X11_refresh_1) f27 g35 (by decide)
    have t38 : s32 1 16 = s25 1 16 := g36 16 (by decide)
    exact sj_X11_refresh_1_J31 hfu r0 s32 c33 f34
abbrev R_X11_text_1 (a : Int) : Prop := (1 ≤ a ∧ a ≤ 1) ∨ (6 ≤ a ∧ a ≤ 244) ∨ (248 ≤ a ∧ a ≤ 248) ∨ (260 ≤ a ∧ a ≤ 295)
abbrev P_X11_text_1 (r0 : z_M) : z_V → z_M → Prop := fun v s' => z_CI s' ∧ z_Fr R_X11_text_1 r0 s' ∧ ((∃ x, v = vI x ∧ -2147483648 ≤ x ∧ x ≤ 2147483647) ∨ v = vX 0 ∨ v = vX 1)
theorem sj_X11_text_1_J45 {fu : Nat} (hfu : 8589934592 ≤ fu) (r0 s : z_M) (c : z_CI s) (f : z_Fr R_X11_text_1 r0 s) (t0 : Int) (d0 : -2147483648 ≤ t0 ∧ t0 ≤ 2147483647) : z_T (fX11_text_J45 fu s t0) (P_X11_text_1 r0) := by
  refine T_of (fX11_text_J45.eq_1 ..) ?_
  have u1 := CI_b c (k := 1) (j := 12) bd_1_12
  have u2 := CI_b c (k := 191) (j := 16) bd_191_16
  exact T_ret ⟨c, f, Or.inl (⟨t0, rfl, by omega, by omega⟩)⟩
theorem sf_X11_text_1 {fu : Nat} (hfu : 8589934592 ≤ fu) (r0 : z_M) (c0 : z_CI r0) (a1 : Int) (b1 : -2147483648 ≤ a1 ∧ a1 ≤ 2147483647) : z_T (fX11_text fu r0 1 a1) (P_X11_text_1 r0) := by
  refine T_of (fX11_text.eq_1 ..) ?_
  refine T_if1 (by decide +kernel) ?_
  refine T_leq (fun x1 e2 => ?_)
  have u3 := CI_b c0 (k := 1) (j := 12) bd_1_12
  refine T_if1 (by decide +kernel) ?_
  refine T_nw ?_ (fun h4 h5 => ?_)
  · exact T_ret ⟨CI_up c0 bd_1_15 (z_wb rfl).1, z_Fr.up (R := R_X11_text_1) z_Fr.rf (fun a b h => z_up_k h) (by decide), Or.inr (Or.inr rfl)⟩
  refine T_if1 (by decide +kernel) ?_
  refine T_let 19 (by decide +kernel) ?_
  refine T_if1 (by decide +kernel) ?_
  refine T_useN (sf_X9_clear_19 hfu r0 c0) (fun v11 s6 hq => ?_)
  obtain ⟨c7, f8, rfl⟩ := hq
  refine T_vN ?_
  have f9 := z_Fr.tr (R := R_X11_text_1) z_Fr.rf f8 (fun a h => by unfold R_X9_clear_19 at h; unfold R_X11_text_1; omega)
  have t14 : s6 1 12 = r0 1 12 := f8 1 12 (by decide)
  have t15 : s6 191 16 = r0 191 16 := f8 191 16 (by decide)
  refine T_if1 (by decide +kernel) ?_
  refine T_useI (sf_X11_readTape_1 hfu s6 c7 a1 (by omega)) (fun v21 s16 hq => ?_)
  obtain ⟨c17, f18, ⟨x20, rfl, b22, b23⟩⟩ := hq
  refine T_vI ?_
  have f19 := z_Fr.tr (R := R_X11_text_1) f9 f18 (fun a h => by unfold R_X11_readTape_1 at h; unfold R_X11_text_1; omega)
  have t24 : s16 191 16 = s6 191 16 := f18 191 16 (by decide)
  have u25 := CI_b c17 (k := 1) (j := 12) bd_1_12
  refine T_if1 (by decide +kernel) ?_
  refine T_useN (sf_X11_refresh_1 hfu s16 c17) (fun v31 s26 hq => ?_)
  obtain ⟨c27, f28, rfl⟩ := hq
  refine T_vN ?_
  have f29 := z_Fr.tr (R := R_X11_text_1) f19 f28 (fun a h => by unfold R_X11_refresh_1 at h; unfold R_X11_text_1; omega)
  have u34 := CI_b c27 (k := 1) (j := 12) bd_1_12
  have u35 := CI_b c27 (k := 191) (j := 16) bd_191_16
  refine T_ite (fun h36 => ?_) (fun h36 => ?_)
  · refine T_leq (fun x37 e38 => ?_)
    have w39 := z_wr e38
    exact sj_X11_text_1_J45 hfu r0 s26 c27 f29 x37 (by omega)
  · refine T_if1 (by decide +kernel) ?_
    refine T_let 191 (by decide +kernel) ?_
    refine T_if1 (by decide +kernel) ?_
    refine T_leq (fun x40 e41 => ?_)
    have u42 := CI_b c27 (k := 191) (j := 16) bd_191_16
    exact sj_X11_text_1_J45 hfu r0 s26 c27 f29 x40 (by omega)
abbrev R_X11_more_1 (a : Int) : Prop := (1 ≤ a ∧ a ≤ 1) ∨ (6 ≤ a ∧ a ≤ 244) ∨ (248 ≤ a ∧ a ≤ 248) ∨ (260 ≤ a ∧ a ≤ 295)
abbrev P_X11_more_1 (r0 : z_M) : z_V → z_M → Prop := fun v s' => z_CI s' ∧ z_Fr R_X11_more_1 r0 s' ∧ ((∃ x, v = vI x ∧ -2147483648 ≤ x ∧ x ≤ 2147483647) ∨ v = vX 0 ∨ v = vX 1)
theorem sj_X11_more_1_J49 {fu : Nat} (hfu : 8589934592 ≤ fu) (r0 s : z_M) (c : z_CI s) (f : z_Fr R_X11_more_1 r0 s) (t0 : Int) (d0 : -2147483648 ≤ t0 ∧ t0 ≤ 2147483647) : z_T (fX11_more_J49 fu s t0) (P_X11_more_1 r0) := by
  refine T_of (fX11_more_J49.eq_1 ..) ?_
  have u1 := CI_b c (k := 1) (j := 12) bd_1_12
  have u2 := CI_b c (k := 191) (j := 16) bd_191_16
  exact T_ret ⟨c, f, Or.inl (⟨t0, rfl, by omega, by omega⟩)⟩
theorem sf_X11_more_1 {fu : Nat} (hfu : 8589934592 ≤ fu) (r0 : z_M) (c0 : z_CI r0) (a1 : Int) (b1 : -2147483648 ≤ a1 ∧ a1 ≤ 2147483647) : z_T (fX11_more fu r0 1 a1) (P_X11_more_1 r0) := by
  refine T_of (fX11_more.eq_1 ..) ?_
  refine T_if1 (by decide +kernel) ?_
  refine T_leq (fun x1 e2 => ?_)
  have u3 := CI_b c0 (k := 1) (j := 12) bd_1_12
  refine T_if1 (by decide +kernel) ?_
  refine T_nw ?_ (fun h4 h5 => ?_)
  · exact T_ret ⟨CI_up c0 bd_1_15 (z_wb rfl).1, z_Fr.up (R := R_X11_more_1) z_Fr.rf (fun a b h => z_up_k h) (by decide), Or.inr (Or.inr rfl)⟩
  refine T_if1 (by decide +kernel) ?_
  refine T_let 19 (by decide +kernel) ?_
  refine T_if1 (by decide +kernel) ?_
  refine T_let 6 (by decide +kernel) ?_
  refine T_if1 (by decide +kernel) ?_
  refine T_useN (sf_X9_copyFrom_19_6 hfu r0 c0) (fun v11 s6 hq => ?_)
  obtain ⟨c7, f8, rfl⟩ := hq
  refine T_vN ?_
  have f9 := z_Fr.tr (R := R_X11_more_1) z_Fr.rf f8 (fun a h => by unfold R_X9_copyFrom_19_6 at h; unfold R_X11_more_1; omega)
  have t14 : s6 1 12 = r0 1 12 := f8 1 12 (by decide)
  have t15 : s6 191 16 = r0 191 16 := f8 191 16 (by decide)
  refine T_if1 (by decide +kernel) ?_
  refine T_useI (sf_X11_readTape_1 hfu s6 c7 a1 (by omega)) (fun v21 s16 hq => ?_)
  obtain ⟨c17, f18, ⟨x20, rfl, b22, b23⟩⟩ := hq
  refine T_vI ?_
  have f19 := z_Fr.tr (R := R_X11_more_1) f9 f18 (fun a h => by unfold R_X11_readTape_1 at h; unfold R_X11_more_1; omega)
  have t24 : s16 191 16 = s6 191 16 := f18 191 16 (by decide)
  have u25 := CI_b c17 (k := 1) (j := 12) bd_1_12
  refine T_if1 (by decide +kernel) ?_
  refine T_useN (sf_X11_refresh_1 hfu s16 c17) (fun v31 s26 hq => ?_)
  obtain ⟨c27, f28, rfl⟩ := hq
  refine T_vN ?_
  have f29 := z_Fr.tr (R := R_X11_more_1) f19 f28 (fun a h => by unfold R_X11_refresh_1 at h; unfold R_X11_more_1; omega)
  have u34 := CI_b c27 (k := 1) (j := 12) bd_1_12
  have u35 := CI_b c27 (k := 191) (j := 16) bd_191_16
  refine T_ite (fun h36 => ?_) (fun h36 => ?_)
  · refine T_leq (fun x37 e38 => ?_)
    have w39 := z_wr e38
    exact sj_X11_more_1_J49 hfu r0 s26 c27 f29 x37 (by omega)
  · refine T_if1 (by decide +kernel) ?_
    refine T_let 191 (by decide +kernel) ?_
    refine T_if1 (by decide +kernel) ?_
    refine T_leq (fun x40 e41 => ?_)
    have u42 := CI_b c27 (k := 191) (j := 16) bd_191_16
    exact sj_X11_more_1_J49 hfu r0 s26 c27 f29 x40 (by omega)
abbrev R_X11_fault_1 (a : Int) : Prop := False
abbrev P_X11_fault_1 (r0 : z_M) : z_V → z_M → Prop := fun v s' => z_CI s' ∧ z_Fr R_X11_fault_1 r0 s' ∧ (∃ x, v = vI x ∧ -2147483648 ≤ x ∧ x ≤ 2147483647)
theorem sf_X11_fault_1 {fu : Nat} (hfu : 8589934592 ≤ fu) (r0 : z_M) (c0 : z_CI r0) : z_T (fX11_fault fu r0 1) (P_X11_fault_1 r0) := by
  refine T_of (fX11_fault.eq_1 ..) ?_
  refine T_if1 (by decide +kernel) ?_
  refine T_leq (fun x1 e2 => ?_)
  have u3 := CI_b c0 (k := 1) (j := 13) bd_1_13
  exact T_ret ⟨c0, z_Fr.rf, ⟨x1, rfl, by omega, by omega⟩⟩
abbrev R_X11_set_1 (a : Int) : Prop := (1 ≤ a ∧ a ≤ 3)
abbrev P_X11_set_1 (r0 : z_M) : z_V → z_M → Prop := fun v s' => z_CI s' ∧ z_Fr R_X11_set_1 r0 s' ∧ ((∃ x, v = vI x ∧ -2147483648 ≤ x ∧ x ≤ 2147483647) ∨ v = vX 0 ∨ v = vX 1)
theorem sj_X11_set_1_J79 {fu : Nat} (hfu : 8589934592 ≤ fu) (r0 s : z_M) (c : z_CI s) (f : z_Fr R_X11_set_1 r0 s) (a3 : Int) (b3 : -2147483648 ≤ a3 ∧ a3 ≤ 2147483647) : z_T (fX11_set_J79 fu s a3) (P_X11_set_1 r0) := by
  refine T_of (fX11_set_J79.eq_1 ..) ?_
  exact T_ret ⟨c, f, Or.inl (⟨a3, rfl, by omega, by omega⟩)⟩
theorem sf_X11_set_1 {fu : Nat} (hfu : 8589934592 ≤ fu) (r0 : z_M) (c0 : z_CI r0) (a1 : Int) (a2 : Int) (b1 : -2147483648 ≤ a1 ∧ a1 ≤ 2147483647) (b2 : -2147483648 ≤ a2 ∧ a2 ≤ 2147483647) : z_T (fX11_set fu r0 1 a1 a2) (P_X11_set_1 r0) := by
  refine T_of (fX11_set.eq_1 ..) ?_
  refine T_if1 (by decide) ?_
  refine T_leq (fun x1 e2 => ?_)
  have w3 := z_wr e2
  refine T_if1 (by decide +kernel) ?_
  refine T_nw ?_ (fun h4 h5 => ?_)
  · exact T_ret ⟨CI_up c0 bd_1_15 (z_wb rfl).1, z_Fr.up (R := R_X11_set_1) z_Fr.rf (fun a b h => z_up_k h) (by decide), Or.inr (Or.inr rfl)⟩
  refine T_pick (by decide) (fun x6 e7 b8 => ?_)
  refine T_pick (by decide) (fun x9 e10 b11 => ?_)
  refine T_if1 (by decide +kernel) ?_
  refine T_nw ?_ (fun h12 h13 => ?_)
  · exact T_ret ⟨CI_up c0 bd_1_15 (z_wb rfl).1, z_Fr.up (R := R_X11_set_1) z_Fr.rf (fun a b h => z_up_k h) (by decide), Or.inr (Or.inr rfl)⟩
  refine T_if1 (by decide +kernel) ?_
  refine T_let 2 (by decide +kernel) ?_
  refine T_if1 (by decide +kernel) ?_
  refine T_get (by decide +kernel) (c := 3) (by decide +kernel) bdr_3 (by decide) c0 (fun x14 e15 b16 w17 => ?_)
  have l18 : z_ln 2 = 9 := by decide +kernel
  refine T_if1 (by decide +kernel) ?_
  refine T_let 2 (by decide +kernel) ?_
  refine T_if1 (by decide +kernel) ?_
  refine T_put (by decide +kernel) (c := 3) (by decide +kernel) bdr_3 (by omega) c0 (fun s19 e22 c20 g23 => ?_)
  have f21 := z_Fr.up (R := R_X11_set_1) z_Fr.rf g23 (by decide)
  refine T_if1 ⟨(by decide +kernel), by unfold z_bl; omega⟩ ?_
  refine T_upg c20 bd_1_17 (by omega) (fun s24 c25 g27 g28 e29 => ?_)
  have f26 := z_Fr.up (R := R_X11_set_1) f21 g27 (by decide)
  refine T_ite (fun h30 => ?_) (fun h30 => ?_)
  · exact sj_X11_set_1_J79 hfu r0 s24 c25 f26 x14 (by omega)
  · refine T_ite (fun h31 => ?_) (fun h31 => ?_)
    · exact sj_X11_set_1_J79 hfu r0 s24 c25 f26 x14 (by omega)
    · refine T_ite (fun h32 => ?_) (fun h32 => ?_)
      · exact sj_X11_set_1_J79 hfu r0 s24 c25 f26 x14 (by omega)
      · refine T_ite (fun h33 => ?_) (fun h33 => ?_)
        · exact sj_X11_set_1_J79 hfu r0 s24 c25 f26 x14 (by omega)
        · refine T_if1 ⟨(by decide +kernel), by unfold z_bl; omega⟩ ?_
          refine T_upg c25 bd_1_16 (by omega) (fun s34 c35 g37 g38 e39 => ?_)
          have f36 := z_Fr.up (R := R_X11_set_1) f26 g37 (by decide)
          exact sj_X11_set_1_J79 hfu r0 s34 c35 f36 x14 (by omega)
abbrev R_X11_undo_1 (a : Int) : Prop := (1 ≤ a ∧ a ≤ 1) ∨ (6 ≤ a ∧ a ≤ 18) ∨ (33 ≤ a ∧ a ≤ 33) ∨ (191 ≤ a ∧ a ≤ 244) ∨ (248 ≤ a ∧ a ≤ 248) ∨ (260 ≤ a ∧ a ≤ 295)
abbrev P_X11_undo_1 (r0 : z_M) : z_V → z_M → Prop := fun v s' => z_CI s' ∧ z_Fr R_X11_undo_1 r0 s' ∧ (∃ x, v = vI x ∧ -2147483648 ≤ x ∧ x ≤ 2147483647)
theorem sf_X11_undo_1 {fu : Nat} (hfu : 8589934592 ≤ fu) (r0 : z_M) (c0 : z_CI r0) : z_T (fX11_undo fu r0 1) (P_X11_undo_1 r0) := by
  refine T_of (fX11_undo.eq_1 ..) ?_
  refine T_if1 (by decide +kernel) ?_
  refine T_let 33 (by decide +kernel) ?_
  refine T_if1 (by decide +kernel) ?_
  refine T_let 6 (by decide +kernel) ?_
  refine T_if1 (by decide +kernel) ?_
  refine T_useI (sf_X2_takeBack_33_6 hfu r0 c0) (fun v6 s1 hq => ?_)
  obtain ⟨c2, f3, ⟨x5, rfl, b7, b8⟩⟩ := hq
  refine T_vI ?_
  have f4 := z_Fr.tr (R := R_X11_undo_1) z_Fr.rf f3 (fun a h => by unfold R_X2_takeBack_33_6 at h; unfold R_X11_undo_1; omega)
  have t9 : s1 191 16 = r0 191 16 := f3 191 16 (by decide)
  refine T_ite (fun h10 => ?_) (fun h10 => ?_)
  · refine T_if1 ⟨(by decide +kernel), by unfold z_bl; omega⟩ ?_
    refine T_upg c2 bd_1_16 (by omega) (fun s11 c12 g14 g15 e16 => ?_)
    have f13 := z_Fr.up (R := R_X11_undo_1) f4 g14 (by decide)
    have t17 : s11 191 16 = s1 191 16 := g14 191 16 (by decide)
    refine T_if1 (by decide +kernel) ?_
    refine T_useN (sf_X11_refresh_1 hfu s11 c12) (fun v23 s18 hq => ?_)
    obtain ⟨c19, f20, rfl⟩ := hq
    refine T_vN ?_
    have f21 := z_Fr.tr (R := R_X11_undo_1) f13 f20 (fun a h => by unfold R_X11_refresh_1 at h; unfold R_X11_undo_1; omega)
    have u26 := CI_b c19 (k := 191) (j := 16) bd_191_16
    refine T_if1 (by decide +kernel) ?_
    refine T_let 191 (by decide +kernel) ?_
    refine T_if1 (by decide +kernel) ?_
    refine T_leq (fun x27 e28 => ?_)
    have u29 := CI_b c19 (k := 191) (j := 16) bd_191_16
    exact T_ret ⟨c19, f21, ⟨x27, rfl, by omega, by omega⟩⟩
  · exact T_ret ⟨c2, f4, ⟨(-1), rfl, by omega, by omega⟩⟩
abbrev R_X1_longOfLine_240 (a : Int) : Prop := (220 ≤ a ∧ a ≤ 239)
abbrev P_X1_longOfLine_240 (r0 : z_M) : z_V → z_M → Prop := fun v s' => z_CI s' ∧ z_Fr R_X1_longOfLine_240 r0 s' ∧ (∃ x, v = vI x ∧ -2147483648 ≤ x ∧ x ≤ 2147483647)
theorem sf_X1_longOfLine_240 {fu : Nat} (hfu : 8589934592 ≤ fu) (r0 : z_M) (c0 : z_CI r0) (a1 : Int) (b1 : -2147483648 ≤ a1 ∧ a1 ≤ 2147483647) : z_T (fX1_longOfLine fu r0 240 a1) (P_X1_longOfLine_240 r0) := by
  refine T_of (fX1_longOfLine.eq_1 ..) ?_
  refine T_if1 (by decide +kernel) ?_
  refine T_let 220 (by decide +kernel) ?_
  refine T_if1 (by decide +kernel) ?_
  refine T_let 247 (by decide +kernel) ?_
  refine T_if1 (by decide +kernel) ?_
  refine T_get (by decide +kernel) (c := 248) (by decide +kernel) bdr_248 (by decide) c0 (fun x1 e2 b3 w4 => ?_)
  have l5 : z_ln 247 = 201 := by decide +kernel
  refine T_if1 (by decide +kernel) ?_
  refine T_let 247 (by decide +kernel) ?_
  refine T_leq (fun x6 e7 => ?_)
  have w8 := z_wb e7
  refine T_if1 (by decide +kernel) ?_
  refine T_get (by decide +kernel) (c := 248) (by decide +kernel) bdr_248 (by decide) c0 (fun x9 e10 b11 w12 => ?_)
  have l13 : z_ln 247 = 201 := by decide +kernel
  refine T_leq (fun x14 e15 => ?_)
  have w16 := z_wb e15
  refine T_if1 (by decide +kernel) ?_
  refine T_useI (sf_X5_lengthOf_220 hfu r0 c0 x1 x14 (by omega) (by omega)) (fun v22 s17 hq => ?_)
  obtain ⟨c18, f19, ⟨x21, rfl, b23, b24⟩⟩ := hq
  refine T_vI ?_
  have f20 := z_Fr.tr (R := R_X1_longOfLine_240) z_Fr.rf f19 (fun a h => by unfold R_X5_lengthOf_220 at h; unfold R_X1_longOfLine_240; omega)
  exact T_ret ⟨c18, f20, ⟨x21, rfl, by omega, by omega⟩⟩
abbrev R_X1_tooLong_240 (a : Int) : Prop := (220 ≤ a ∧ a ≤ 239)
abbrev P_X1_tooLong_240 (r0 : z_M) : z_V → z_M → Prop := fun v s' => z_CI s' ∧ z_Fr R_X1_tooLong_240 r0 s' ∧ (∃ x, v = vI x ∧ -2147483648 ≤ x ∧ x ≤ 2147483647)
theorem sj_X1_tooLong_240_J27 {fu : Nat} (hfu : 8589934592 ≤ fu) (r0 s : z_M) (c : z_CI s) (f : z_Fr R_X1_tooLong_240 r0 s) (a1 : Int) (a3 : Int) (t0 : Int) (t1 : Int) (b1 : -2147483648 ≤ a1 ∧ a1 ≤ 2147483647) (b3 : -2147483648 ≤ a3 ∧ a3 ≤ 2147483646) (d0 : -2147483648 ≤ t0 ∧ t0 ≤ 2147483647) (d1 : 0 ≤ t1 ∧ t1 ≤ 1) (M : Int) (pm : 2147483647 - a3 ≤ M) {r : z_M → Int → Int → z_O} {k : z_M → Int → z_O} (hr : ∀ (s' : z_M) (v2 : Int) (v3 : Int), z_CI s' → z_Fr R_X1_tooLong_240 r0 s' → (-2147483648 ≤ v2 ∧ v2 ≤ 2147483647) → (-2147483648 ≤ v3 ∧ v3 ≤ 2147483647) → (2147483647 - v3 < M) → z_T (r s' v2 v3) (P_X1_tooLong_240 r0)) (hk : ∀ (s' : z_M) (v2 : Int), z_CI s' → z_Fr R_X1_tooLong_240 r0 s' → (-2147483648 ≤ v2 ∧ v2 ≤ 2147483647) → z_T (k s' v2) (P_X1_tooLong_240 r0)) : z_T (fX1_tooLong_J27 fu s 240 a1 a3 t0 t1 r k) (P_X1_tooLong_240 r0) := by
  refine T_of (fX1_tooLong_J27.eq_1 ..) ?_
  have u1 := CI_b c (k := 240) (j := 6) bd_240_6
  refine T_leq (fun x2 e3 => ?_)
  have w4 := z_wb e3
  refine T_leq (fun x5 e6 => ?_)
  have w7 := z_wb e6
  exact hr s x2 x5 c f (by omega) (by omega) (by omega)
theorem sl_X1_tooLong_240_L4 {fu : Nat} (hfu : 8589934592 ≤ fu) (r0 : z_M) (a1 : Int) (b1 : -2147483648 ≤ a1 ∧ a1 ≤ 2147483647) {k : z_M → Int → z_O} (hk : ∀ (s' : z_M) (v2 : Int), z_CI s' → z_Fr R_X1_tooLong_240 r0 s' → (-2147483648 ≤ v2 ∧ v2 ≤ 2147483647) → z_T (k s' v2) (P_X1_tooLong_240 r0)) : ∀ (F : Nat) (s : z_M) (a2 : Int) (a3 : Int), z_CI s → z_Fr R_X1_tooLong_240 r0 s → (-2147483648 ≤ a2 ∧ a2 ≤ 2147483647) → (-2147483648 ≤ a3 ∧ a3 ≤ 2147483647) → (2147483647 - a3 < (F : Int)) → z_T (fX1_tooLong_L4 fu 240 a1 F s a2 a3 k) (P_X1_tooLong_240 r0) := by
  intro F
  induction F with
  | zero =>
    intro s a2 a3 c f b2 b3 hm
    have u16 := CI_b c (k := 240) (j := 6) bd_240_6
    exfalso; omega
  | succ F ih =>
    intro s a2 a3 c f b2 b3 hm
    refine T_of (fX1_tooLong_L4.eq_2 ..) ?_
    have u1 := CI_b c (k := 240) (j := 6) bd_240_6
    refine T_if1 (by decide +kernel) ?_
    refine T_leq (fun x2 e3 => ?_)
    have u4 := CI_b c (k := 240) (j := 6) bd_240_6
    refine T_ite (fun h5 => ?_) (fun h5 => ?_)
    · exact hk s a2 c f (by omega)
    · refine T_if1 (by decide +kernel) ?_
      refine T_useI (sf_X1_longOfLine_240 hfu s c a3 (by omega)) (fun v11 s6 hq => ?_)
      obtain ⟨c7, f8, ⟨x10, rfl, b12, b13⟩⟩ := hq
      refine T_vI ?_
      have f9 := z_Fr.tr (R := R_X1_tooLong_240) f f8 (fun a h => by unfold R_X1_longOfLine_240 at h; unfold R_X1_tooLong_240; omega)
      have t14 : s6 240 6 = s 240 6 := f8 240 6 (by decide)
      refine T_ite (fun h15 => ?_) (fun h15 => ?_)
      · exact sj_X1_tooLong_240_J27 hfu r0 s6 c7 f9 a1 a3 a2 0 (by omega) (by omega) (by omega) (by omega) (2147483647 - a3) (by omega) (fun s' v2 v3 c' f' w2 w3 pg => ih s' v2 v3 c' f' w2 w3 (by omega)) hk
      · exact sj_X1_tooLong_240_J27 hfu r0 s6 c7 f9 a1 a3 a2 1 (by omega) (by omega) (by omega) (by omega) (2147483647 - a3) (by omega) (fun s' v2 v3 c' f' w2 w3 pg => ih s' v2 v3 c' f' w2 w3 (by omega)) hk
theorem sf_X1_tooLong_240 {fu : Nat} (hfu : 8589934592 ≤ fu) (r0 : z_M) (c0 : z_CI r0) (a1 : Int) (b1 : -2147483648 ≤ a1 ∧ a1 ≤ 2147483647) : z_T (fX1_tooLong fu r0 240 a1) (P_X1_tooLong_240 r0) := by
  refine T_of (fX1_tooLong.eq_1 ..) ?_
  refine sl_X1_tooLong_240_L4 hfu r0 a1 (by omega) (fun s1 y4 c2 f3 b5 => ?_) fu r0 0 0 c0 z_Fr.rf (by omega) (by omega) (by omega)
  have u6 := CI_b c2 (k := 240) (j := 6) bd_240_6
  exact T_ret ⟨c2, f3, ⟨y4, rfl, by omega, by omega⟩⟩
abbrev R_X1_costs_240 (a : Int) : Prop := (220 ≤ a ∧ a ≤ 239)
abbrev P_X1_costs_240 (r0 : z_M) : z_V → z_M → Prop := fun v s' => z_CI s' ∧ z_Fr R_X1_costs_240 r0 s' ∧ (∃ x, v = vL x ∧ -9223372036854775808 ≤ x ∧ x ≤ 9223372036854775807)
theorem sj_X1_costs_240_J38 {fu : Nat} (hfu : 8589934592 ≤ fu) (r0 s : z_M) (c : z_CI s) (f : z_Fr R_X1_costs_240 r0 s) (a1 : Int) (a4 : Int) (t0 : Int) (t1 : Int) (t2 : Int) (t3 : Int) (b1 : -2147483648 ≤ a1 ∧ a1 ≤ 2147483647) (b4 : -2147483648 ≤ a4 ∧ a4 ≤ 2147483646) (d0 : -9223372036854775808 ≤ t0 ∧ t0 ≤ 9223372036854775807) (d1 : -2147483648 ≤ t1 ∧ t1 ≤ 2147483647) (d2 : -2147483648 ≤ t2 ∧ t2 ≤ 2147483647) (d3 : 0 ≤ t3 ∧ t3 ≤ 1) (M : Int) (pm : 2147483647 - a4 ≤ M) {r : z_M → Int → Int → z_O} {k : z_M → Int → z_O} (hr : ∀ (s' : z_M) (v2 : Int) (v4 : Int), z_CI s' → z_Fr R_X1_costs_240 r0 s' → (-9223372036854775808 ≤ v2 ∧ v2 ≤ 9223372036854775807) → (-2147483648 ≤ v4 ∧ v4 ≤ 2147483647) → (2147483647 - v4 < M) → z_T (r s' v2 v4) (P_X1_costs_240 r0)) (hk : ∀ (s' : z_M) (v2 : Int), z_CI s' → z_Fr R_X1_costs_240 r0 s' → (-9223372036854775808 ≤ v2 ∧ v2 ≤ 9223372036854775807) → z_T (k s' v2) (P_X1_costs_240 r0)) : z_T (fX1_costs_J38 fu s 240 a1 a4 t0 t1 t2 t3 r k) (P_X1_costs_240 r0) := by
  refine T_of (fX1_costs_J38.eq_1 ..) ?_
  have u1 := CI_b c (k := 240) (j := 6) bd_240_6
  refine T_useL (sf_X1_costFor hfu s c t1 t2 t3 (by omega) (by omega) (by omega)) (fun v7 s2 hq => ?_)
  obtain ⟨c3, f4, ⟨x6, rfl, b8, b9⟩⟩ := hq
  refine T_vL ?_
  have f5 := z_Fr.tr (R := R_X1_costs_240) f f4 (fun a h => absurd h not_false)
  have t10 : s2 240 6 = s 240 6 := f4 240 6 (by decide)
  refine T_leq (fun x11 e12 => ?_)
  have w13 := z_wlr e12
  refine T_leq (fun x14 e15 => ?_)
  have w16 := z_wb e15
  exact hr s2 x11 x14 c3 f5 (by omega) (by omega) (by omega)
theorem sl_X1_costs_240_L5 {fu : Nat} (hfu : 8589934592 ≤ fu) (r0 : z_M) (a1 : Int) (b1 : -2147483648 ≤ a1 ∧ a1 ≤ 2147483647) {k : z_M → Int → z_O} (hk : ∀ (s' : z_M) (v2 : Int), z_CI s' → z_Fr R_X1_costs_240 r0 s' → (-9223372036854775808 ≤ v2 ∧ v2 ≤ 9223372036854775807) → z_T (k s' v2) (P_X1_costs_240 r0)) : ∀ (F : Nat) (s : z_M) (a2 : Int) (a4 : Int), z_CI s → z_Fr R_X1_costs_240 r0 s → (-9223372036854775808 ≤ a2 ∧ a2 ≤ 9223372036854775807) → (-2147483648 ≤ a4 ∧ a4 ≤ 2147483647) → (2147483647 - a4 < (F : Int)) → z_T (fX1_costs_L5 fu 240 a1 F s a2 a4 k) (P_X1_costs_240 r0) := by
  intro F
  induction F with
  | zero =>
    intro s a2 a4 c f b2 b4 hm
    have u22 := CI_b c (k := 240) (j := 6) bd_240_6
    exfalso; omega
  | succ F ih =>
    intro s a2 a4 c f b2 b4 hm
    refine T_of (fX1_costs_L5.eq_2 ..) ?_
    have u1 := CI_b c (k := 240) (j := 6) bd_240_6
    refine T_if1 (by decide +kernel) ?_
    refine T_leq (fun x2 e3 => ?_)
    have u4 := CI_b c (k := 240) (j := 6) bd_240_6
    refine T_ite (fun h5 => ?_) (fun h5 => ?_)
    · exact hk s a2 c f (by omega)
    · refine T_if1 (by decide +kernel) ?_
      refine T_useI (sf_X1_longOfLine_240 hfu s c a4 (by omega)) (fun v11 s6 hq => ?_)
      obtain ⟨c7, f8, ⟨x10, rfl, b12, b13⟩⟩ := hq
      refine T_vI ?_
      have f9 := z_Fr.tr (R := R_X1_costs_240) f f8 (fun a h => by unfold R_X1_longOfLine_240 at h; unfold R_X1_costs_240; omega)
      have t14 : s6 240 6 = s 240 6 := f8 240 6 (by decide)
      refine T_if1 (by decide +kernel) ?_
      refine T_leq (fun x15 e16 => ?_)
      have u17 := CI_b c7 (k := 240) (j := 6) bd_240_6
      refine T_leq (fun x18 e19 => ?_)
      have w20 := z_wb e19
      refine T_ite (fun h21 => ?_) (fun h21 => ?_)
      · exact sj_X1_costs_240_J38 hfu r0 s6 c7 f9 a1 a4 a2 x10 a1 0 (by omega) (by omega) (by omega) (by omega) (by omega) (by omega) (2147483647 - a4) (by omega) (fun s' v2 v4 c' f' w2 w4 pg => ih s' v2 v4 c' f' w2 w4 (by omega)) hk
      · exact sj_X1_costs_240_J38 hfu r0 s6 c7 f9 a1 a4 a2 x10 a1 1 (by omega) (by omega) (by omega) (by omega) (by omega) (by omega) (2147483647 - a4) (by omega) (fun s' v2 v4 c' f' w2 w4 pg => ih s' v2 v4 c' f' w2 w4 (by omega)) hk
theorem sf_X1_costs_240 {fu : Nat} (hfu : 8589934592 ≤ fu) (r0 : z_M) (c0 : z_CI r0) (a1 : Int) (b1 : -2147483648 ≤ a1 ∧ a1 ≤ 2147483647) : z_T (fX1_costs fu r0 240 a1) (P_X1_costs_240 r0) := by
  refine T_of (fX1_costs.eq_1 ..) ?_
  refine sl_X1_costs_240_L5 hfu r0 a1 (by omega) (fun s1 y4 c2 f3 b5 => ?_) fu r0 0 0 c0 z_Fr.rf (by omega) (by omega) (by omega)
  have u6 := CI_b c2 (k := 240) (j := 6) bd_240_6
  exact T_ret ⟨c2, f3, ⟨y4, rfl, by omega, by omega⟩⟩
abbrev R_X3_longest_258 (a : Int) : Prop := False
abbrev P_X3_longest_258 (r0 : z_M) : z_V → z_M → Prop := fun v s' => z_CI s' ∧ z_Fr R_X3_longest_258 r0 s' ∧ (∃ x, v = vI x ∧ -2147483648 ≤ x ∧ x ≤ 2147483647)
theorem sl_X3_longest_258_L4 {fu : Nat} (hfu : 8589934592 ≤ fu) (r0 : z_M) {k : z_M → Int → z_O} (hk : ∀ (s' : z_M) (v1 : Int), z_CI s' → z_Fr R_X3_longest_258 r0 s' → (-2147483648 ≤ v1 ∧ v1 ≤ 2147483647) → z_T (k s' v1) (P_X3_longest_258 r0)) : ∀ (F : Nat) (s : z_M) (a1 : Int) (a2 : Int), z_CI s → z_Fr R_X3_longest_258 r0 s → (-2147483648 ≤ a1 ∧ a1 ≤ 2147483647) → (-2147483648 ≤ a2 ∧ a2 ≤ 2147483647) → (2147483647 - a2 < (F : Int)) → z_T (fX3_longest_L4 fu 258 F s a1 a2 k) (P_X3_longest_258 r0) := by
  intro F
  induction F with
  | zero =>
    intro s a1 a2 c f b1 b2 hm
    have u17 := CI_b c (k := 240) (j := 6) bd_240_6
    exfalso; omega
  | succ F ih =>
    intro s a1 a2 c f b1 b2 hm
    refine T_of (fX3_longest_L4.eq_2 ..) ?_
    have u1 := CI_b c (k := 240) (j := 6) bd_240_6
    refine T_if1 (by decide +kernel) ?_
    refine T_let 240 (by decide +kernel) ?_
    refine T_if1 (by decide +kernel) ?_
    refine T_leq (fun x2 e3 => ?_)
    have u4 := CI_b c (k := 240) (j := 6) bd_240_6
    refine T_ite (fun h5 => ?_) (fun h5 => ?_)
    · exact hk s a1 c f (by omega)
    · refine T_if1 (by decide +kernel) ?_
      refine T_let 269 (by decide +kernel) ?_
      refine T_if1 (by decide +kernel) ?_
      refine T_get (by decide +kernel) (c := 270) (by decide +kernel) bdr_270 (by decide) c (fun x6 e7 b8 w9 => ?_)
      have l10 : z_ln 269 = 200 := by decide +kernel
      refine T_leq (fun x11 e12 => ?_)
      have w13 := z_maxb a1 x6
      rw [e12] at w13
      refine T_leq (fun x14 e15 => ?_)
      have w16 := z_wb e15
      exact ih s x11 x14 c f (by omega) (by omega) (by omega)
theorem sf_X3_longest_258 {fu : Nat} (hfu : 8589934592 ≤ fu) (r0 : z_M) (c0 : z_CI r0) : z_T (fX3_longest fu r0 258) (P_X3_longest_258 r0) := by
  refine T_of (fX3_longest.eq_1 ..) ?_
  refine sl_X3_longest_258_L4 hfu r0 (fun s1 y4 c2 f3 b5 => ?_) fu r0 0 0 c0 z_Fr.rf (by omega) (by omega) (by omega)
  have u6 := CI_b c2 (k := 240) (j := 6) bd_240_6
  exact T_ret ⟨c2, f3, ⟨y4, rfl, by omega, by omega⟩⟩
abbrev R_X11_told_1 (a : Int) : Prop := (1 ≤ a ∧ a ≤ 1) ∨ (191 ≤ a ∧ a ≤ 244) ∨ (248 ≤ a ∧ a ≤ 248) ∨ (260 ≤ a ∧ a ≤ 295)
abbrev P_X11_told_1 (r0 : z_M) : z_V → z_M → Prop := fun v s' => z_CI s' ∧ z_Fr R_X11_told_1 r0 s' ∧ ((∃ x, v = vL x ∧ -9223372036854775808 ≤ x ∧ x ≤ 9223372036854775807) ∨ v = vX 0 ∨ v = vX 1)
theorem sf_X11_told_1 {fu : Nat} (hfu : 8589934592 ≤ fu) (r0 : z_M) (c0 : z_CI r0) (a1 : Int) (b1 : -2147483648 ≤ a1 ∧ a1 ≤ 2147483647) : z_T (fX11_told fu r0 1 a1) (P_X11_told_1 r0) := by
  refine T_of (fX11_told.eq_1 ..) ?_
  refine T_if1 (by decide +kernel) ?_
  refine T_nw ?_ (fun h1 h2 => ?_)
  · exact T_ret ⟨CI_up c0 bd_1_15 (z_wb rfl).1, z_Fr.up (R := R_X11_told_1) z_Fr.rf (fun a b h => z_up_k h) (by decide), Or.inr (Or.inr rfl)⟩
  refine T_if1 (by decide +kernel) ?_
  refine T_useN (sf_X11_refresh_1 hfu r0 c0) (fun v8 s3 hq => ?_)
  obtain ⟨c4, f5, rfl⟩ := hq
  refine T_vN ?_
  have f6 := z_Fr.tr (R := R_X11_told_1) z_Fr.rf f5 (fun a h => by unfold R_X11_refresh_1 at h; unfold R_X11_told_1; omega)
  have t11 : s3 6 6 = r0 6 6 := f5 6 6 (by decide)
  have t12 : s3 6 7 = r0 6 7 := f5 6 7 (by decide)
  have t13 : s3 33 2 = r0 33 2 := f5 33 2 (by decide)
  have u14 := CI_b c4 (k := 1) (j := 12) bd_1_12
  have u15 := CI_b c4 (k := 191) (j := 16) bd_191_16
  have u16 := CI_b c4 (k := 191) (j := 17) bd_191_17
  have u17 := CI_b c4 (k := 191) (j := 18) bd_191_18
  have u18 := CI_b c4 (k := 240) (j := 6) bd_240_6
  refine T_ite (fun h19 => ?_) (fun h19 => ?_)
  · refine T_if1 (by decide +kernel) ?_
    refine T_let 191 (by decide +kernel) ?_
    refine T_if1 (by decide +kernel) ?_
    refine T_leq (fun x20 e21 => ?_)
    have u22 := CI_b c4 (k := 191) (j := 16) bd_191_16
    exact T_ret ⟨c4, f6, Or.inl (⟨x20, rfl, by omega, by omega⟩)⟩
  · refine T_ite (fun h23 => ?_) (fun h23 => ?_)
    · refine T_if1 (by decide +kernel) ?_
      refine T_let 6 (by decide +kernel) ?_
      refine T_if1 (by decide +kernel) ?_
      refine T_leq (fun x24 e25 => ?_)
      have u26 := CI_b c4 (k := 6) (j := 6) bd_6_6
      exact T_ret ⟨c4, f6, Or.inl (⟨x24, rfl, by omega, by omega⟩)⟩
    · refine T_ite (fun h27 => ?_) (fun h27 => ?_)
      · refine T_if1 (by decide +kernel) ?_
        refine T_let 6 (by decide +kernel) ?_
        refine T_if1 (by decide +kernel) ?_
        refine T_leq (fun x28 e29 => ?_)
        have u30 := CI_b c4 (k := 6) (j := 7) bd_6_7
        exact T_ret ⟨c4, f6, Or.inl (⟨x28, rfl, by omega, by omega⟩)⟩
      · refine T_ite (fun h31 => ?_) (fun h31 => ?_)
        · refine T_if1 (by decide +kernel) ?_
          refine T_let 240 (by decide +kernel) ?_
          refine T_if1 (by decide +kernel) ?_
          refine T_leq (fun x32 e33 => ?_)
          have u34 := CI_b c4 (k := 240) (j := 6) bd_240_6
          exact T_ret ⟨c4, f6, Or.inl (⟨x32, rfl, by omega, by omega⟩)⟩
        · refine T_ite (fun h35 => ?_) (fun h35 => ?_)
          · refine T_if1 (by decide +kernel) ?_
            refine T_let 258 (by decide +kernel) ?_
            refine T_if1 (by decide +kernel) ?_
            refine T_useI (sf_X3_longest_258 hfu s3 c4) (fun v41 s36 hq => ?_)
            obtain ⟨c37, f38, ⟨x40, rfl, b42, b43⟩⟩ := hq
            refine T_vI ?_
            have f39 := z_Fr.tr (R := R_X11_told_1) f6 f38 (fun a h => absurd h not_false)
            have t44 : s36 1 12 = s3 1 12 := f38 1 12 (by decide)
            have t45 : s36 6 6 = s3 6 6 := f38 6 6 (by decide)
            have t46 : s36 6 7 = s3 6 7 := f38 6 7 (by decide)
            have t47 : s36 33 2 = s3 33 2 := f38 33 2 (by decide)
            have t48 : s36 191 16 = s3 191 16 := f38 191 16 (by decide)
            have t49 : s36 191 17 = s3 191 17 := f38 191 17 (by decide)
            have t50 : s36 191 18 = s3 191 18 := f38 191 18 (by decide)
            have t51 : s36 240 6 = s3 240 6 := f38 240 6 (by decide)
            exact T_ret ⟨c37, f39, Or.inl (⟨x40, rfl, by omega, by omega⟩)⟩
          · refine T_ite (fun h52 => ?_) (fun h52 => ?_)
            · refine T_if1 (by decide +kernel) ?_
              refine T_let 240 (by decide +kernel) ?_
              refine T_if1 (by decide +kernel) ?_
              refine T_let 2 (by decide +kernel) ?_
              refine T_if1 (by decide +kernel) ?_
              refine T_get (by decide +kernel) (c := 3) (by decide +kernel) bdr_3 (by decide) c4 (fun x53 e54 b55 w56 => ?_)
              have l57 : z_ln 2 = 9 := by decide +kernel
              refine T_if1 (by decide +kernel) ?_
              refine T_useL (sf_X1_costs_240 hfu s3 c4 x53 (by omega)) (fun v63 s58 hq => ?_)
              obtain ⟨c59, f60, ⟨x62, rfl, b64, b65⟩⟩ := hq
              refine T_vL ?_
              have f61 := z_Fr.tr (R := R_X11_told_1) f6 f60 (fun a h => by unfold R_X1_costs_240 at h; unfold R_X11_told_1; omega)
              have t66 : s58 1 12 = s3 1 12 := f60 1 12 (by decide)
              have t67 : s58 6 6 = s3 6 6 := f60 6 6 (by decide)
              have t68 : s58 6 7 = s3 6 7 := f60 6 7 (by decide)
              have t69 : s58 33 2 = s3 33 2 := f60 33 2 (by decide)
              have t70 : s58 191 16 = s3 191 16 := f60 191 16 (by decide)
              have t71 : s58 191 17 = s3 191 17 := f60 191 17 (by decide)
              have t72 : s58 191 18 = s3 191 18 := f60 191 18 (by decide)
              have t73 : s58 240 6 = s3 240 6 := f60 240 6 (by decide)
              exact T_ret ⟨c59, f61, Or.inl (⟨x62, rfl, by omega, by omega⟩)⟩
            · refine T_ite (fun h74 => ?_) (fun h74 => ?_)
              · refine T_if1 (by decide +kernel) ?_
                refine T_let 2 (by decide +kernel) ?_
                refine T_leq (fun x75 e76 => ?_)
                have w77 := z_wr e76
                refine T_if1 (by decide +kernel) ?_
                refine T_get (by decide +kernel) (c := 3) (by decide +kernel) bdr_3 (by decide) c4 (fun x78 e79 b80 w81 => ?_)
                have l82 : z_ln 2 = 9 := by decide +kernel
                exact T_ret ⟨c4, f6, Or.inl (⟨x78, rfl, by omega, by omega⟩)⟩
              · refine T_ite (fun h83 => ?_) (fun h83 => ?_)
                · refine T_if1 (by decide +kernel) ?_
                  refine T_let 2 (by decide +kernel) ?_
                  refine T_leq (fun x84 e85 => ?_)
                  have w86 := z_wr e85
                  refine T_if1 (by decide +kernel) ?_
                  refine T_get (by decide +kernel) (c := 3) (by decide +kernel) bdr_3 (by decide) c4 (fun x87 e88 b89 w90 => ?_)
                  have l91 : z_ln 2 = 9 := by decide +kernel
                  exact T_ret ⟨c4, f6, Or.inl (⟨x87, rfl, by omega, by omega⟩)⟩
                · refine T_ite (fun h92 => ?_) (fun h92 => ?_)
                  · refine T_if1 (by decide +kernel) ?_
                    refine T_let 2 (by decide +kernel) ?_
                    refine T_leq (fun x93 e94 => ?_)
                    have w95 := z_wr e94
                    refine T_if1 (by decide +kernel) ?_
                    refine T_get (by decide +kernel) (c := 3) (by decide +kernel) bdr_3 (by decide) c4 (fun x96 e97 b98 w99 => ?_)
                    have l100 : z_ln 2 = 9 := by decide +kernel
                    exact T_ret ⟨c4, f6, Or.inl (⟨x96, rfl, by omega, by omega⟩)⟩
                  · refine T_ite (fun h101 => ?_) (fun h101 => ?_)
                    · refine T_if1 (by decide +kernel) ?_
                      refine T_let 2 (by decide +kernel) ?_
                      refine T_leq (fun x102 e103 => ?_)
                      have w104 := z_wr e103
                      refine T_if1 (by decide +kernel) ?_
                      refine T_get (by decide +kernel) (c := 3) (by decide +kernel) bdr_3 (by decide) c4 (fun x105 e106 b107 w108 => ?_)
                      have l109 : z_ln 2 = 9 := by decide +kernel
                      exact T_ret ⟨c4, f6, Or.inl (⟨x105, rfl, by omega, by omega⟩)⟩
                    · refine T_ite (fun h110 => ?_) (fun h110 => ?_)
                      · refine T_if1 (by decide +kernel) ?_
                        refine T_let 2 (by decide +kernel) ?_
                        refine T_leq (fun x111 e112 => ?_)
                        have w113 := z_wr e112
                        refine T_if1 (by decide +kernel) ?_
                        refine T_get (by decide +kernel) (c := 3) (by decide +kernel) bdr_3 (by decide) c4 (fun x114 e115 b116 w117 => ?_)
                        have l118 : z_ln 2 = 9 := by decide +kernel
                        exact T_ret ⟨c4, f6, Or.inl (⟨x114, rfl, by omega, by omega⟩)⟩
                      · refine T_ite (fun h119 => ?_) (fun h119 => ?_)
                        · refine T_if1 (by decide +kernel) ?_
                          refine T_let 2 (by decide +kernel) ?_
                          refine T_leq (fun x120 e121 => ?_)
                          have w122 := z_wr e121
                          refine T_if1 (by decide +kernel) ?_
                          refine T_get (by decide +kernel) (c := 3) (by decide +kernel) bdr_3 (by decide) c4 (fun x123 e124 b125 w126 => ?_)
                          have l127 : z_ln 2 = 9 := by decide +kernel
                          exact T_ret ⟨c4, f6, Or.inl (⟨x123, rfl, by omega, by omega⟩)⟩
                        · refine T_ite (fun h128 => ?_) (fun h128 => ?_)
                          · refine T_if1 (by decide +kernel) ?_
                            refine T_let 2 (by decide +kernel) ?_
                            refine T_leq (fun x129 e130 => ?_)
                            have w131 := z_wr e130
                            refine T_if1 (by decide +kernel) ?_
                            refine T_get (by decide +kernel) (c := 3) (by decide +kernel) bdr_3 (by decide) c4 (fun x132 e133 b134 w135 => ?_)
                            have l136 : z_ln 2 = 9 := by decide +kernel
                            exact T_ret ⟨c4, f6, Or.inl (⟨x132, rfl, by omega, by omega⟩)⟩
                          · refine T_ite (fun h137 => ?_) (fun h137 => ?_)
                            · refine T_if1 (by decide +kernel) ?_
                              refine T_let 33 (by decide +kernel) ?_
                              refine T_if1 (by decide +kernel) ?_
                              refine T_leq (fun x138 e139 => ?_)
                              have u140 := CI_b c4 (k := 33) (j := 2) bd_33_2
                              exact T_ret ⟨c4, f6, Or.inl (⟨x138, rfl, by omega, by omega⟩)⟩
                            · refine T_ite (fun h141 => ?_) (fun h141 => ?_)
                              · refine T_if1 (by decide +kernel) ?_
                                refine T_leq (fun x142 e143 => ?_)
                                have u144 := CI_b c4 (k := 1) (j := 12) bd_1_12
                                exact T_ret ⟨c4, f6, Or.inl (⟨x142, rfl, by omega, by omega⟩)⟩
                              · refine T_ite (fun h145 => ?_) (fun h145 => ?_)
                                · refine T_if1 (by decide +kernel) ?_
                                  refine T_let 240 (by decide +kernel) ?_
                                  refine T_if1 (by decide +kernel) ?_
                                  refine T_let 2 (by decide +kernel) ?_
                                  refine T_if1 (by decide +kernel) ?_
                                  refine T_get (by decide +kernel) (c := 3) (by decide +kernel) bdr_3 (by decide) c4 (fun x146 e147 b148 w149 => ?_)
                                  have l150 : z_ln 2 = 9 := by decide +kernel
                                  refine T_if1 (by decide +kernel) ?_
                                  refine T_useI (sf_X1_tooLong_240 hfu s3 c4 x146 (by omega)) (fun v156 s151 hq => ?_)
                                  obtain ⟨c152, f153, ⟨x155, rfl, b157, b158⟩⟩ := hq
                                  refine T_vI ?_
                                  have f154 := z_Fr.tr (R := R_X11_told_1) f6 f153 (fun a h => by unfold R_X1_tooLong_240 at h; unfold R_X11_told_1; omega)
                                  have t159 : s151 1 12 = s3 1 12 := f153 1 12 (by decide)
                                  have t160 : s151 6 6 = s3 6 6 := f153 6 6 (by decide)
                                  have t161 : s151 6 7 = s3 6 7 := f153 6 7 (by decide)
                                  have t162 : s151 33 2 = s3 33 2 := f153 33 2 (by decide)
                                  have t163 : s151 191 16 = s3 191 16 := f153 191 16 (by decide)
                                  have t164 : s151 191 17 = s3 191 17 := f153 191 17 (by decide)
                                  have t165 : s151 191 18 = s3 191 18 := f153 191 18 (by decide)
                                  have t166 : s151 240 6 = s3 240 6 := f153 240 6 (by decide)
                                  exact T_ret ⟨c152, f154, Or.inl (⟨x155, rfl, by omega, by omega⟩)⟩
                                · refine T_ite (fun h167 => ?_) (fun h167 => ?_)
                                  · refine T_if1 (by decide +kernel) ?_
                                    refine T_let 2 (by decide +kernel) ?_
                                    refine T_if1 (by decide +kernel) ?_
                                    refine T_get (by decide +kernel) (c := 3) (by decide +kernel) bdr_3 (by decide) c4 (fun x168 e169 b170 w171 => ?_)
                                    have l172 : z_ln 2 = 9 := by decide +kernel
                                    exact T_ret ⟨c4, f6, Or.inl (⟨x168, rfl, by omega, by omega⟩)⟩
                                  · refine T_ite (fun h173 => ?_) (fun h173 => ?_)
                                    · refine T_if1 (by decide +kernel) ?_
                                      refine T_let 2 (by decide +kernel) ?_
                                      refine T_if1 (by decide +kernel) ?_
                                      refine T_get (by decide +kernel) (c := 3) (by decide +kernel) bdr_3 (by decide) c4 (fun x174 e175 b176 w177 => ?_)
                                      have l178 : z_ln 2 = 9 := by decide +kernel
                                      exact T_ret ⟨c4, f6, Or.inl (⟨x174, rfl, by omega, by omega⟩)⟩
                                    · refine T_ite (fun h179 => ?_) (fun h179 => ?_)
                                      · refine T_if1 (by decide +kernel) ?_
                                        refine T_let 191 (by decide +kernel) ?_
                                        refine T_if1 (by decide +kernel) ?_
                                        refine T_leq (fun x180 e181 => ?_)
                                        have u182 := CI_b c4 (k := 191) (j := 17) bd_191_17
                                        exact T_ret ⟨c4, f6, Or.inl (⟨x180, rfl, by omega, by omega⟩)⟩
                                      · refine T_ite (fun h183 => ?_) (fun h183 => ?_)
                                        · refine T_if1 (by decide +kernel) ?_
                                          refine T_let 191 (by decide +kernel) ?_
                                          refine T_if1 (by decide +kernel) ?_
                                          refine T_leq (fun x184 e185 => ?_)
                                          have u186 := CI_b c4 (k := 191) (j := 18) bd_191_18
                                          exact T_ret ⟨c4, f6, Or.inl (⟨x184, rfl, by omega, by omega⟩)⟩
                                        · refine T_if1 (by decide +kernel) ?_
                                          refine T_let 2 (by decide +kernel) ?_
                                          refine T_leq (fun x187 e188 => ?_)
                                          have w189 := z_wr e188
                                          refine T_if1 (by decide +kernel) ?_
                                          refine T_get (by decide +kernel) (c := 3) (by decide +kernel) bdr_3 (by decide) c4 (fun x190 e191 b192 w193 => ?_)
                                          have l194 : z_ln 2 = 9 := by decide +kernel
                                          exact T_ret ⟨c4, f6, Or.inl (⟨x190, rfl, by omega, by omega⟩)⟩
abbrev R_X11_unit_1 (a : Int) : Prop := (1 ≤ a ∧ a ≤ 1) ∨ (191 ≤ a ∧ a ≤ 244) ∨ (248 ≤ a ∧ a ≤ 248) ∨ (260 ≤ a ∧ a ≤ 295)
abbrev P_X11_unit_1 (r0 : z_M) : z_V → z_M → Prop := fun v s' => z_CI s' ∧ z_Fr R_X11_unit_1 r0 s' ∧ ((∃ x, v = vI x ∧ -2147483648 ≤ x ∧ x ≤ 2147483647) ∨ v = vX 0 ∨ v = vX 1)
theorem sf_X11_unit_1 {fu : Nat} (hfu : 8589934592 ≤ fu) (r0 : z_M) (c0 : z_CI r0) (a1 : Int) (a2 : Int) (b1 : -2147483648 ≤ a1 ∧ a1 ≤ 2147483647) (b2 : -2147483648 ≤ a2 ∧ a2 ≤ 2147483647) : z_T (fX11_unit fu r0 1 a1 a2) (P_X11_unit_1 r0) := by
  refine T_of (fX11_unit.eq_1 ..) ?_
  refine T_if1 (by decide +kernel) ?_
  refine T_useN (sf_X11_refresh_1 hfu r0 c0) (fun v6 s1 hq => ?_)
  obtain ⟨c2, f3, rfl⟩ := hq
  refine T_vN ?_
  have f4 := z_Fr.tr (R := R_X11_unit_1) z_Fr.rf f3 (fun a h => by unfold R_X11_refresh_1 at h; unfold R_X11_unit_1; omega)
  have u9 := CI_b c2 (k := 191) (j := 16) bd_191_16
  refine T_if1 (by decide +kernel) ?_
  refine T_let 191 (by decide +kernel) ?_
  refine T_if1 (by decide +kernel) ?_
  refine T_leq (fun x10 e11 => ?_)
  have u12 := CI_b c2 (k := 191) (j := 16) bd_191_16
  refine T_if1 (by decide +kernel) ?_
  refine T_ne ?_ (fun h13 h14 => ?_)
  · exact T_ret ⟨CI_up c2 bd_1_14 (z_wb rfl).1, z_Fr.up (R := R_X11_unit_1) f4 (fun a b h => z_up_k h) (by decide), Or.inr (Or.inl rfl)⟩
  refine T_if1 (by decide +kernel) ?_
  refine T_nw ?_ (fun h15 h16 => ?_)
  · exact T_ret ⟨CI_up c2 bd_1_15 (z_wb rfl).1, z_Fr.up (R := R_X11_unit_1) f4 (fun a b h => z_up_k h) (by decide), Or.inr (Or.inr rfl)⟩
  refine T_ite (fun h17 => ?_) (fun h17 => ?_)
  · refine T_if1 (by decide +kernel) ?_
    refine T_let 191 (by decide +kernel) ?_
    refine T_if1 (by decide +kernel) ?_
    refine T_let 192 (by decide +kernel) ?_
    refine T_if1 (by decide +kernel) ?_
    refine T_get (by decide +kernel) (c := 193) (by decide +kernel) bdr_193 (by decide) c2 (fun x18 e19 b20 w21 => ?_)
    have l22 : z_ln 192 = 200 := by decide +kernel
    exact T_ret ⟨c2, f4, Or.inl (⟨x18, rfl, by omega, by omega⟩)⟩
  · refine T_ite (fun h23 => ?_) (fun h23 => ?_)
    · refine T_if1 (by decide +kernel) ?_
      refine T_let 191 (by decide +kernel) ?_
      refine T_if1 (by decide +kernel) ?_
      refine T_let 194 (by decide +kernel) ?_
      refine T_if1 (by decide +kernel) ?_
      refine T_get (by decide +kernel) (c := 195) (by decide +kernel) bdr_195 (by decide) c2 (fun x24 e25 b26 w27 => ?_)
      have l28 : z_ln 194 = 200 := by decide +kernel
      exact T_ret ⟨c2, f4, Or.inl (⟨x24, rfl, by omega, by omega⟩)⟩
    · refine T_ite (fun h29 => ?_) (fun h29 => ?_)
      · refine T_if1 (by decide +kernel) ?_
        refine T_let 191 (by decide +kernel) ?_
        refine T_if1 (by decide +kernel) ?_
        refine T_let 196 (by decide +kernel) ?_
        refine T_if1 (by decide +kernel) ?_
        refine T_get (by decide +kernel) (c := 197) (by decide +kernel) bdr_197 (by decide) c2 (fun x30 e31 b32 w33 => ?_)
        have l34 : z_ln 196 = 200 := by decide +kernel
        exact T_ret ⟨c2, f4, Or.inl (⟨x30, rfl, by omega, by omega⟩)⟩
      · refine T_ite (fun h35 => ?_) (fun h35 => ?_)
        · refine T_if1 (by decide +kernel) ?_
          refine T_let 258 (by decide +kernel) ?_
          refine T_if1 (by decide +kernel) ?_
          refine T_let 263 (by decide +kernel) ?_
          refine T_if1 (by decide +kernel) ?_
          refine T_get (by decide +kernel) (c := 264) (by decide +kernel) bdr_264 (by decide) c2 (fun x36 e37 b38 w39 => ?_)
          have l40 : z_ln 263 = 200 := by decide +kernel
          exact T_ret ⟨c2, f4, Or.inl (⟨x36, rfl, by omega, by omega⟩)⟩
        · refine T_ite (fun h41 => ?_) (fun h41 => ?_)
          · refine T_if1 (by decide +kernel) ?_
            refine T_let 258 (by decide +kernel) ?_
            refine T_if1 (by decide +kernel) ?_
            refine T_let 259 (by decide +kernel) ?_
            refine T_if1 (by decide +kernel) ?_
            refine T_get (by decide +kernel) (c := 260) (by decide +kernel) bdr_260 (by decide) c2 (fun x42 e43 b44 w45 => ?_)
            have l46 : z_ln 259 = 200 := by decide +kernel
            exact T_ret ⟨c2, f4, Or.inl (⟨x42, rfl, by omega, by omega⟩)⟩
          · refine T_ite (fun h47 => ?_) (fun h47 => ?_)
            · refine T_if1 (by decide +kernel) ?_
              refine T_let 258 (by decide +kernel) ?_
              refine T_if1 (by decide +kernel) ?_
              refine T_let 261 (by decide +kernel) ?_
              refine T_if1 (by decide +kernel) ?_
              refine T_get (by decide +kernel) (c := 262) (by decide +kernel) bdr_262 (by decide) c2 (fun x48 e49 b50 w51 => ?_)
              have l52 : z_ln 261 = 200 := by decide +kernel
              exact T_ret ⟨c2, f4, Or.inl (⟨x48, rfl, by omega, by omega⟩)⟩
            · refine T_ite (fun h53 => ?_) (fun h53 => ?_)
              · refine T_if1 (by decide +kernel) ?_
                refine T_let 191 (by decide +kernel) ?_
                refine T_if1 (by decide +kernel) ?_
                refine T_let 200 (by decide +kernel) ?_
                refine T_if1 (by decide +kernel) ?_
                refine T_get (by decide +kernel) (c := 201) (by decide +kernel) bdr_201 (by decide) c2 (fun x54 e55 b56 w57 => ?_)
                have l58 : z_ln 200 = 200 := by decide +kernel
                exact T_ret ⟨c2, f4, Or.inl (⟨x54, rfl, by omega, by omega⟩)⟩
              · refine T_if1 (by decide +kernel) ?_
                refine T_let 258 (by decide +kernel) ?_
                refine T_if1 (by decide +kernel) ?_
                refine T_let 265 (by decide +kernel) ?_
                refine T_if1 (by decide +kernel) ?_
                refine T_get (by decide +kernel) (c := 266) (by decide +kernel) bdr_266 (by decide) c2 (fun x59 e60 b61 w62 => ?_)
                have l63 : z_ln 265 = 200 := by decide +kernel
                exact T_ret ⟨c2, f4, Or.inl (⟨x59, rfl, by omega, by omega⟩)⟩
abbrev R_X11_sign_1 (a : Int) : Prop := (1 ≤ a ∧ a ≤ 1) ∨ (191 ≤ a ∧ a ≤ 244) ∨ (248 ≤ a ∧ a ≤ 248) ∨ (260 ≤ a ∧ a ≤ 295)
abbrev P_X11_sign_1 (r0 : z_M) : z_V → z_M → Prop := fun v s' => z_CI s' ∧ z_Fr R_X11_sign_1 r0 s' ∧ ((∃ x, v = vI x ∧ -2147483648 ≤ x ∧ x ≤ 2147483647) ∨ v = vX 0 ∨ v = vX 1)
theorem sf_X11_sign_1 {fu : Nat} (hfu : 8589934592 ≤ fu) (r0 : z_M) (c0 : z_CI r0) (a1 : Int) (a2 : Int) (b1 : -2147483648 ≤ a1 ∧ a1 ≤ 2147483647) (b2 : -2147483648 ≤ a2 ∧ a2 ≤ 2147483647) : z_T (fX11_sign fu r0 1 a1 a2) (P_X11_sign_1 r0) := by
  refine T_of (fX11_sign.eq_1 ..) ?_
  refine T_if1 (by decide +kernel) ?_
  refine T_useN (sf_X11_refresh_1 hfu r0 c0) (fun v6 s1 hq => ?_)
  obtain ⟨c2, f3, rfl⟩ := hq
  refine T_vN ?_
  have f4 := z_Fr.tr (R := R_X11_sign_1) z_Fr.rf f3 (fun a h => by unfold R_X11_refresh_1 at h; unfold R_X11_sign_1; omega)
  have t9 : s1 6 6 = r0 6 6 := f3 6 6 (by decide)
  refine T_if1 (by decide +kernel) ?_
  refine T_let 6 (by decide +kernel) ?_
  refine T_if1 (by decide +kernel) ?_
  refine T_leq (fun x10 e11 => ?_)
  have u12 := CI_b c2 (k := 6) (j := 6) bd_6_6
  refine T_if1 (by decide +kernel) ?_
  refine T_ne ?_ (fun h13 h14 => ?_)
  · exact T_ret ⟨CI_up c2 bd_1_14 (z_wb rfl).1, z_Fr.up (R := R_X11_sign_1) f4 (fun a b h => z_up_k h) (by decide), Or.inr (Or.inl rfl)⟩
  refine T_if1 (by decide +kernel) ?_
  refine T_nw ?_ (fun h15 h16 => ?_)
  · exact T_ret ⟨CI_up c2 bd_1_15 (z_wb rfl).1, z_Fr.up (R := R_X11_sign_1) f4 (fun a b h => z_up_k h) (by decide), Or.inr (Or.inr rfl)⟩
  refine T_ite (fun h17 => ?_) (fun h17 => ?_)
  · refine T_if1 (by decide +kernel) ?_
    refine T_let 6 (by decide +kernel) ?_
    refine T_if1 (by decide +kernel) ?_
    refine T_let 7 (by decide +kernel) ?_
    refine T_if1 (by decide +kernel) ?_
    refine T_get (by decide +kernel) (c := 8) (by decide +kernel) bdr_8 (by decide) c2 (fun x18 e19 b20 w21 => ?_)
    have l22 : z_ln 7 = 200 := by decide +kernel
    exact T_ret ⟨c2, f4, Or.inl (⟨x18, rfl, by omega, by omega⟩)⟩
  · refine T_ite (fun h23 => ?_) (fun h23 => ?_)
    · refine T_if1 (by decide +kernel) ?_
      refine T_let 191 (by decide +kernel) ?_
      refine T_if1 (by decide +kernel) ?_
      refine T_let 214 (by decide +kernel) ?_
      refine T_if1 (by decide +kernel) ?_
      refine T_get (by decide +kernel) (c := 215) (by decide +kernel) bdr_215 (by decide) c2 (fun x24 e25 b26 w27 => ?_)
      have l28 : z_ln 214 = 200 := by decide +kernel
      exact T_ret ⟨c2, f4, Or.inl (⟨x24, rfl, by omega, by omega⟩)⟩
    · refine T_ite (fun h29 => ?_) (fun h29 => ?_)
      · refine T_if1 (by decide +kernel) ?_
        refine T_let 258 (by decide +kernel) ?_
        refine T_if1 (by decide +kernel) ?_
        refine T_let 259 (by decide +kernel) ?_
        refine T_if1 (by decide +kernel) ?_
        refine T_let 191 (by decide +kernel) ?_
        refine T_if1 (by decide +kernel) ?_
        refine T_let 214 (by decide +kernel) ?_
        refine T_if1 (by decide +kernel) ?_
        refine T_get (by decide +kernel) (c := 215) (by decide +kernel) bdr_215 (by decide) c2 (fun x30 e31 b32 w33 => ?_)
        have l34 : z_ln 214 = 200 := by decide +kernel
        refine T_if1 (by decide +kernel) ?_
        refine T_get (by decide +kernel) (c := 260) (by decide +kernel) bdr_260 (by decide) c2 (fun x35 e36 b37 w38 => ?_)
        have l39 : z_ln 259 = 200 := by decide +kernel
        exact T_ret ⟨c2, f4, Or.inl (⟨x35, rfl, by omega, by omega⟩)⟩
      · refine T_ite (fun h40 => ?_) (fun h40 => ?_)
        · refine T_if1 (by decide +kernel) ?_
          refine T_let 258 (by decide +kernel) ?_
          refine T_if1 (by decide +kernel) ?_
          refine T_let 267 (by decide +kernel) ?_
          refine T_if1 (by decide +kernel) ?_
          refine T_get (by decide +kernel) (c := 268) (by decide +kernel) bdr_268 (by decide) c2 (fun x41 e42 b43 w44 => ?_)
          have l45 : z_ln 267 = 200 := by decide +kernel
          exact T_ret ⟨c2, f4, Or.inl (⟨x41, rfl, by omega, by omega⟩)⟩
        · refine T_ite (fun h46 => ?_) (fun h46 => ?_)
          · refine T_if1 (by decide +kernel) ?_
            refine T_let 191 (by decide +kernel) ?_
            refine T_if1 (by decide +kernel) ?_
            refine T_let 218 (by decide +kernel) ?_
            refine T_if1 (by decide +kernel) ?_
            refine T_get (by decide +kernel) (c := 219) (by decide +kernel) bdr_219 (by decide) c2 (fun x47 e48 b49 w50 => ?_)
            have l51 : z_ln 218 = 200 := by decide +kernel
            exact T_ret ⟨c2, f4, Or.inl (⟨x47, rfl, by omega, by omega⟩)⟩
          · refine T_ite (fun h52 => ?_) (fun h52 => ?_)
            · refine T_if1 (by decide +kernel) ?_
              refine T_let 191 (by decide +kernel) ?_
              refine T_if1 (by decide +kernel) ?_
              refine T_useI (sf_X10_markOf_191 hfu s1 c2 a1 0 (by omega) (by omega)) (fun v58 s53 hq => ?_)
              obtain ⟨c54, f55, ⟨x57, rfl, b59, b60⟩⟩ := hq
              refine T_vI ?_
              have f56 := z_Fr.tr (R := R_X11_sign_1) f4 f55 (fun a h => absurd h not_false)
              have t61 : s53 6 6 = s1 6 6 := f55 6 6 (by decide)
              exact T_ret ⟨c54, f56, Or.inl (⟨x57, rfl, by omega, by omega⟩)⟩
            · refine T_if1 (by decide +kernel) ?_
              refine T_let 191 (by decide +kernel) ?_
              refine T_if1 (by decide +kernel) ?_
              refine T_useI (sf_X10_markOf_191 hfu s1 c2 a1 1 (by omega) (by omega)) (fun v67 s62 hq => ?_)
              obtain ⟨c63, f64, ⟨x66, rfl, b68, b69⟩⟩ := hq
              refine T_vI ?_
              have f65 := z_Fr.tr (R := R_X11_sign_1) f4 f64 (fun a h => absurd h not_false)
              have t70 : s62 6 6 = s1 6 6 := f64 6 6 (by decide)
              exact T_ret ⟨c63, f65, Or.inl (⟨x66, rfl, by omega, by omega⟩)⟩
abbrev R_X11_line_1 (a : Int) : Prop := (1 ≤ a ∧ a ≤ 1) ∨ (191 ≤ a ∧ a ≤ 244) ∨ (248 ≤ a ∧ a ≤ 248) ∨ (260 ≤ a ∧ a ≤ 295)
abbrev P_X11_line_1 (r0 : z_M) : z_V → z_M → Prop := fun v s' => z_CI s' ∧ z_Fr R_X11_line_1 r0 s' ∧ ((∃ x, v = vI x ∧ -2147483648 ≤ x ∧ x ≤ 2147483647) ∨ v = vX 0 ∨ v = vX 1)
theorem sf_X11_line_1 {fu : Nat} (hfu : 8589934592 ≤ fu) (r0 : z_M) (c0 : z_CI r0) (a1 : Int) (a2 : Int) (b1 : -2147483648 ≤ a1 ∧ a1 ≤ 2147483647) (b2 : -2147483648 ≤ a2 ∧ a2 ≤ 2147483647) : z_T (fX11_line fu r0 1 a1 a2) (P_X11_line_1 r0) := by
  refine T_of (fX11_line.eq_1 ..) ?_
  refine T_if1 (by decide +kernel) ?_
  refine T_useN (sf_X11_refresh_1 hfu r0 c0) (fun v6 s1 hq => ?_)
  obtain ⟨c2, f3, rfl⟩ := hq
  refine T_vN ?_
  have f4 := z_Fr.tr (R := R_X11_line_1) z_Fr.rf f3 (fun a h => by unfold R_X11_refresh_1 at h; unfold R_X11_line_1; omega)
  have u9 := CI_b c2 (k := 240) (j := 6) bd_240_6
  refine T_if1 (by decide +kernel) ?_
  refine T_let 240 (by decide +kernel) ?_
  refine T_if1 (by decide +kernel) ?_
  refine T_leq (fun x10 e11 => ?_)
  have u12 := CI_b c2 (k := 240) (j := 6) bd_240_6
  refine T_if1 (by decide +kernel) ?_
  refine T_ne ?_ (fun h13 h14 => ?_)
  · exact T_ret ⟨CI_up c2 bd_1_14 (z_wb rfl).1, z_Fr.up (R := R_X11_line_1) f4 (fun a b h => z_up_k h) (by decide), Or.inr (Or.inl rfl)⟩
  refine T_if1 (by decide +kernel) ?_
  refine T_nw ?_ (fun h15 h16 => ?_)
  · exact T_ret ⟨CI_up c2 bd_1_15 (z_wb rfl).1, z_Fr.up (R := R_X11_line_1) f4 (fun a b h => z_up_k h) (by decide), Or.inr (Or.inr rfl)⟩
  refine T_ite (fun h17 => ?_) (fun h17 => ?_)
  · refine T_if1 (by decide +kernel) ?_
    refine T_let 240 (by decide +kernel) ?_
    refine T_if1 (by decide +kernel) ?_
    refine T_let 247 (by decide +kernel) ?_
    refine T_if1 (by decide +kernel) ?_
    refine T_get (by decide +kernel) (c := 248) (by decide +kernel) bdr_248 (by decide) c2 (fun x18 e19 b20 w21 => ?_)
    have l22 : z_ln 247 = 201 := by decide +kernel
    exact T_ret ⟨c2, f4, Or.inl (⟨x18, rfl, by omega, by omega⟩)⟩
  · refine T_ite (fun h23 => ?_) (fun h23 => ?_)
    · refine T_if1 (by decide +kernel) ?_
      refine T_let 240 (by decide +kernel) ?_
      refine T_if1 (by decide +kernel) ?_
      refine T_let 247 (by decide +kernel) ?_
      refine T_leq (fun x24 e25 => ?_)
      have w26 := z_wr e25
      refine T_if1 (by decide +kernel) ?_
      refine T_get (by decide +kernel) (c := 248) (by decide +kernel) bdr_248 (by decide) c2 (fun x27 e28 b29 w30 => ?_)
      have l31 : z_ln 247 = 201 := by decide +kernel
      refine T_if1 (by decide +kernel) ?_
      refine T_let 240 (by decide +kernel) ?_
      refine T_if1 (by decide +kernel) ?_
      refine T_let 247 (by decide +kernel) ?_
      refine T_if1 (by decide +kernel) ?_
      refine T_get (by decide +kernel) (c := 248) (by decide +kernel) bdr_248 (by decide) c2 (fun x32 e33 b34 w35 => ?_)
      have l36 : z_ln 247 = 201 := by decide +kernel
      refine T_leq (fun x37 e38 => ?_)
      have w39 := z_wr e38
      exact T_ret ⟨c2, f4, Or.inl (⟨x37, rfl, by omega, by omega⟩)⟩
    · refine T_ite (fun h40 => ?_) (fun h40 => ?_)
      · refine T_if1 (by decide +kernel) ?_
        refine T_let 258 (by decide +kernel) ?_
        refine T_if1 (by decide +kernel) ?_
        refine T_let 269 (by decide +kernel) ?_
        refine T_if1 (by decide +kernel) ?_
        refine T_get (by decide +kernel) (c := 270) (by decide +kernel) bdr_270 (by decide) c2 (fun x41 e42 b43 w44 => ?_)
        have l45 : z_ln 269 = 200 := by decide +kernel
        exact T_ret ⟨c2, f4, Or.inl (⟨x41, rfl, by omega, by omega⟩)⟩
      · refine T_ite (fun h46 => ?_) (fun h46 => ?_)
        · refine T_if1 (by decide +kernel) ?_
          refine T_let 2 (by decide +kernel) ?_
          refine T_if1 (by decide +kernel) ?_
          refine T_get (by decide +kernel) (c := 3) (by decide +kernel) bdr_3 (by decide) c2 (fun x47 e48 b49 w50 => ?_)
          have l51 : z_ln 2 = 9 := by decide +kernel
          refine T_if1 (by decide +kernel) ?_
          refine T_let 258 (by decide +kernel) ?_
          refine T_if1 (by decide +kernel) ?_
          refine T_let 269 (by decide +kernel) ?_
          refine T_if1 (by decide +kernel) ?_
          refine T_get (by decide +kernel) (c := 270) (by decide +kernel) bdr_270 (by decide) c2 (fun x52 e53 b54 w55 => ?_)
          have l56 : z_ln 269 = 200 := by decide +kernel
          refine T_leq (fun x57 e58 => ?_)
          have w59 := z_wr e58
          exact T_ret ⟨c2, f4, Or.inl (⟨x57, rfl, by omega, by omega⟩)⟩
        · refine T_ite (fun h60 => ?_) (fun h60 => ?_)
          · refine T_if1 (by decide +kernel) ?_
            refine T_let 258 (by decide +kernel) ?_
            refine T_if1 (by decide +kernel) ?_
            refine T_let 271 (by decide +kernel) ?_
            refine T_if1 (by decide +kernel) ?_
            refine T_get (by decide +kernel) (c := 272) (by decide +kernel) bdr_272 (by decide) c2 (fun x61 e62 b63 w64 => ?_)
            have l65 : z_ln 271 = 200 := by decide +kernel
            exact T_ret ⟨c2, f4, Or.inl (⟨x61, rfl, by omega, by omega⟩)⟩
          · refine T_ite (fun h66 => ?_) (fun h66 => ?_)
            · refine T_if1 (by decide +kernel) ?_
              refine T_let 258 (by decide +kernel) ?_
              refine T_if1 (by decide +kernel) ?_
              refine T_let 277 (by decide +kernel) ?_
              refine T_leq (fun x67 e68 => ?_)
              have w69 := z_wr e68
              refine T_if1 (by decide +kernel) ?_
              refine T_get (by decide +kernel) (c := 278) (by decide +kernel) bdr_278 (by decide) c2 (fun x70 e71 b72 w73 => ?_)
              have l74 : z_ln 277 = 201 := by decide +kernel
              refine T_if1 (by decide +kernel) ?_
              refine T_let 258 (by decide +kernel) ?_
              refine T_if1 (by decide +kernel) ?_
              refine T_let 277 (by decide +kernel) ?_
              refine T_if1 (by decide +kernel) ?_
              refine T_get (by decide +kernel) (c := 278) (by decide +kernel) bdr_278 (by decide) c2 (fun x75 e76 b77 w78 => ?_)
              have l79 : z_ln 277 = 201 := by decide +kernel
              refine T_leq (fun x80 e81 => ?_)
              have w82 := z_wr e81
              exact T_ret ⟨c2, f4, Or.inl (⟨x80, rfl, by omega, by omega⟩)⟩
            · refine T_ite (fun h83 => ?_) (fun h83 => ?_)
              · refine T_if1 (by decide +kernel) ?_
                refine T_let 258 (by decide +kernel) ?_
                refine T_if1 (by decide +kernel) ?_
                refine T_let 273 (by decide +kernel) ?_
                refine T_if1 (by decide +kernel) ?_
                refine T_get (by decide +kernel) (c := 274) (by decide +kernel) bdr_274 (by decide) c2 (fun x84 e85 b86 w87 => ?_)
                have l88 : z_ln 273 = 200 := by decide +kernel
                exact T_ret ⟨c2, f4, Or.inl (⟨x84, rfl, by omega, by omega⟩)⟩
              · refine T_if1 (by decide +kernel) ?_
                refine T_let 258 (by decide +kernel) ?_
                refine T_if1 (by decide +kernel) ?_
                refine T_let 275 (by decide +kernel) ?_
                refine T_if1 (by decide +kernel) ?_
                refine T_get (by decide +kernel) (c := 276) (by decide +kernel) bdr_276 (by decide) c2 (fun x89 e90 b91 w92 => ?_)
                have l93 : z_ln 275 = 200 := by decide +kernel
                exact T_ret ⟨c2, f4, Or.inl (⟨x89, rfl, by omega, by omega⟩)⟩
abbrev R_X11_block_1 (a : Int) : Prop := (1 ≤ a ∧ a ≤ 1) ∨ (191 ≤ a ∧ a ≤ 244) ∨ (248 ≤ a ∧ a ≤ 248) ∨ (260 ≤ a ∧ a ≤ 295)
abbrev P_X11_block_1 (r0 : z_M) : z_V → z_M → Prop := fun v s' => z_CI s' ∧ z_Fr R_X11_block_1 r0 s' ∧ ((∃ x, v = vI x ∧ -2147483648 ≤ x ∧ x ≤ 2147483647) ∨ v = vX 0 ∨ v = vX 1)
theorem sf_X11_block_1 {fu : Nat} (hfu : 8589934592 ≤ fu) (r0 : z_M) (c0 : z_CI r0) (a1 : Int) (a2 : Int) (b1 : -2147483648 ≤ a1 ∧ a1 ≤ 2147483647) (b2 : -2147483648 ≤ a2 ∧ a2 ≤ 2147483647) : z_T (fX11_block fu r0 1 a1 a2) (P_X11_block_1 r0) := by
  refine T_of (fX11_block.eq_1 ..) ?_
  refine T_if1 (by decide +kernel) ?_
  refine T_useN (sf_X11_refresh_1 hfu r0 c0) (fun v6 s1 hq => ?_)
  obtain ⟨c2, f3, rfl⟩ := hq
  refine T_vN ?_
  have f4 := z_Fr.tr (R := R_X11_block_1) z_Fr.rf f3 (fun a h => by unfold R_X11_refresh_1 at h; unfold R_X11_block_1; omega)
  have u9 := CI_b c2 (k := 279) (j := 9) bd_279_9
  refine T_if1 (by decide +kernel) ?_
  refine T_let 258 (by decide +kernel) ?_
  refine T_if1 (by decide +kernel) ?_
  refine T_let 279 (by decide +kernel) ?_
  refine T_if1 (by decide +kernel) ?_
  refine T_leq (fun x10 e11 => ?_)
  have u12 := CI_b c2 (k := 279) (j := 9) bd_279_9
  refine T_if1 (by decide +kernel) ?_
  refine T_ne ?_ (fun h13 h14 => ?_)
  · exact T_ret ⟨CI_up c2 bd_1_14 (z_wb rfl).1, z_Fr.up (R := R_X11_block_1) f4 (fun a b h => z_up_k h) (by decide), Or.inr (Or.inl rfl)⟩
  refine T_if1 (by decide +kernel) ?_
  refine T_nw ?_ (fun h15 h16 => ?_)
  · exact T_ret ⟨CI_up c2 bd_1_15 (z_wb rfl).1, z_Fr.up (R := R_X11_block_1) f4 (fun a b h => z_up_k h) (by decide), Or.inr (Or.inr rfl)⟩
  refine T_ite (fun h17 => ?_) (fun h17 => ?_)
  · refine T_if1 (by decide +kernel) ?_
    refine T_let 280 (by decide +kernel) ?_
    refine T_if1 (by decide +kernel) ?_
    refine T_get (by decide +kernel) (c := 281) (by decide +kernel) bdr_281 (by decide) c2 (fun x18 e19 b20 w21 => ?_)
    have l22 : z_ln 280 = 200 := by decide +kernel
    exact T_ret ⟨c2, f4, Or.inl (⟨x18, rfl, by omega, by omega⟩)⟩
  · refine T_ite (fun h23 => ?_) (fun h23 => ?_)
    · refine T_if1 (by decide +kernel) ?_
      refine T_let 282 (by decide +kernel) ?_
      refine T_if1 (by decide +kernel) ?_
      refine T_get (by decide +kernel) (c := 283) (by decide +kernel) bdr_283 (by decide) c2 (fun x24 e25 b26 w27 => ?_)
      have l28 : z_ln 282 = 200 := by decide +kernel
      refine T_if1 (by decide +kernel) ?_
      refine T_let 280 (by decide +kernel) ?_
      refine T_if1 (by decide +kernel) ?_
      refine T_get (by decide +kernel) (c := 281) (by decide +kernel) bdr_281 (by decide) c2 (fun x29 e30 b31 w32 => ?_)
      have l33 : z_ln 280 = 200 := by decide +kernel
      refine T_leq (fun x34 e35 => ?_)
      have w36 := z_wr e35
      refine T_leq (fun x37 e38 => ?_)
      have w39 := z_wr e38
      exact T_ret ⟨c2, f4, Or.inl (⟨x37, rfl, by omega, by omega⟩)⟩
    · refine T_ite (fun h40 => ?_) (fun h40 => ?_)
      · refine T_if1 (by decide +kernel) ?_
        refine T_let 284 (by decide +kernel) ?_
        refine T_if1 (by decide +kernel) ?_
        refine T_get (by decide +kernel) (c := 285) (by decide +kernel) bdr_285 (by decide) c2 (fun x41 e42 b43 w44 => ?_)
        have l45 : z_ln 284 = 200 := by decide +kernel
        exact T_ret ⟨c2, f4, Or.inl (⟨x41, rfl, by omega, by omega⟩)⟩
      · refine T_ite (fun h46 => ?_) (fun h46 => ?_)
        · refine T_if1 (by decide +kernel) ?_
          refine T_let 286 (by decide +kernel) ?_
          refine T_if1 (by decide +kernel) ?_
          refine T_get (by decide +kernel) (c := 287) (by decide +kernel) bdr_287 (by decide) c2 (fun x47 e48 b49 w50 => ?_)
          have l51 : z_ln 286 = 200 := by decide +kernel
          exact T_ret ⟨c2, f4, Or.inl (⟨x47, rfl, by omega, by omega⟩)⟩
        · refine T_ite (fun h52 => ?_) (fun h52 => ?_)
          · refine T_if1 (by decide +kernel) ?_
            refine T_let 288 (by decide +kernel) ?_
            refine T_if1 (by decide +kernel) ?_
            refine T_get (by decide +kernel) (c := 289) (by decide +kernel) bdr_289 (by decide) c2 (fun x53 e54 b55 w56 => ?_)
            have l57 : z_ln 288 = 200 := by decide +kernel
            exact T_ret ⟨c2, f4, Or.inl (⟨x53, rfl, by omega, by omega⟩)⟩
          · refine T_ite (fun h58 => ?_) (fun h58 => ?_)
            · refine T_if1 (by decide +kernel) ?_
              refine T_let 290 (by decide +kernel) ?_
              refine T_if1 (by decide +kernel) ?_
              refine T_get (by decide +kernel) (c := 291) (by decide +kernel) bdr_291 (by decide) c2 (fun x59 e60 b61 w62 => ?_)
              have l63 : z_ln 290 = 200 := by decide +kernel
              exact T_ret ⟨c2, f4, Or.inl (⟨x59, rfl, by omega, by omega⟩)⟩
            · refine T_ite (fun h64 => ?_) (fun h64 => ?_)
              · refine T_if1 (by decide +kernel) ?_
                refine T_useI (sf_X0_padAhead_279 hfu s1 c2 a1 (by omega)) (fun v70 s65 hq => ?_)
                obtain ⟨c66, f67, ⟨x69, rfl, b71, b72⟩⟩ := hq
                refine T_vI ?_
                have f68 := z_Fr.tr (R := R_X11_block_1) f4 f67 (fun a h => absurd h not_false)
                have t73 : s65 279 9 = s1 279 9 := f67 279 9 (by decide)
                exact T_ret ⟨c66, f68, Or.inl (⟨x69, rfl, by omega, by omega⟩)⟩
              · refine T_if1 (by decide +kernel) ?_
                refine T_useI (sf_X0_padBehind_279 hfu s1 c2 a1 (by omega)) (fun v79 s74 hq => ?_)
                obtain ⟨c75, f76, ⟨x78, rfl, b80, b81⟩⟩ := hq
                refine T_vI ?_
                have f77 := z_Fr.tr (R := R_X11_block_1) f4 f76 (fun a h => absurd h not_false)
                have t82 : s74 279 9 = s1 279 9 := f76 279 9 (by decide)
                exact T_ret ⟨c75, f77, Or.inl (⟨x78, rfl, by omega, by omega⟩)⟩
abbrev R_X9_letterCode_6 (a : Int) : Prop := False
abbrev P_X9_letterCode_6 (r0 : z_M) : z_V → z_M → Prop := fun v s' => z_CI s' ∧ z_Fr R_X9_letterCode_6 r0 s' ∧ (∃ x, v = vI x ∧ -2147483648 ≤ x ∧ x ≤ 2147483647)
theorem sf_X9_letterCode_6 {fu : Nat} (hfu : 8589934592 ≤ fu) (r0 : z_M) (c0 : z_CI r0) (a1 : Int) (a2 : Int) (a3 : Int) (b1 : -2147483648 ≤ a1 ∧ a1 ≤ 2147483647) (b2 : -2147483648 ≤ a2 ∧ a2 ≤ 2147483647) (b3 : -2147483648 ≤ a3 ∧ a3 ≤ 2147483647) : z_T (fX9_letterCode fu r0 6 a1 a2 a3) (P_X9_letterCode_6 r0) := by
  refine T_of (fX9_letterCode.eq_1 ..) ?_
  refine T_if1 (by decide +kernel) ?_
  refine T_bR ?_
  refine T_of (fX9_readings.eq_1 ..) ?_
  refine T_ite (fun h1 => ?_) (fun h1 => ?_)
  · refine T_if1 (by decide +kernel) ?_
    refine T_let 17 (by decide +kernel) ?_
    refine T_of (fX9_readings_J15.eq_1 ..) ?_
    refine T_rR ?_
    refine T_if1 (by decide +kernel) ?_
    refine T_lget (by decide +kernel) (c := 18) (by decide +kernel) bdr_18 (by decide) c0 (fun x2 e3 b4 => ?_)
    refine T_leq (fun x6 e7 => ?_)
    have w8 := z_wr e7
    refine T_leq (fun x9 e10 => ?_)
    have w11 := z_wr e10
    refine T_leq (fun x12 e13 => ?_)
    have w14 : -9223372036854775808 ≤ x12 ∧ x12 ≤ 9223372036854775807 := by rw [← e13]; exact z_i64b _
    refine T_leq (fun x15 e16 => ?_)
    have w17 : -9223372036854775808 ≤ x15 ∧ x15 ≤ 9223372036854775807 := by rw [← e16]; exact z_i64b _
    refine T_leq (fun x18 e19 => ?_)
    have w20 := z_wr e19
    refine T_leq (fun x21 e22 => ?_)
    have w23 := z_wr e22
    exact T_ret ⟨c0, z_Fr.rf, ⟨x21, rfl, by omega, by omega⟩⟩
  · refine T_if1 (by decide +kernel) ?_
    refine T_let 15 (by decide +kernel) ?_
    refine T_of (fX9_readings_J15.eq_1 ..) ?_
    refine T_rR ?_
    refine T_if1 (by decide +kernel) ?_
    refine T_lget (by decide +kernel) (c := 16) (by decide +kernel) bdr_16 (by decide) c0 (fun x24 e25 b26 => ?_)
    refine T_leq (fun x28 e29 => ?_)
    have w30 := z_wr e29
    refine T_leq (fun x31 e32 => ?_)
    have w33 := z_wr e32
    refine T_leq (fun x34 e35 => ?_)
    have w36 : -9223372036854775808 ≤ x34 ∧ x34 ≤ 9223372036854775807 := by rw [← e35]; exact z_i64b _
    refine T_leq (fun x37 e38 => ?_)
    have w39 : -9223372036854775808 ≤ x37 ∧ x37 ≤ 9223372036854775807 := by rw [← e38]; exact z_i64b _
    refine T_leq (fun x40 e41 => ?_)
    have w42 := z_wr e41
    refine T_leq (fun x43 e44 => ?_)
    have w45 := z_wr e44
    exact T_ret ⟨c0, z_Fr.rf, ⟨x43, rfl, by omega, by omega⟩⟩
abbrev R_X3_letterCode_258 (a : Int) : Prop := False
abbrev P_X3_letterCode_258 (r0 : z_M) : z_V → z_M → Prop := fun v s' => z_CI s' ∧ z_Fr R_X3_letterCode_258 r0 s' ∧ (∃ x, v = vI x ∧ -2147483648 ≤ x ∧ x ≤ 2147483647)
theorem sl_X3_letterCode_258_L16 {fu : Nat} (hfu : 8589934592 ≤ fu) (r0 : z_M) (a1 : Int) (a2 : Int) (b1 : -2147483648 ≤ a1 ∧ a1 ≤ 2147483647) (b2 : -2147483648 ≤ a2 ∧ a2 ≤ 2147483647) {k : z_M → z_O} (hk : ∀ (s' : z_M), z_CI s' → z_Fr R_X3_letterCode_258 r0 s' → z_T (k s') (P_X3_letterCode_258 r0)) : ∀ (F : Nat) (s : z_M) (a4 : Int) (a5 : Int), z_CI s → z_Fr R_X3_letterCode_258 r0 s → (-2147483648 ≤ a4 ∧ a4 ≤ 2147483647) → (-2147483648 ≤ a5 ∧ a5 ≤ 2147483647) → (2147483647 - a5 < (F : Int)) → z_T (fX3_letterCode_L16 fu 258 a1 a2 F s a4 a5 k) (P_X3_letterCode_258 r0) := by
  intro F
  induction F with
  | zero =>
    intro s a4 a5 c f b4 b5 hm
    exfalso; omega
  | succ F ih =>
    intro s a4 a5 c f b4 b5 hm
    refine T_of (fX3_letterCode_L16.eq_2 ..) ?_
    refine T_if1 (by decide +kernel) ?_
    refine T_let 279 (by decide +kernel) ?_
    refine T_if1 (by decide +kernel) ?_
    refine T_let 282 (by decide +kernel) ?_
    refine T_if1 (by decide +kernel) ?_
    refine T_get (by decide +kernel) (c := 283) (by decide +kernel) bdr_283 (by decide) c (fun x1 e2 b3 w4 => ?_)
    have l5 : z_ln 282 = 200 := by decide +kernel
    refine T_ite (fun h6 => ?_) (fun h6 => ?_)
    · exact hk s c f
    · refine T_if1 (by decide +kernel) ?_
      refine T_let 191 (by decide +kernel) ?_
      refine T_if1 (by decide +kernel) ?_
      refine T_let 194 (by decide +kernel) ?_
      refine T_if1 (by decide +kernel) ?_
      refine T_get (by decide +kernel) (c := 195) (by decide +kernel) bdr_195 (by decide) c (fun x7 e8 b9 w10 => ?_)
      have l11 : z_ln 194 = 200 := by decide +kernel
      refine T_if1 (by decide +kernel) ?_
      refine T_let 6 (by decide +kernel) ?_
      refine T_if1 (by decide +kernel) ?_
      refine T_useI (sf_X9_letterCount_6 hfu s c a2 x7 (by omega) (by omega)) (fun v17 s12 hq => ?_)
      obtain ⟨c13, f14, ⟨x16, rfl, b18, b19⟩⟩ := hq
      refine T_vI ?_
      have f15 := z_Fr.tr (R := R_X3_letterCode_258) f f14 (fun a h => absurd h not_false)
      refine T_ite (fun h20 => ?_) (fun h20 => ?_)
      · refine T_leq (fun x21 e22 => ?_)
        have w23 := z_wr e22
        refine T_leq (fun x24 e25 => ?_)
        have w26 := z_wb e25
        exact ih s12 x21 x24 c13 f15 (by omega) (by omega) (by omega)
      · refine T_if1 (by decide +kernel) ?_
        refine T_let 6 (by decide +kernel) ?_
        refine T_if1 (by decide +kernel) ?_
        refine T_useI (sf_X9_letterCode_6 hfu s12 c13 a2 x7 a4 (by omega) (by omega) (by omega)) (fun v32 s27 hq => ?_)
        obtain ⟨c28, f29, ⟨x31, rfl, b33, b34⟩⟩ := hq
        refine T_vI ?_
        have f30 := z_Fr.tr (R := R_X3_letterCode_258) f15 f29 (fun a h => absurd h not_false)
        exact T_ret ⟨c28, f30, ⟨x31, rfl, by omega, by omega⟩⟩
theorem sf_X3_letterCode_258 {fu : Nat} (hfu : 8589934592 ≤ fu) (r0 : z_M) (c0 : z_CI r0) (a1 : Int) (a2 : Int) (a3 : Int) (b1 : -2147483648 ≤ a1 ∧ a1 ≤ 2147483647) (b2 : -2147483648 ≤ a2 ∧ a2 ≤ 2147483647) (b3 : -2147483648 ≤ a3 ∧ a3 ≤ 2147483647) : z_T (fX3_letterCode fu r0 258 a1 a2 a3) (P_X3_letterCode_258 r0) := by
  refine T_of (fX3_letterCode.eq_1 ..) ?_
  refine T_if1 (by decide +kernel) ?_
  refine T_let 279 (by decide +kernel) ?_
  refine T_if1 (by decide +kernel) ?_
  refine T_let 280 (by decide +kernel) ?_
  refine T_if1 (by decide +kernel) ?_
  refine T_get (by decide +kernel) (c := 281) (by decide +kernel) bdr_281 (by decide) c0 (fun x1 e2 b3 w4 => ?_)
  have l5 : z_ln 280 = 200 := by decide +kernel
  refine sl_X3_letterCode_258_L16 hfu r0 a1 a2 (by omega) (by omega) (fun s6 c7 f8 => ?_) fu r0 a3 x1 c0 z_Fr.rf (by omega) (by omega) (by omega)
  exact T_ret ⟨c7, f8, ⟨(-1), rfl, by omega, by omega⟩⟩
abbrev R_X11_reading_1 (a : Int) : Prop := (1 ≤ a ∧ a ≤ 1) ∨ (191 ≤ a ∧ a ≤ 244) ∨ (248 ≤ a ∧ a ≤ 248) ∨ (260 ≤ a ∧ a ≤ 295)
abbrev P_X11_reading_1 (r0 : z_M) : z_V → z_M → Prop := fun v s' => z_CI s' ∧ z_Fr R_X11_reading_1 r0 s' ∧ ((∃ x, v = vI x ∧ -2147483648 ≤ x ∧ x ≤ 2147483647) ∨ v = vX 0 ∨ v = vX 1)
theorem sj_X11_reading_1_J112 {fu : Nat} (hfu : 8589934592 ≤ fu) (r0 s : z_M) (c : z_CI s) (f : z_Fr R_X11_reading_1 r0 s) (t0 : Int) (d0 : -2147483648 ≤ t0 ∧ t0 ≤ 2147483647) : z_T (fX11_reading_J112 fu s t0) (P_X11_reading_1 r0) := by
  refine T_of (fX11_reading_J112.eq_1 ..) ?_
  have u1 := CI_b c (k := 279) (j := 9) bd_279_9
  exact T_ret ⟨c, f, Or.inl (⟨t0, rfl, by omega, by omega⟩)⟩
theorem sj_X11_reading_1_J90 {fu : Nat} (hfu : 8589934592 ≤ fu) (r0 s : z_M) (c : z_CI s) (f : z_Fr R_X11_reading_1 r0 s) (t0 : Int) (d0 : -2147483648 ≤ t0 ∧ t0 ≤ 2147483647) : z_T (fX11_reading_J90 fu s t0) (P_X11_reading_1 r0) := by
  refine T_of (fX11_reading_J90.eq_1 ..) ?_
  have u1 := CI_b c (k := 279) (j := 9) bd_279_9
  exact T_ret ⟨c, f, Or.inl (⟨t0, rfl, by omega, by omega⟩)⟩
theorem sj_X11_reading_1_J64 {fu : Nat} (hfu : 8589934592 ≤ fu) (r0 s : z_M) (c : z_CI s) (f : z_Fr R_X11_reading_1 r0 s) (a1 : Int) (a2 : Int) (a3 : Int) (a4 : Int) (t0 : Int) (b1 : -2147483648 ≤ a1 ∧ a1 ≤ 2147483647) (b2 : -2147483648 ≤ a2 ∧ a2 ≤ 2147483647) (b3 : -2147483648 ≤ a3 ∧ a3 ≤ 2147483647) (b4 : -2147483648 ≤ a4 ∧ a4 ≤ 2147483647) (d0 : 0 ≤ t0 ∧ t0 ≤ 1) : z_T (fX11_reading_J64 fu s 1 a1 a2 a3 a4 t0) (P_X11_reading_1 r0) := by
  refine T_of (fX11_reading_J64.eq_1 ..) ?_
  have u1 := CI_b c (k := 279) (j := 9) bd_279_9
  refine T_ite (fun h2 => ?_) (fun h2 => ?_)
  · refine T_ite (fun h3 => ?_) (fun h3 => ?_)
    · refine T_if1 (by decide +kernel) ?_
      refine T_let 258 (by decide +kernel) ?_
      refine T_if1 (by decide +kernel) ?_
      refine T_useI (sf_X3_letterPlace_258 hfu s c a1 a2 a3 (by omega) (by omega) (by omega)) (fun v9 s4 hq => ?_)
      obtain ⟨c5, f6, ⟨x8, rfl, b10, b11⟩⟩ := hq
      refine T_vI ?_
      have f7 := z_Fr.tr (R := R_X11_reading_1) f f6 (fun a h => absurd h not_false)
      have t12 : s4 279 9 = s 279 9 := f6 279 9 (by decide)
      exact sj_X11_reading_1_J112 hfu r0 s4 c5 f7 x8 (by omega)
    · exact sj_X11_reading_1_J112 hfu r0 s c f (-1000) (by omega)
  · refine T_ite (fun h13 => ?_) (fun h13 => ?_)
    · refine T_if1 (by decide +kernel) ?_
      refine T_let 258 (by decide +kernel) ?_
      refine T_if1 (by decide +kernel) ?_
      refine T_useI (sf_X3_letterCode_258 hfu s c a1 a2 a3 (by omega) (by omega) (by omega)) (fun v19 s14 hq => ?_)
      obtain ⟨c15, f16, ⟨x18, rfl, b20, b21⟩⟩ := hq
      refine T_vI ?_
      have f17 := z_Fr.tr (R := R_X11_reading_1) f f16 (fun a h => absurd h not_false)
      have t22 : s14 279 9 = s 279 9 := f16 279 9 (by decide)
      exact sj_X11_reading_1_J90 hfu r0 s14 c15 f17 x18 (by omega)
    · exact sj_X11_reading_1_J90 hfu r0 s c f (-1) (by omega)
theorem sf_X11_reading_1 {fu : Nat} (hfu : 8589934592 ≤ fu) (r0 : z_M) (c0 : z_CI r0) (a1 : Int) (a2 : Int) (a3 : Int) (a4 : Int) (b1 : -2147483648 ≤ a1 ∧ a1 ≤ 2147483647) (b2 : -2147483648 ≤ a2 ∧ a2 ≤ 2147483647) (b3 : -2147483648 ≤ a3 ∧ a3 ≤ 2147483647) (b4 : -2147483648 ≤ a4 ∧ a4 ≤ 2147483647) : z_T (fX11_reading fu r0 1 a1 a2 a3 a4) (P_X11_reading_1 r0) := by
  refine T_of (fX11_reading.eq_1 ..) ?_
  refine T_if1 (by decide +kernel) ?_
  refine T_useN (sf_X11_refresh_1 hfu r0 c0) (fun v6 s1 hq => ?_)
  obtain ⟨c2, f3, rfl⟩ := hq
  refine T_vN ?_
  have f4 := z_Fr.tr (R := R_X11_reading_1) z_Fr.rf f3 (fun a h => by unfold R_X11_refresh_1 at h; unfold R_X11_reading_1; omega)
  have u9 := CI_b c2 (k := 279) (j := 9) bd_279_9
  refine T_if1 (by decide +kernel) ?_
  refine T_let 258 (by decide +kernel) ?_
  refine T_if1 (by decide +kernel) ?_
  refine T_let 279 (by decide +kernel) ?_
  refine T_if1 (by decide +kernel) ?_
  refine T_leq (fun x10 e11 => ?_)
  have u12 := CI_b c2 (k := 279) (j := 9) bd_279_9
  refine T_if1 (by decide +kernel) ?_
  refine T_ne ?_ (fun h13 h14 => ?_)
  · exact T_ret ⟨CI_up c2 bd_1_14 (z_wb rfl).1, z_Fr.up (R := R_X11_reading_1) f4 (fun a b h => z_up_k h) (by decide), Or.inr (Or.inl rfl)⟩
  refine T_if1 (by decide +kernel) ?_
  refine T_nw ?_ (fun h15 h16 => ?_)
  · exact T_ret ⟨CI_up c2 bd_1_15 (z_wb rfl).1, z_Fr.up (R := R_X11_reading_1) f4 (fun a b h => z_up_k h) (by decide), Or.inr (Or.inr rfl)⟩
  refine T_if1 (by decide +kernel) ?_
  refine T_nw ?_ (fun h17 h18 => ?_)
  · exact T_ret ⟨CI_up c2 bd_1_15 (z_wb rfl).1, z_Fr.up (R := R_X11_reading_1) f4 (fun a b h => z_up_k h) (by decide), Or.inr (Or.inr rfl)⟩
  refine T_if1 (by decide +kernel) ?_
  refine T_nw ?_ (fun h19 h20 => ?_)
  · exact T_ret ⟨CI_up c2 bd_1_15 (z_wb rfl).1, z_Fr.up (R := R_X11_reading_1) f4 (fun a b h => z_up_k h) (by decide), Or.inr (Or.inr rfl)⟩
  refine T_if1 (by decide +kernel) ?_
  refine T_let 258 (by decide +kernel) ?_
  refine T_if1 (by decide +kernel) ?_
  refine T_let 279 (by decide +kernel) ?_
  refine T_if1 (by decide +kernel) ?_
  refine T_useI (sf_X0_letters_279 hfu s1 c2 a1 a2 (by omega) (by omega)) (fun v26 s21 hq => ?_)
  obtain ⟨c22, f23, ⟨x25, rfl, b27, b28⟩⟩ := hq
  refine T_vI ?_
  have f24 := z_Fr.tr (R := R_X11_reading_1) f4 f23 (fun a h => absurd h not_false)
  have t29 : s21 279 9 = s1 279 9 := f23 279 9 (by decide)
  refine T_ite (fun h30 => ?_) (fun h30 => ?_)
  · exact sj_X11_reading_1_J64 hfu r0 s21 c22 f24 a1 a2 a3 a4 0 (by omega) (by omega) (by omega) (by omega) (by omega)
  · exact sj_X11_reading_1_J64 hfu r0 s21 c22 f24 a1 a2 a3 a4 1 (by omega) (by omega) (by omega) (by omega) (by omega)
abbrev R_X11_run_1 (a : Int) : Prop := (1 ≤ a ∧ a ≤ 1) ∨ (191 ≤ a ∧ a ≤ 244) ∨ (248 ≤ a ∧ a ≤ 248) ∨ (260 ≤ a ∧ a ≤ 295)
abbrev P_X11_run_1 (r0 : z_M) : z_V → z_M → Prop := fun v s' => z_CI s' ∧ z_Fr R_X11_run_1 r0 s' ∧ ((∃ x, v = vI x ∧ -2147483648 ≤ x ∧ x ≤ 2147483647) ∨ v = vX 0 ∨ v = vX 1)
theorem sj_X11_run_1_J111 {fu : Nat} (hfu : 8589934592 ≤ fu) (r0 s : z_M) (c : z_CI s) (f : z_Fr R_X11_run_1 r0 s) (a1 : Int) (a2 : Int) (a3 : Int) (a4 : Int) (a5 : Int) (b1 : -2147483648 ≤ a1 ∧ a1 ≤ 2147483647) (b2 : -2147483648 ≤ a2 ∧ a2 ≤ 2147483647) (b3 : -2147483648 ≤ a3 ∧ a3 ≤ 2147483647) (b4 : -2147483648 ≤ a4 ∧ a4 ≤ 2147483647) (b5 : -2147483648 ≤ a5 ∧ a5 ≤ 2147483646) (M : Int) (pm : 2147483647 - a5 ≤ M) {r : z_M → Int → Int → Int → z_O} {k : z_M → z_O} (hr : ∀ (s' : z_M) (v3 : Int) (v4 : Int) (v5 : Int), z_CI s' → z_Fr R_X11_run_1 r0 s' → (-2147483648 ≤ v3 ∧ v3 ≤ 2147483647) → (-2147483648 ≤ v4 ∧ v4 ≤ 2147483647) → (-2147483648 ≤ v5 ∧ v5 ≤ 2147483647) → (2147483647 - v5 < M) → z_T (r s' v3 v4 v5) (P_X11_run_1 r0)) (hk : ∀ (s' : z_M), z_CI s' → z_Fr R_X11_run_1 r0 s' → z_T (k s') (P_X11_run_1 r0)) : z_T (fX11_run_J111 fu s 1 a1 a2 a3 a4 a5 r k) (P_X11_run_1 r0) := by
  refine T_of (fX11_run_J111.eq_1 ..) ?_
  have u1 := CI_b c (k := 6) (j := 6) bd_6_6
  refine T_leq (fun x2 e3 => ?_)
  have w4 := z_wb e3
  exact hr s a3 a4 x2 c f (by omega) (by omega) (by omega) (by omega)
theorem sj_X11_run_1_J103 {fu : Nat} (hfu : 8589934592 ≤ fu) (r0 s : z_M) (c : z_CI s) (f : z_Fr R_X11_run_1 r0 s) (t0 : Int) (a1 : Int) (a2 : Int) (d0 : -2147483648 ≤ t0 ∧ t0 ≤ 2147483647) (e1 : -2147483648 ≤ a1 ∧ a1 ≤ 2147483647) (e2 : -2147483648 ≤ a2 ∧ a2 ≤ 2147483647) (M : Int) (pm : (0 : Int) ≤ 0) {r : z_M → Int → Int → Int → z_O} {k : z_M → z_O} (hr : ∀ (s' : z_M) (v3 : Int) (v4 : Int) (v5 : Int), z_CI s' → z_Fr R_X11_run_1 r0 s' → (-2147483648 ≤ v3 ∧ v3 ≤ 2147483647) → (-2147483648 ≤ v4 ∧ v4 ≤ 2147483647) → (-2147483648 ≤ v5 ∧ v5 ≤ 2147483647) → (2147483647 - v5 < M) → z_T (r s' v3 v4 v5) (P_X11_run_1 r0)) (hk : ∀ (s' : z_M), z_CI s' → z_Fr R_X11_run_1 r0 s' → z_T (k s') (P_X11_run_1 r0)) : z_T (fX11_run_J103 fu s t0 r k) (P_X11_run_1 r0) := by
  refine T_of (fX11_run_J103.eq_1 ..) ?_
  have u1 := CI_b c (k := 6) (j := 6) bd_6_6
  exact T_ret ⟨c, f, Or.inl (⟨t0, rfl, by omega, by omega⟩)⟩
theorem sj_X11_run_1_J74 {fu : Nat} (hfu : 8589934592 ≤ fu) (r0 s : z_M) (c : z_CI s) (f : z_Fr R_X11_run_1 r0 s) (a1 : Int) (a2 : Int) (a3 : Int) (a4 : Int) (a5 : Int) (a6 : Int) (b1 : -2147483648 ≤ a1 ∧ a1 ≤ 2147483647) (b2 : -2147483648 ≤ a2 ∧ a2 ≤ 2147483647) (b3 : -2147483648 ≤ a3 ∧ a3 ≤ 2147483647) (b4 : -2147483648 ≤ a4 ∧ a4 ≤ 2147483647) (b5 : -2147483648 ≤ a5 ∧ a5 ≤ 2147483646) (b6 : -2147483648 ≤ a6 ∧ a6 ≤ 2147483647) (M : Int) (pm : 2147483647 - a5 ≤ M) {r : z_M → Int → Int → Int → z_O} {k : z_M → z_O} (hr : ∀ (s' : z_M) (v3 : Int) (v4 : Int) (v5 : Int), z_CI s' → z_Fr R_X11_run_1 r0 s' → (-2147483648 ≤ v3 ∧ v3 ≤ 2147483647) → (-2147483648 ≤ v4 ∧ v4 ≤ 2147483647) → (-2147483648 ≤ v5 ∧ v5 ≤ 2147483647) → (2147483647 - v5 < M) → z_T (r s' v3 v4 v5) (P_X11_run_1 r0)) (hk : ∀ (s' : z_M), z_CI s' → z_Fr R_X11_run_1 r0 s' → z_T (k s') (P_X11_run_1 r0)) : z_T (fX11_run_J74 fu s 1 a1 a2 a3 a4 a5 a6 r k) (P_X11_run_1 r0) := by
  refine T_of (fX11_run_J74.eq_1 ..) ?_
  have u1 := CI_b c (k := 6) (j := 6) bd_6_6
  refine T_ite (fun h2 => ?_) (fun h2 => ?_)
  · refine T_leq (fun x3 e4 => ?_)
    have w5 := z_wb e4
    exact sj_X11_run_1_J111 hfu r0 s c f a1 a2 x3 a5 a5 (by omega) (by omega) (by omega) (by omega) (by omega) M (by omega) (fun s' v3 v4 v5 c' f' w3 w4 w5 pg => hr s' v3 v4 v5 c' f' w3 w4 w5 (by omega)) hk
  · refine T_ite (fun h6 => ?_) (fun h6 => ?_)
    · refine T_ite (fun h7 => ?_) (fun h7 => ?_)
      · exact sj_X11_run_1_J103 hfu r0 s c f a6 a1 a2 (by omega) (by omega) (by omega) M (by omega) (fun s' v3 v4 v5 c' f' w3 w4 w5 pg => hr s' v3 v4 v5 c' f' w3 w4 w5 (by omega)) hk
      · refine T_leq (fun x8 e9 => ?_)
        have w10 := z_wr e9
        exact sj_X11_run_1_J103 hfu r0 s c f x8 a1 a2 (by omega) (by omega) (by omega) M (by omega) (fun s' v3 v4 v5 c' f' w3 w4 w5 pg => hr s' v3 v4 v5 c' f' w3 w4 w5 (by omega)) hk
    · exact sj_X11_run_1_J103 hfu r0 s c f a4 a1 a2 (by omega) (by omega) (by omega) M (by omega) (fun s' v3 v4 v5 c' f' w3 w4 w5 pg => hr s' v3 v4 v5 c' f' w3 w4 w5 (by omega)) hk
theorem sl_X11_run_1_L19 {fu : Nat} (hfu : 8589934592 ≤ fu) (r0 : z_M) (a1 : Int) (a2 : Int) (b1 : -2147483648 ≤ a1 ∧ a1 ≤ 2147483647) (b2 : -2147483648 ≤ a2 ∧ a2 ≤ 2147483647) {k : z_M → z_O} (hk : ∀ (s' : z_M), z_CI s' → z_Fr R_X11_run_1 r0 s' → z_T (k s') (P_X11_run_1 r0)) : ∀ (F : Nat) (s : z_M) (a3 : Int) (a4 : Int) (a5 : Int), z_CI s → z_Fr R_X11_run_1 r0 s → (-2147483648 ≤ a3 ∧ a3 ≤ 2147483647) → (-2147483648 ≤ a4 ∧ a4 ≤ 2147483647) → (-2147483648 ≤ a5 ∧ a5 ≤ 2147483647) → (2147483647 - a5 < (F : Int)) → z_T (fX11_run_L19 fu 1 a1 a2 F s a3 a4 a5 k) (P_X11_run_1 r0) := by
  intro F
  induction F with
  | zero =>
    intro s a3 a4 a5 c f b3 b4 b5 hm
    have u21 := CI_b c (k := 6) (j := 6) bd_6_6
    exfalso; omega
  | succ F ih =>
    intro s a3 a4 a5 c f b3 b4 b5 hm
    refine T_of (fX11_run_L19.eq_2 ..) ?_
    have u1 := CI_b c (k := 6) (j := 6) bd_6_6
    refine T_if1 (by decide +kernel) ?_
    refine T_let 6 (by decide +kernel) ?_
    refine T_if1 (by decide +kernel) ?_
    refine T_leq (fun x2 e3 => ?_)
    have u4 := CI_b c (k := 6) (j := 6) bd_6_6
    refine T_ite (fun h5 => ?_) (fun h5 => ?_)
    · exact hk s c f
    · refine T_if1 (by decide +kernel) ?_
      refine T_let 191 (by decide +kernel) ?_
      refine T_if1 (by decide +kernel) ?_
      refine T_let 218 (by decide +kernel) ?_
      refine T_if1 (by decide +kernel) ?_
      refine T_get (by decide +kernel) (c := 219) (by decide +kernel) bdr_219 (by decide) c (fun x6 e7 b8 w9 => ?_)
      have l10 : z_ln 218 = 200 := by decide +kernel
      refine T_if1 (by decide +kernel) ?_
      refine T_let 6 (by decide +kernel) ?_
      refine T_if1 (by decide +kernel) ?_
      refine T_leq (fun x11 e12 => ?_)
      have u13 := CI_b c (k := 6) (j := 6) bd_6_6
      refine T_ite (fun h14 => ?_) (fun h14 => ?_)
      · exact sj_X11_run_1_J74 hfu r0 s c f a1 a2 a3 a4 a5 x6 (by omega) (by omega) (by omega) (by omega) (by omega) (by omega) (2147483647 - a5) (by omega) (fun s' v3 v4 v5 c' f' w3 w4 w5 pg => ih s' v3 v4 v5 c' f' w3 w4 w5 (by omega)) hk
      · refine T_if1 (by decide +kernel) ?_
        refine T_let 191 (by decide +kernel) ?_
        refine T_if1 (by decide +kernel) ?_
        refine T_let 218 (by decide +kernel) ?_
        refine T_if1 (by decide +kernel) ?_
        refine T_get (by decide +kernel) (c := 219) (by decide +kernel) bdr_219 (by decide) c (fun x15 e16 b17 w18 => ?_)
        have l19 : z_ln 218 = 200 := by decide +kernel
        refine T_ite (fun h20 => ?_) (fun h20 => ?_)
        · exact sj_X11_run_1_J111 hfu r0 s c f a1 a2 a3 a4 a5 (by omega) (by omega) (by omega) (by omega) (by omega) (2147483647 - a5) (by omega) (fun s' v3 v4 v5 c' f' w3 w4 w5 pg => ih s' v3 v4 v5 c' f' w3 w4 w5 (by omega)) hk
        · exact sj_X11_run_1_J74 hfu r0 s c f a1 a2 a3 a4 a5 x6 (by omega) (by omega) (by omega) (by omega) (by omega) (by omega) (2147483647 - a5) (by omega) (fun s' v3 v4 v5 c' f' w3 w4 w5 pg => ih s' v3 v4 v5 c' f' w3 w4 w5 (by omega)) hk
theorem sf_X11_run_1 {fu : Nat} (hfu : 8589934592 ≤ fu) (r0 : z_M) (c0 : z_CI r0) (a1 : Int) (a2 : Int) (b1 : -2147483648 ≤ a1 ∧ a1 ≤ 2147483647) (b2 : -2147483648 ≤ a2 ∧ a2 ≤ 2147483647) : z_T (fX11_run fu r0 1 a1 a2) (P_X11_run_1 r0) := by
  refine T_of (fX11_run.eq_1 ..) ?_
  refine T_if1 (by decide +kernel) ?_
  refine T_nw ?_ (fun h1 h2 => ?_)
  · exact T_ret ⟨CI_up c0 bd_1_15 (z_wb rfl).1, z_Fr.up (R := R_X11_run_1) z_Fr.rf (fun a b h => z_up_k h) (by decide), Or.inr (Or.inr rfl)⟩
  refine T_if1 (by decide +kernel) ?_
  refine T_useN (sf_X11_refresh_1 hfu r0 c0) (fun v8 s3 hq => ?_)
  obtain ⟨c4, f5, rfl⟩ := hq
  refine T_vN ?_
  have f6 := z_Fr.tr (R := R_X11_run_1) z_Fr.rf f5 (fun a h => by unfold R_X11_refresh_1 at h; unfold R_X11_run_1; omega)
  have t11 : s3 6 6 = r0 6 6 := f5 6 6 (by decide)
  refine sl_X11_run_1_L19 hfu r0 a1 a2 (by omega) (by omega) (fun s12 c13 f14 => ?_) fu s3 0 0 1 c4 f6 (by omega) (by omega) (by omega) (by omega)
  have u15 := CI_b c13 (k := 6) (j := 6) bd_6_6
  exact T_ret ⟨c13, f14, Or.inl (⟨(-1), rfl, by omega, by omega⟩)⟩
abbrev R_X3_standingAt_258 (a : Int) : Prop := (220 ≤ a ∧ a ≤ 220)
abbrev P_X3_standingAt_258 (r0 : z_M) : z_V → z_M → Prop := fun v s' => z_CI s' ∧ z_Fr R_X3_standingAt_258 r0 s' ∧ (∃ x, v = vI x ∧ -2147483648 ≤ x ∧ x ≤ 2147483647)
theorem sj_X3_standingAt_258_J136 {fu : Nat} (hfu : 8589934592 ≤ fu) (r0 s : z_M) (c : z_CI s) (f : z_Fr R_X3_standingAt_258 r0 s) (a2 : Int) (a3 : Int) (a4 : Int) (a5 : Int) (b2 : -2147483648 ≤ a2 ∧ a2 ≤ 2147483647) (b3 : -2147483648 ≤ a3 ∧ a3 ≤ 2147483647) (b4 : -2147483648 ≤ a4 ∧ a4 ≤ 2147483647) (b5 : -2147483648 ≤ a5 ∧ a5 ≤ 2147483646) (M : Int) (pm : 2147483647 - a5 ≤ M) {r : z_M → Int → z_O} {k : z_M → z_O} (hr : ∀ (s' : z_M) (v5 : Int), z_CI s' → z_Fr R_X3_standingAt_258 r0 s' → (-2147483648 ≤ v5 ∧ v5 ≤ 2147483647) → (2147483647 - v5 < M) → z_T (r s' v5) (P_X3_standingAt_258 r0)) (hk : ∀ (s' : z_M), z_CI s' → z_Fr R_X3_standingAt_258 r0 s' → z_T (k s') (P_X3_standingAt_258 r0)) : z_T (fX3_standingAt_J136 fu s 258 a2 a3 a4 a5 r k) (P_X3_standingAt_258 r0) := by
  refine T_of (fX3_standingAt_J136.eq_1 ..) ?_
  have u1 := CI_b c (k := 220) (j := 4) bd_220_4
  have u2 := CI_b c (k := 220) (j := 5) bd_220_5
  refine T_leq (fun x3 e4 => ?_)
  have w5 := z_wb e4
  exact hr s x3 c f (by omega) (by omega)
theorem sl_X3_standingAt_258_L90 {fu : Nat} (hfu : 8589934592 ≤ fu) (r0 : z_M) (a2 : Int) (a3 : Int) (a4 : Int) (b2 : -2147483648 ≤ a2 ∧ a2 ≤ 2147483647) (b3 : -2147483648 ≤ a3 ∧ a3 ≤ 2147483647) (b4 : -2147483648 ≤ a4 ∧ a4 ≤ 2147483647) {k : z_M → z_O} (hk : ∀ (s' : z_M), z_CI s' → z_Fr R_X3_standingAt_258 r0 s' → z_T (k s') (P_X3_standingAt_258 r0)) : ∀ (F : Nat) (s : z_M) (a5 : Int), z_CI s → z_Fr R_X3_standingAt_258 r0 s → (-2147483648 ≤ a5 ∧ a5 ≤ 2147483647) → (2147483647 - a5 < (F : Int)) → z_T (fX3_standingAt_L90 fu 258 a2 a3 a4 F s a5 k) (P_X3_standingAt_258 r0) := by
  intro F
  induction F with
  | zero =>
    intro s a5 c f b5 hm
    have u19 := CI_b c (k := 220) (j := 4) bd_220_4
    have u20 := CI_b c (k := 220) (j := 5) bd_220_5
    exfalso; omega
  | succ F ih =>
    intro s a5 c f b5 hm
    refine T_of (fX3_standingAt_L90.eq_2 ..) ?_
    have u1 := CI_b c (k := 220) (j := 4) bd_220_4
    have u2 := CI_b c (k := 220) (j := 5) bd_220_5
    refine T_ite (fun h3 => ?_) (fun h3 => ?_)
    · exact hk s c f
    · refine T_if1 (by decide +kernel) ?_
      refine T_let 267 (by decide +kernel) ?_
      refine T_if1 (by decide +kernel) ?_
      refine T_get (by decide +kernel) (c := 268) (by decide +kernel) bdr_268 (by decide) c (fun x4 e5 b6 w7 => ?_)
      have l8 : z_ln 267 = 200 := by decide +kernel
      refine T_ite (fun h9 => ?_) (fun h9 => ?_)
      · exact sj_X3_standingAt_258_J136 hfu r0 s c f a2 a3 a4 a5 (by omega) (by omega) (by omega) (by omega) (2147483647 - a5) (by omega) (fun s' v5 c' f' w5 pg => ih s' v5 c' f' w5 (by omega)) hk
      · refine T_if1 (by decide +kernel) ?_
        refine T_let 191 (by decide +kernel) ?_
        refine T_if1 (by decide +kernel) ?_
        refine T_let 216 (by decide +kernel) ?_
        refine T_if1 (by decide +kernel) ?_
        refine T_get (by decide +kernel) (c := 217) (by decide +kernel) bdr_217 (by decide) c (fun x10 e11 b12 w13 => ?_)
        have l14 : z_ln 216 = 200 := by decide +kernel
        refine T_leq (fun x15 e16 => ?_)
        have w17 := z_wb e16
        refine T_ite (fun h18 => ?_) (fun h18 => ?_)
        · exact sj_X3_standingAt_258_J136 hfu r0 s c f a2 a3 a4 a5 (by omega) (by omega) (by omega) (by omega) (2147483647 - a5) (by omega) (fun s' v5 c' f' w5 pg => ih s' v5 c' f' w5 (by omega)) hk
        · exact T_ret ⟨c, f, ⟨a5, rfl, by omega, by omega⟩⟩
theorem sl_X3_standingAt_258_L41 {fu : Nat} (hfu : 8589934592 ≤ fu) (r0 : z_M) (a2 : Int) (b2 : -2147483648 ≤ a2 ∧ a2 ≤ 2147483647) {k : z_M → z_O} (hk : ∀ (s' : z_M), z_CI s' → z_Fr R_X3_standingAt_258 r0 s' → z_T (k s') (P_X3_standingAt_258 r0)) : ∀ (F : Nat) (s : z_M) (a3 : Int), z_CI s → z_Fr R_X3_standingAt_258 r0 s → (-2147483648 ≤ a3 ∧ a3 ≤ 2147483647) → (2147483647 - a3 < (F : Int)) → z_T (fX3_standingAt_L41 fu 258 a2 F s a3 k) (P_X3_standingAt_258 r0) := by
  intro F
  induction F with
  | zero =>
    intro s a3 c f b3 hm
    have u33 := CI_b c (k := 220) (j := 4) bd_220_4
    have u34 := CI_b c (k := 220) (j := 5) bd_220_5
    exfalso; omega
  | succ F ih =>
    intro s a3 c f b3 hm
    refine T_of (fX3_standingAt_L41.eq_2 ..) ?_
    have u1 := CI_b c (k := 220) (j := 4) bd_220_4
    have u2 := CI_b c (k := 220) (j := 5) bd_220_5
    refine T_if1 (by decide +kernel) ?_
    refine T_let 220 (by decide +kernel) ?_
    refine T_if1 (by decide +kernel) ?_
    refine T_leq (fun x3 e4 => ?_)
    have u5 := CI_b c (k := 220) (j := 5) bd_220_5
    refine T_ite (fun h6 => ?_) (fun h6 => ?_)
    · exact hk s c f
    · refine T_if1 (by decide +kernel) ?_
      refine T_let 191 (by decide +kernel) ?_
      refine T_if1 (by decide +kernel) ?_
      refine T_let 194 (by decide +kernel) ?_
      refine T_if1 (by decide +kernel) ?_
      refine T_get (by decide +kernel) (c := 195) (by decide +kernel) bdr_195 (by decide) c (fun x7 e8 b9 w10 => ?_)
      have l11 : z_ln 194 = 200 := by decide +kernel
      refine T_if1 (by decide +kernel) ?_
      refine T_let 191 (by decide +kernel) ?_
      refine T_if1 (by decide +kernel) ?_
      refine T_let 196 (by decide +kernel) ?_
      refine T_if1 (by decide +kernel) ?_
      refine T_get (by decide +kernel) (c := 197) (by decide +kernel) bdr_197 (by decide) c (fun x12 e13 b14 w15 => ?_)
      have l16 : z_ln 196 = 200 := by decide +kernel
      refine T_leq (fun x17 e18 => ?_)
      have w19 := z_wb e18
      refine T_if1 (by decide +kernel) ?_
      refine T_let 191 (by decide +kernel) ?_
      refine T_if1 (by decide +kernel) ?_
      refine T_let 194 (by decide +kernel) ?_
      refine T_if1 (by decide +kernel) ?_
      refine T_get (by decide +kernel) (c := 195) (by decide +kernel) bdr_195 (by decide) c (fun x20 e21 b22 w23 => ?_)
      have l24 : z_ln 194 = 200 := by decide +kernel
      refine sl_X3_standingAt_258_L90 hfu r0 a2 a3 x17 (by omega) (by omega) (by omega) (fun s25 c26 f27 => ?_) fu s x20 c f (by omega) (by omega)
      have u28 := CI_b c26 (k := 220) (j := 4) bd_220_4
      have u29 := CI_b c26 (k := 220) (j := 5) bd_220_5
      refine T_leq (fun x30 e31 => ?_)
      have w32 := z_wb e31
      exact ih s25 x30 c26 f27 (by omega) (by omega)
theorem sf_X3_standingAt_258 {fu : Nat} (hfu : 8589934592 ≤ fu) (r0 : z_M) (c0 : z_CI r0) (a1 : Int) (a2 : Int) (b1 : -2147483648 ≤ a1 ∧ a1 ≤ 2147483647) (b2 : -2147483648 ≤ a2 ∧ a2 ≤ 2147483647) : z_T (fX3_standingAt fu r0 258 a1 a2) (P_X3_standingAt_258 r0) := by
  refine T_of (fX3_standingAt.eq_1 ..) ?_
  refine T_if1 (by decide +kernel) ?_
  refine T_let 220 (by decide +kernel) ?_
  refine T_if1 (by decide +kernel) ?_
  refine T_let 240 (by decide +kernel) ?_
  refine T_if1 (by decide +kernel) ?_
  refine T_let 247 (by decide +kernel) ?_
  refine T_if1 (by decide +kernel) ?_
  refine T_get (by decide +kernel) (c := 248) (by decide +kernel) bdr_248 (by decide) c0 (fun x1 e2 b3 w4 => ?_)
  have l5 : z_ln 247 = 201 := by decide +kernel
  refine T_if1 (by decide +kernel) ?_
  refine T_let 240 (by decide +kernel) ?_
  refine T_if1 (by decide +kernel) ?_
  refine T_let 247 (by decide +kernel) ?_
  refine T_leq (fun x6 e7 => ?_)
  have w8 := z_wb e7
  refine T_if1 (by decide +kernel) ?_
  refine T_get (by decide +kernel) (c := 248) (by decide +kernel) bdr_248 (by decide) c0 (fun x9 e10 b11 w12 => ?_)
  have l13 : z_ln 247 = 201 := by decide +kernel
  refine T_leq (fun x14 e15 => ?_)
  have w16 := z_wb e15
  refine T_if1 (by decide +kernel) ?_
  refine T_useN (sf_X5_trim_220 hfu r0 c0 x1 x14 (by omega) (by omega)) (fun v22 s17 hq => ?_)
  obtain ⟨c18, f19, rfl⟩ := hq
  refine T_vN ?_
  have f20 := z_Fr.tr (R := R_X3_standingAt_258) z_Fr.rf f19 (fun a h => by unfold R_X5_trim_220 at h; unfold R_X3_standingAt_258; omega)
  have u25 := CI_b c18 (k := 220) (j := 4) bd_220_4
  have u26 := CI_b c18 (k := 220) (j := 5) bd_220_5
  refine T_if1 (by decide +kernel) ?_
  refine T_let 220 (by decide +kernel) ?_
  refine T_if1 (by decide +kernel) ?_
  refine T_leq (fun x27 e28 => ?_)
  have u29 := CI_b c18 (k := 220) (j := 4) bd_220_4
  refine sl_X3_standingAt_258_L41 hfu r0 a2 (by omega) (fun s30 c31 f32 => ?_) fu s17 x27 c18 f20 (by omega) (by omega)
  have u33 := CI_b c31 (k := 220) (j := 4) bd_220_4
  have u34 := CI_b c31 (k := 220) (j := 5) bd_220_5
  exact T_ret ⟨c31, f32, ⟨(-1), rfl, by omega, by omega⟩⟩
abbrev R_X11_at_1 (a : Int) : Prop := (1 ≤ a ∧ a ≤ 1) ∨ (191 ≤ a ∧ a ≤ 244) ∨ (248 ≤ a ∧ a ≤ 248) ∨ (260 ≤ a ∧ a ≤ 295)
abbrev P_X11_at_1 (r0 : z_M) : z_V → z_M → Prop := fun v s' => z_CI s' ∧ z_Fr R_X11_at_1 r0 s' ∧ ((∃ x, v = vI x ∧ -2147483648 ≤ x ∧ x ≤ 2147483647) ∨ v = vX 0 ∨ v = vX 1)
theorem sf_X11_at_1 {fu : Nat} (hfu : 8589934592 ≤ fu) (r0 : z_M) (c0 : z_CI r0) (a1 : Int) (a2 : Int) (b1 : -2147483648 ≤ a1 ∧ a1 ≤ 2147483647) (b2 : -2147483648 ≤ a2 ∧ a2 ≤ 2147483647) : z_T (fX11_at fu r0 1 a1 a2) (P_X11_at_1 r0) := by
  refine T_of (fX11_at.eq_1 ..) ?_
  refine T_if1 (by decide +kernel) ?_
  refine T_useN (sf_X11_refresh_1 hfu r0 c0) (fun v6 s1 hq => ?_)
  obtain ⟨c2, f3, rfl⟩ := hq
  refine T_vN ?_
  have f4 := z_Fr.tr (R := R_X11_at_1) z_Fr.rf f3 (fun a h => by unfold R_X11_refresh_1 at h; unfold R_X11_at_1; omega)
  have u9 := CI_b c2 (k := 240) (j := 6) bd_240_6
  refine T_if1 (by decide +kernel) ?_
  refine T_let 240 (by decide +kernel) ?_
  refine T_if1 (by decide +kernel) ?_
  refine T_leq (fun x10 e11 => ?_)
  have u12 := CI_b c2 (k := 240) (j := 6) bd_240_6
  refine T_if1 (by decide +kernel) ?_
  refine T_ne ?_ (fun h13 h14 => ?_)
  · exact T_ret ⟨CI_up c2 bd_1_14 (z_wb rfl).1, z_Fr.up (R := R_X11_at_1) f4 (fun a b h => z_up_k h) (by decide), Or.inr (Or.inl rfl)⟩
  refine T_if1 (by decide +kernel) ?_
  refine T_let 258 (by decide +kernel) ?_
  refine T_if1 (by decide +kernel) ?_
  refine T_useI (sf_X3_standingAt_258 hfu s1 c2 a1 a2 (by omega) (by omega)) (fun v20 s15 hq => ?_)
  obtain ⟨c16, f17, ⟨x19, rfl, b21, b22⟩⟩ := hq
  refine T_vI ?_
  have f18 := z_Fr.tr (R := R_X11_at_1) f4 f17 (fun a h => by unfold R_X3_standingAt_258 at h; unfold R_X11_at_1; omega)
  have t23 : s15 240 6 = s1 240 6 := f17 240 6 (by decide)
  exact T_ret ⟨c16, f18, Or.inl (⟨x19, rfl, by omega, by omega⟩)⟩
abbrev R_X11_ends_1 (a : Int) : Prop := (1 ≤ a ∧ a ≤ 1) ∨ (191 ≤ a ∧ a ≤ 244) ∨ (248 ≤ a ∧ a ≤ 248) ∨ (260 ≤ a ∧ a ≤ 295)
abbrev P_X11_ends_1 (r0 : z_M) : z_V → z_M → Prop := fun v s' => z_CI s' ∧ z_Fr R_X11_ends_1 r0 s' ∧ ((∃ x, v = vI x ∧ 0 ≤ x ∧ x ≤ 1) ∨ v = vX 0 ∨ v = vX 1)
theorem sj_X11_ends_1_J36 {fu : Nat} (hfu : 8589934592 ≤ fu) (r0 s : z_M) (c : z_CI s) (f : z_Fr R_X11_ends_1 r0 s) (t0 : Int) (d0 : 0 ≤ t0 ∧ t0 ≤ 1) : z_T (fX11_ends_J36 fu s t0) (P_X11_ends_1 r0) := by
  refine T_of (fX11_ends_J36.eq_1 ..) ?_
  have u1 := CI_b c (k := 191) (j := 16) bd_191_16
  refine T_if1 (by unfold z_bl; omega) ?_
  exact T_ret ⟨c, f, Or.inl (⟨t0, rfl, by omega, by omega⟩)⟩
theorem sf_X11_ends_1 {fu : Nat} (hfu : 8589934592 ≤ fu) (r0 : z_M) (c0 : z_CI r0) (a1 : Int) (b1 : -2147483648 ≤ a1 ∧ a1 ≤ 2147483647) : z_T (fX11_ends fu r0 1 a1) (P_X11_ends_1 r0) := by
  refine T_of (fX11_ends.eq_1 ..) ?_
  refine T_if1 (by decide +kernel) ?_
  refine T_useN (sf_X11_refresh_1 hfu r0 c0) (fun v6 s1 hq => ?_)
  obtain ⟨c2, f3, rfl⟩ := hq
  refine T_vN ?_
  have f4 := z_Fr.tr (R := R_X11_ends_1) z_Fr.rf f3 (fun a h => by unfold R_X11_refresh_1 at h; unfold R_X11_ends_1; omega)
  have u9 := CI_b c2 (k := 191) (j := 16) bd_191_16
  refine T_if1 (by decide +kernel) ?_
  refine T_let 191 (by decide +kernel) ?_
  refine T_if1 (by decide +kernel) ?_
  refine T_leq (fun x10 e11 => ?_)
  have u12 := CI_b c2 (k := 191) (j := 16) bd_191_16
  refine T_if1 (by decide +kernel) ?_
  refine T_ne ?_ (fun h13 h14 => ?_)
  · exact T_ret ⟨CI_up c2 bd_1_14 (z_wb rfl).1, z_Fr.up (R := R_X11_ends_1) f4 (fun a b h => z_up_k h) (by decide), Or.inr (Or.inl rfl)⟩
  refine T_if1 (by decide +kernel) ?_
  refine T_let 191 (by decide +kernel) ?_
  refine T_if1 (by decide +kernel) ?_
  refine T_let 208 (by decide +kernel) ?_
  refine T_if1 (by decide +kernel) ?_
  refine T_get (by decide +kernel) (c := 209) (by decide +kernel) bdr_209 (by decide) c2 (fun x15 e16 b17 w18 => ?_)
  have l19 : z_ln 208 = 200 := by decide +kernel
  refine T_ite (fun h20 => ?_) (fun h20 => ?_)
  · exact sj_X11_ends_1_J36 hfu r0 s1 c2 f4 0 (by omega)
  · exact sj_X11_ends_1_J36 hfu r0 s1 c2 f4 1 (by omega)
abbrev R_X11_longOf_1 (a : Int) : Prop := (1 ≤ a ∧ a ≤ 1) ∨ (191 ≤ a ∧ a ≤ 244) ∨ (248 ≤ a ∧ a ≤ 248) ∨ (260 ≤ a ∧ a ≤ 295)
abbrev P_X11_longOf_1 (r0 : z_M) : z_V → z_M → Prop := fun v s' => z_CI s' ∧ z_Fr R_X11_longOf_1 r0 s' ∧ ((∃ x, v = vI x ∧ -2147483648 ≤ x ∧ x ≤ 2147483647) ∨ v = vX 0 ∨ v = vX 1)
theorem sf_X11_longOf_1 {fu : Nat} (hfu : 8589934592 ≤ fu) (r0 : z_M) (c0 : z_CI r0) (a1 : Int) (a2 : Int) (b1 : -2147483648 ≤ a1 ∧ a1 ≤ 2147483647) (b2 : -2147483648 ≤ a2 ∧ a2 ≤ 2147483647) : z_T (fX11_longOf fu r0 1 a1 a2) (P_X11_longOf_1 r0) := by
  refine T_of (fX11_longOf.eq_1 ..) ?_
  refine T_if1 (by decide +kernel) ?_
  refine T_useN (sf_X11_refresh_1 hfu r0 c0) (fun v6 s1 hq => ?_)
  obtain ⟨c2, f3, rfl⟩ := hq
  refine T_vN ?_
  have f4 := z_Fr.tr (R := R_X11_longOf_1) z_Fr.rf f3 (fun a h => by unfold R_X11_refresh_1 at h; unfold R_X11_longOf_1; omega)
  have u9 := CI_b c2 (k := 191) (j := 16) bd_191_16
  refine T_if1 (by decide +kernel) ?_
  refine T_let 191 (by decide +kernel) ?_
  refine T_if1 (by decide +kernel) ?_
  refine T_leq (fun x10 e11 => ?_)
  have u12 := CI_b c2 (k := 191) (j := 16) bd_191_16
  refine T_if1 (by decide +kernel) ?_
  refine T_ne ?_ (fun h13 h14 => ?_)
  · exact T_ret ⟨CI_up c2 bd_1_14 (z_wb rfl).1, z_Fr.up (R := R_X11_longOf_1) f4 (fun a b h => z_up_k h) (by decide), Or.inr (Or.inl rfl)⟩
  refine T_if1 (by decide +kernel) ?_
  refine T_let 191 (by decide +kernel) ?_
  refine T_if1 (by decide +kernel) ?_
  refine T_leq (fun x15 e16 => ?_)
  have u17 := CI_b c2 (k := 191) (j := 16) bd_191_16
  refine T_if1 (by decide +kernel) ?_
  refine T_ne ?_ (fun h18 h19 => ?_)
  · exact T_ret ⟨CI_up c2 bd_1_14 (z_wb rfl).1, z_Fr.up (R := R_X11_longOf_1) f4 (fun a b h => z_up_k h) (by decide), Or.inr (Or.inl rfl)⟩
  refine T_if1 (by decide +kernel) ?_
  refine T_let 191 (by decide +kernel) ?_
  refine T_if1 (by decide +kernel) ?_
  refine T_leq (fun x20 e21 => ?_)
  have u22 := CI_b c2 (k := 191) (j := 16) bd_191_16
  refine T_if1 (by decide +kernel) ?_
  refine T_nw ?_ (fun h23 h24 => ?_)
  · exact T_ret ⟨CI_up c2 bd_1_15 (z_wb rfl).1, z_Fr.up (R := R_X11_longOf_1) f4 (fun a b h => z_up_k h) (by decide), Or.inr (Or.inr rfl)⟩
  refine T_if1 (by decide +kernel) ?_
  refine T_let 220 (by decide +kernel) ?_
  refine T_if1 (by decide +kernel) ?_
  refine T_useI (sf_X5_lengthOf_220 hfu s1 c2 a1 a2 (by omega) (by omega)) (fun v30 s25 hq => ?_)
  obtain ⟨c26, f27, ⟨x29, rfl, b31, b32⟩⟩ := hq
  refine T_vI ?_
  have f28 := z_Fr.tr (R := R_X11_longOf_1) f4 f27 (fun a h => by unfold R_X5_lengthOf_220 at h; unfold R_X11_longOf_1; omega)
  have t33 : s25 191 16 = s1 191 16 := f27 191 16 (by decide)
  exact T_ret ⟨c26, f28, Or.inl (⟨x29, rfl, by omega, by omega⟩)⟩
abbrev R_X11_lines_1 (a : Int) : Prop := (1 ≤ a ∧ a ≤ 1) ∨ (191 ≤ a ∧ a ≤ 244) ∨ (248 ≤ a ∧ a ≤ 253) ∨ (257 ≤ a ∧ a ≤ 257) ∨ (260 ≤ a ∧ a ≤ 295)
abbrev P_X11_lines_1 (r0 : z_M) : z_V → z_M → Prop := fun v s' => z_CI s' ∧ z_Fr R_X11_lines_1 r0 s' ∧ ((∃ x, v = vI x ∧ -2147483648 ≤ x ∧ x ≤ 2147483647) ∨ v = vX 0 ∨ v = vX 1)
theorem sf_X11_lines_1 {fu : Nat} (hfu : 8589934592 ≤ fu) (r0 : z_M) (c0 : z_CI r0) (a1 : Int) (a2 : Int) (b1 : -2147483648 ≤ a1 ∧ a1 ≤ 2147483647) (b2 : -2147483648 ≤ a2 ∧ a2 ≤ 2147483647) : z_T (fX11_lines fu r0 1 a1 a2) (P_X11_lines_1 r0) := by
  refine T_of (fX11_lines.eq_1 ..) ?_
  refine T_pick (by decide) (fun x1 e2 b3 => ?_)
  have b4 : x1 = (12 : Int) := by rw [← e2]; decide +kernel
  refine T_pick (by decide) (fun x5 e6 b7 => ?_)
  have b8 : x5 = (999 : Int) := by rw [← e6]; decide +kernel
  refine T_if1 (by decide +kernel) ?_
  refine T_nw ?_ (fun h9 h10 => ?_)
  · exact T_ret ⟨CI_up c0 bd_1_15 (z_wb rfl).1, z_Fr.up (R := R_X11_lines_1) z_Fr.rf (fun a b h => z_up_k h) (by decide), Or.inr (Or.inr rfl)⟩
  refine T_if1 (by decide +kernel) ?_
  refine T_nw ?_ (fun h11 h12 => ?_)
  · exact T_ret ⟨CI_up c0 bd_1_15 (z_wb rfl).1, z_Fr.up (R := R_X11_lines_1) z_Fr.rf (fun a b h => z_up_k h) (by decide), Or.inr (Or.inr rfl)⟩
  refine T_if1 (by decide +kernel) ?_
  refine T_useN (sf_X11_refresh_1 hfu r0 c0) (fun v18 s13 hq => ?_)
  obtain ⟨c14, f15, rfl⟩ := hq
  refine T_vN ?_
  have f16 := z_Fr.tr (R := R_X11_lines_1) z_Fr.rf f15 (fun a h => by unfold R_X11_refresh_1 at h; unfold R_X11_lines_1; omega)
  have t21 : s13 249 6 = r0 249 6 := f15 249 6 (by decide)
  refine T_if1 (by decide +kernel) ?_
  refine T_let 249 (by decide +kernel) ?_
  refine T_if1 (by decide +kernel) ?_
  refine T_useN (sf_X1_go_249 hfu s13 c14 a1 a2 (by omega) (by omega)) (fun v27 s22 hq => ?_)
  obtain ⟨c23, f24, rfl⟩ := hq
  refine T_vN ?_
  have f25 := z_Fr.tr (R := R_X11_lines_1) f16 f24 (fun a h => by unfold R_X1_go_249 at h; unfold R_X11_lines_1; omega)
  have u30 := CI_b c23 (k := 249) (j := 6) bd_249_6
  refine T_if1 (by decide +kernel) ?_
  refine T_let 249 (by decide +kernel) ?_
  refine T_if1 (by decide +kernel) ?_
  refine T_leq (fun x31 e32 => ?_)
  have u33 := CI_b c23 (k := 249) (j := 6) bd_249_6
  exact T_ret ⟨c23, f25, Or.inl (⟨x31, rfl, by omega, by omega⟩)⟩
abbrev R_X1_fewest_249 (a : Int) : Prop := (220 ≤ a ∧ a ≤ 239) ∨ (255 ≤ a ∧ a ≤ 255)
abbrev P_X1_fewest_249 (r0 : z_M) : z_V → z_M → Prop := fun v s' => z_CI s' ∧ z_Fr R_X1_fewest_249 r0 s' ∧ (∃ x, v = vI x ∧ -2147483648 ≤ x ∧ x ≤ 2147483647)
theorem sj_X1_fewest_249_J128 {fu : Nat} (hfu : 8589934592 ≤ fu) (r0 s : z_M) (c : z_CI s) (f : z_Fr R_X1_fewest_249 r0 s) (a1 : Int) (a2 : Int) (a3 : Int) (a4 : Int) (a5 : Int) (b1 : -2147483648 ≤ a1 ∧ a1 ≤ 2147483647) (b2 : -2147483648 ≤ a2 ∧ a2 ≤ 2147483647) (b3 : 0 ≤ a3 ∧ a3 ≤ 200) (b4 : -2147483648 ≤ a4 ∧ a4 ≤ 2147483647) (b5 : 0 ≤ a5 ∧ a5 ≤ 199) (M : Int) (pm : 2147483647 - a5 ≤ M) {r : z_M → Int → Int → z_O} {k : z_M → Int → z_O} (hr : ∀ (s' : z_M) (v4 : Int) (v5 : Int), z_CI s' → z_Fr R_X1_fewest_249 r0 s' → (-2147483648 ≤ v4 ∧ v4 ≤ 2147483647) → (0 ≤ v5 ∧ v5 ≤ 200) → (2147483647 - v5 < M) → z_T (r s' v4 v5) (P_X1_fewest_249 r0)) (hk : ∀ (s' : z_M) (v4 : Int), z_CI s' → z_Fr R_X1_fewest_249 r0 s' → (-2147483648 ≤ v4 ∧ v4 ≤ 2147483647) → z_T (k s' v4) (P_X1_fewest_249 r0)) : z_T (fX1_fewest_J128 fu s 249 a1 a2 a3 a4 a5 r k) (P_X1_fewest_249 r0) := by
  refine T_of (fX1_fewest_J128.eq_1 ..) ?_
  have u1 := CI_b c (k := 191) (j := 16) bd_191_16
  refine T_leq (fun x2 e3 => ?_)
  have w4 := z_wb e3
  exact hr s a4 x2 c f (by omega) (by omega) (by omega)
theorem sj_X1_fewest_249_J103 {fu : Nat} (hfu : 8589934592 ≤ fu) (r0 s : z_M) (c : z_CI s) (f : z_Fr R_X1_fewest_249 r0 s) (a1 : Int) (a2 : Int) (a3 : Int) (a4 : Int) (a5 : Int) (a6 : Int) (t0 : Int) (b1 : -2147483648 ≤ a1 ∧ a1 ≤ 2147483647) (b2 : -2147483648 ≤ a2 ∧ a2 ≤ 2147483647) (b3 : 0 ≤ a3 ∧ a3 ≤ 200) (b4 : -2147483648 ≤ a4 ∧ a4 ≤ 2147483647) (b5 : 0 ≤ a5 ∧ a5 ≤ 199) (b6 : -2147483648 ≤ a6 ∧ a6 ≤ 2147483647) (d0 : 0 ≤ t0 ∧ t0 ≤ 1) (M : Int) (pm : 2147483647 - a5 ≤ M) {r : z_M → Int → Int → z_O} {k : z_M → Int → z_O} (hr : ∀ (s' : z_M) (v4 : Int) (v5 : Int), z_CI s' → z_Fr R_X1_fewest_249 r0 s' → (-2147483648 ≤ v4 ∧ v4 ≤ 2147483647) → (0 ≤ v5 ∧ v5 ≤ 200) → (2147483647 - v5 < M) → z_T (r s' v4 v5) (P_X1_fewest_249 r0)) (hk : ∀ (s' : z_M) (v4 : Int), z_CI s' → z_Fr R_X1_fewest_249 r0 s' → (-2147483648 ≤ v4 ∧ v4 ≤ 2147483647) → z_T (k s' v4) (P_X1_fewest_249 r0)) : z_T (fX1_fewest_J103 fu s 249 a1 a2 a3 a4 a5 a6 t0 r k) (P_X1_fewest_249 r0) := by
  refine T_of (fX1_fewest_J103.eq_1 ..) ?_
  have u1 := CI_b c (k := 191) (j := 16) bd_191_16
  refine T_ite (fun h2 => ?_) (fun h2 => ?_)
  · exact sj_X1_fewest_249_J128 hfu r0 s c f a1 a2 a3 a4 a5 (by omega) (by omega) (by omega) (by omega) (by omega) M (by omega) (fun s' v4 v5 c' f' w4 w5 pg => hr s' v4 v5 c' f' w4 w5 (by omega)) hk
  · refine T_if1 (by decide +kernel) ?_
    refine T_let 220 (by decide +kernel) ?_
    refine T_if1 (by decide +kernel) ?_
    refine T_useI (sf_X5_lengthOf_220 hfu s c a3 a5 (by omega) (by omega)) (fun v8 s3 hq => ?_)
    obtain ⟨c4, f5, ⟨x7, rfl, b9, b10⟩⟩ := hq
    refine T_vI ?_
    have f6 := z_Fr.tr (R := R_X1_fewest_249) f f5 (fun a h => by unfold R_X5_lengthOf_220 at h; unfold R_X1_fewest_249; omega)
    have t11 : s3 191 16 = s 191 16 := f5 191 16 (by decide)
    refine T_ite (fun h12 => ?_) (fun h12 => ?_)
    · exact sj_X1_fewest_249_J128 hfu r0 s3 c4 f6 a1 a2 a3 a4 a5 (by omega) (by omega) (by omega) (by omega) (by omega) M (by omega) (fun s' v4 v5 c' f' w4 w5 pg => hr s' v4 v5 c' f' w4 w5 (by omega)) hk
    · exact sj_X1_fewest_249_J128 hfu r0 s3 c4 f6 a1 a2 a3 a6 a5 (by omega) (by omega) (by omega) (by omega) (by omega) M (by omega) (fun s' v4 v5 c' f' w4 w5 pg => hr s' v4 v5 c' f' w4 w5 (by omega)) hk
theorem sj_X1_fewest_249_J102 {fu : Nat} (hfu : 8589934592 ≤ fu) (r0 s : z_M) (c : z_CI s) (f : z_Fr R_X1_fewest_249 r0 s) (a1 : Int) (a2 : Int) (a3 : Int) (a4 : Int) (a5 : Int) (a6 : Int) (b1 : -2147483648 ≤ a1 ∧ a1 ≤ 2147483647) (b2 : -2147483648 ≤ a2 ∧ a2 ≤ 2147483647) (b3 : 0 ≤ a3 ∧ a3 ≤ 200) (b4 : -2147483648 ≤ a4 ∧ a4 ≤ 2147483647) (b5 : 0 ≤ a5 ∧ a5 ≤ 199) (b6 : -2147483648 ≤ a6 ∧ a6 ≤ 2147483647) (M : Int) (pm : 2147483647 - a5 ≤ M) {r : z_M → Int → Int → z_O} {k : z_M → Int → z_O} (hr : ∀ (s' : z_M) (v4 : Int) (v5 : Int), z_CI s' → z_Fr R_X1_fewest_249 r0 s' → (-2147483648 ≤ v4 ∧ v4 ≤ 2147483647) → (0 ≤ v5 ∧ v5 ≤ 200) → (2147483647 - v5 < M) → z_T (r s' v4 v5) (P_X1_fewest_249 r0)) (hk : ∀ (s' : z_M) (v4 : Int), z_CI s' → z_Fr R_X1_fewest_249 r0 s' → (-2147483648 ≤ v4 ∧ v4 ≤ 2147483647) → z_T (k s' v4) (P_X1_fewest_249 r0)) : z_T (fX1_fewest_J102 fu s 249 a1 a2 a3 a4 a5 a6 r k) (P_X1_fewest_249 r0) := by
  refine T_of (fX1_fewest_J102.eq_1 ..) ?_
  have u1 := CI_b c (k := 191) (j := 16) bd_191_16
  exact sj_X1_fewest_249_J103 hfu r0 s c f a1 a2 a3 a4 a5 a6 0 (by omega) (by omega) (by omega) (by omega) (by omega) (by omega) (by omega) M (by omega) (fun s' v4 v5 c' f' w4 w5 pg => hr s' v4 v5 c' f' w4 w5 (by omega)) hk
theorem sj_X1_fewest_249_J98 {fu : Nat} (hfu : 8589934592 ≤ fu) (r0 s : z_M) (c : z_CI s) (f : z_Fr R_X1_fewest_249 r0 s) (a1 : Int) (a2 : Int) (a3 : Int) (a4 : Int) (a5 : Int) (a6 : Int) (b1 : -2147483648 ≤ a1 ∧ a1 ≤ 2147483647) (b2 : -2147483648 ≤ a2 ∧ a2 ≤ 2147483647) (b3 : 0 ≤ a3 ∧ a3 ≤ 200) (b4 : -2147483648 ≤ a4 ∧ a4 ≤ 2147483647) (b5 : 0 ≤ a5 ∧ a5 ≤ 199) (b6 : -2147483648 ≤ a6 ∧ a6 ≤ 2147483647) (M : Int) (pm : 2147483647 - a5 ≤ M) {r : z_M → Int → Int → z_O} {k : z_M → Int → z_O} (hr : ∀ (s' : z_M) (v4 : Int) (v5 : Int), z_CI s' → z_Fr R_X1_fewest_249 r0 s' → (-2147483648 ≤ v4 ∧ v4 ≤ 2147483647) → (0 ≤ v5 ∧ v5 ≤ 200) → (2147483647 - v5 < M) → z_T (r s' v4 v5) (P_X1_fewest_249 r0)) (hk : ∀ (s' : z_M) (v4 : Int), z_CI s' → z_Fr R_X1_fewest_249 r0 s' → (-2147483648 ≤ v4 ∧ v4 ≤ 2147483647) → z_T (k s' v4) (P_X1_fewest_249 r0)) : z_T (fX1_fewest_J98 fu s 249 a1 a2 a3 a4 a5 a6 r k) (P_X1_fewest_249 r0) := by
  refine T_of (fX1_fewest_J98.eq_1 ..) ?_
  have u1 := CI_b c (k := 191) (j := 16) bd_191_16
  exact sj_X1_fewest_249_J103 hfu r0 s c f a1 a2 a3 a4 a5 a6 1 (by omega) (by omega) (by omega) (by omega) (by omega) (by omega) (by omega) M (by omega) (fun s' v4 v5 c' f' w4 w5 pg => hr s' v4 v5 c' f' w4 w5 (by omega)) hk
theorem sl_X1_fewest_249_L37 {fu : Nat} (hfu : 8589934592 ≤ fu) (r0 : z_M) (a1 : Int) (a2 : Int) (a3 : Int) (b1 : -2147483648 ≤ a1 ∧ a1 ≤ 2147483647) (b2 : -2147483648 ≤ a2 ∧ a2 ≤ 2147483647) (b3 : 0 ≤ a3 ∧ a3 ≤ 200) {k : z_M → Int → z_O} (hk : ∀ (s' : z_M) (v4 : Int), z_CI s' → z_Fr R_X1_fewest_249 r0 s' → (-2147483648 ≤ v4 ∧ v4 ≤ 2147483647) → z_T (k s' v4) (P_X1_fewest_249 r0)) : ∀ (F : Nat) (s : z_M) (a4 : Int) (a5 : Int), z_CI s → z_Fr R_X1_fewest_249 r0 s → (-2147483648 ≤ a4 ∧ a4 ≤ 2147483647) → (0 ≤ a5 ∧ a5 ≤ 200) → (2147483647 - a5 < (F : Int)) → z_T (fX1_fewest_L37 fu 249 a1 a2 a3 F s a4 a5 k) (P_X1_fewest_249 r0) := by
  intro F
  induction F with
  | zero =>
    intro s a4 a5 c f b4 b5 hm
    have u39 := CI_b c (k := 191) (j := 16) bd_191_16
    exfalso; omega
  | succ F ih =>
    intro s a4 a5 c f b4 b5 hm
    refine T_of (fX1_fewest_L37.eq_2 ..) ?_
    have u1 := CI_b c (k := 191) (j := 16) bd_191_16
    refine T_if1 (by decide +kernel) ?_
    refine T_let 191 (by decide +kernel) ?_
    refine T_if1 (by decide +kernel) ?_
    refine T_leq (fun x2 e3 => ?_)
    have u4 := CI_b c (k := 191) (j := 16) bd_191_16
    refine T_ite (fun h5 => ?_) (fun h5 => ?_)
    · exact hk s a4 c f (by omega)
    · refine T_if1 (by decide +kernel) ?_
      refine T_let 191 (by decide +kernel) ?_
      refine T_if1 (by decide +kernel) ?_
      refine T_useI (sf_X10_solid_191 hfu s c a3 a5 (by omega) (by omega)) (fun v11 s6 hq => ?_)
      obtain ⟨c7, f8, ⟨x10, rfl, b12, b13⟩⟩ := hq
      refine T_vI ?_
      have f9 := z_Fr.tr (R := R_X1_fewest_249) f f8 (fun a h => absurd h not_false)
      have t14 : s6 191 16 = s 191 16 := f8 191 16 (by decide)
      refine T_ite (fun h15 => ?_) (fun h15 => ?_)
      · exact hk s6 a4 c7 f9 (by omega)
      · refine T_if1 (by decide +kernel) ?_
        refine T_let 254 (by decide +kernel) ?_
        refine T_leq (fun x16 e17 => ?_)
        have w18 := z_wb e17
        refine T_if1 (by decide +kernel) ?_
        refine T_get (by decide +kernel) (c := 255) (by decide +kernel) bdr_255 (by decide) c7 (fun x19 e20 b21 w22 => ?_)
        have l23 : z_ln 254 = 201 := by decide +kernel
        refine T_leq (fun x24 e25 => ?_)
        have w26 := z_wb e25
        refine T_ite (fun h27 => ?_) (fun h27 => ?_)
        · exact sj_X1_fewest_249_J102 hfu r0 s6 c7 f9 a1 a2 a3 a4 a5 x24 (by omega) (by omega) (by omega) (by omega) (by omega) (by omega) (2147483647 - a5) (by omega) (fun s' v4 v5 c' f' w4 w5 pg => ih s' v4 v5 c' f' w4 w5 (by omega)) hk
        · refine T_ite (fun h28 => ?_) (fun h28 => ?_)
          · exact sj_X1_fewest_249_J98 hfu r0 s6 c7 f9 a1 a2 a3 a4 a5 x24 (by omega) (by omega) (by omega) (by omega) (by omega) (by omega) (2147483647 - a5) (by omega) (fun s' v4 v5 c' f' w4 w5 pg => ih s' v4 v5 c' f' w4 w5 (by omega)) hk
          · refine T_if1 (by decide +kernel) ?_
            refine T_useI (sf_X1_closesLine_249 hfu s6 c7 a5 (by omega)) (fun v34 s29 hq => ?_)
            obtain ⟨c30, f31, ⟨x33, rfl, b35, b36⟩⟩ := hq
            refine T_vI ?_
            have f32 := z_Fr.tr (R := R_X1_fewest_249) f9 f31 (fun a h => absurd h not_false)
            have t37 : s29 191 16 = s6 191 16 := f31 191 16 (by decide)
            refine T_ite (fun h38 => ?_) (fun h38 => ?_)
            · exact sj_X1_fewest_249_J102 hfu r0 s29 c30 f32 a1 a2 a3 a4 a5 x24 (by omega) (by omega) (by omega) (by omega) (by omega) (by omega) (2147483647 - a5) (by omega) (fun s' v4 v5 c' f' w4 w5 pg => ih s' v4 v5 c' f' w4 w5 (by omega)) hk
            · exact sj_X1_fewest_249_J98 hfu r0 s29 c30 f32 a1 a2 a3 a4 a5 x24 (by omega) (by omega) (by omega) (by omega) (by omega) (by omega) (2147483647 - a5) (by omega) (fun s' v4 v5 c' f' w4 w5 pg => ih s' v4 v5 c' f' w4 w5 (by omega)) hk
theorem sj_X1_fewest_249_J134 {fu : Nat} (hfu : 8589934592 ≤ fu) (r0 s : z_M) (c : z_CI s) (f : z_Fr R_X1_fewest_249 r0 s) (a1 : Int) (a2 : Int) (a3 : Int) (a4 : Int) (b1 : -2147483648 ≤ a1 ∧ a1 ≤ 2147483647) (b2 : -2147483648 ≤ a2 ∧ a2 ≤ 2147483647) (b3 : 0 ≤ a3 ∧ a3 ≤ 200) (b4 : -2147483648 ≤ a4 ∧ a4 ≤ 2147483647) (M : Int) (pm : a3 + 2147483648 ≤ M) {r : z_M → Int → z_O} {k : z_M → z_O} (hr : ∀ (s' : z_M) (v3 : Int), z_CI s' → z_Fr R_X1_fewest_249 r0 s' → ((-1) ≤ v3 ∧ v3 ≤ 199) → (v3 + 2147483648 < M) → z_T (r s' v3) (P_X1_fewest_249 r0)) (hk : ∀ (s' : z_M), z_CI s' → z_Fr R_X1_fewest_249 r0 s' → z_T (k s') (P_X1_fewest_249 r0)) : z_T (fX1_fewest_J134 fu s 249 a1 a2 a3 a4 r k) (P_X1_fewest_249 r0) := by
  refine T_of (fX1_fewest_J134.eq_1 ..) ?_
  have u1 := CI_b c (k := 191) (j := 16) bd_191_16
  refine T_if1 (by decide +kernel) ?_
  refine T_let 254 (by decide +kernel) ?_
  refine T_if1 (by decide +kernel) ?_
  refine T_put (by decide +kernel) (c := 255) (by decide +kernel) bdr_255 (by omega) c (fun s2 e5 c3 g6 => ?_)
  have f4 := z_Fr.up (R := R_X1_fewest_249) f g6 (by decide)
  have t7 : s2 191 16 = s 191 16 := g6 191 16 (by decide)
  refine T_leq (fun x8 e9 => ?_)
  have w10 := z_wb e9
  exact hr s2 x8 c3 f4 (by omega) (by omega)
theorem sl_X1_fewest_249_L25 {fu : Nat} (hfu : 8589934592 ≤ fu) (r0 : z_M) (a1 : Int) (a2 : Int) (b1 : -2147483648 ≤ a1 ∧ a1 ≤ 2147483647) (b2 : -2147483648 ≤ a2 ∧ a2 ≤ 2147483647) {k : z_M → z_O} (hk : ∀ (s' : z_M), z_CI s' → z_Fr R_X1_fewest_249 r0 s' → z_T (k s') (P_X1_fewest_249 r0)) : ∀ (F : Nat) (s : z_M) (a3 : Int), z_CI s → z_Fr R_X1_fewest_249 r0 s → ((-1) ≤ a3 ∧ a3 ≤ 199) → (a3 + 2147483648 < (F : Int)) → z_T (fX1_fewest_L25 fu 249 a1 a2 F s a3 k) (P_X1_fewest_249 r0) := by
  intro F
  induction F with
  | zero =>
    intro s a3 c f b3 hm
    have u9 := CI_b c (k := 191) (j := 16) bd_191_16
    exfalso; omega
  | succ F ih =>
    intro s a3 c f b3 hm
    refine T_of (fX1_fewest_L25.eq_2 ..) ?_
    have u1 := CI_b c (k := 191) (j := 16) bd_191_16
    refine T_ite (fun h2 => ?_) (fun h2 => ?_)
    · exact hk s c f
    · refine sl_X1_fewest_249_L37 hfu r0 a1 a2 a3 (by omega) (by omega) (by omega) (fun s3 y6 c4 f5 b7 => ?_) fu s 201 a3 c f (by omega) (by omega) (by omega)
      have u8 := CI_b c4 (k := 191) (j := 16) bd_191_16
      exact sj_X1_fewest_249_J134 hfu r0 s3 c4 f5 a1 a2 a3 y6 (by omega) (by omega) (by omega) (by omega) (a3 + 2147483648) (by omega) (fun s' v3 c' f' w3 pg => ih s' v3 c' f' w3 (by omega)) hk
theorem sf_X1_fewest_249 {fu : Nat} (hfu : 8589934592 ≤ fu) (r0 : z_M) (c0 : z_CI r0) (a1 : Int) (a2 : Int) (b1 : -2147483648 ≤ a1 ∧ a1 ≤ 2147483647) (b2 : -2147483648 ≤ a2 ∧ a2 ≤ 2147483647) : z_T (fX1_fewest fu r0 249 a1 a2) (P_X1_fewest_249 r0) := by
  refine T_of (fX1_fewest.eq_1 ..) ?_
  refine T_if1 (by decide +kernel) ?_
  refine T_let 254 (by decide +kernel) ?_
  refine T_if1 (by decide +kernel) ?_
  refine T_let 191 (by decide +kernel) ?_
  refine T_if1 (by decide +kernel) ?_
  refine T_leq (fun x1 e2 => ?_)
  have u3 := CI_b c0 (k := 191) (j := 16) bd_191_16
  refine T_if1 (by decide +kernel) ?_
  refine T_put (by decide +kernel) (c := 255) (by decide +kernel) bdr_255 (by omega) c0 (fun s4 e7 c5 g8 => ?_)
  have f6 := z_Fr.up (R := R_X1_fewest_249) z_Fr.rf g8 (by decide)
  have t9 : s4 191 16 = r0 191 16 := g8 191 16 (by decide)
  refine T_if1 (by decide +kernel) ?_
  refine T_let 191 (by decide +kernel) ?_
  refine T_if1 (by decide +kernel) ?_
  refine T_leq (fun x10 e11 => ?_)
  have u12 := CI_b c5 (k := 191) (j := 16) bd_191_16
  refine T_leq (fun x13 e14 => ?_)
  have w15 := z_wb e14
  refine sl_X1_fewest_249_L25 hfu r0 a1 a2 (by omega) (by omega) (fun s16 c17 f18 => ?_) fu s4 x13 c5 f6 (by omega) (by omega)
  have u19 := CI_b c17 (k := 191) (j := 16) bd_191_16
  refine T_if1 (by decide +kernel) ?_
  refine T_let 254 (by decide +kernel) ?_
  refine T_if1 (by decide +kernel) ?_
  refine T_get (by decide +kernel) (c := 255) (by decide +kernel) bdr_255 (by decide) c17 (fun x20 e21 b22 w23 => ?_)
  have l24 : z_ln 254 = 201 := by decide +kernel
  exact T_ret ⟨c17, f18, ⟨x20, rfl, by omega, by omega⟩⟩
abbrev R_X11_shortestFor_1 (a : Int) : Prop := (220 ≤ a ∧ a ≤ 239) ∨ (255 ≤ a ∧ a ≤ 255)
abbrev P_X11_shortestFor_1 (r0 : z_M) : z_V → z_M → Prop := fun v s' => z_CI s' ∧ z_Fr R_X11_shortestFor_1 r0 s' ∧ (∃ x, v = vI x ∧ -2147483648 ≤ x ∧ x ≤ 2147483647)
theorem sj_X11_shortestFor_1_J59 {fu : Nat} (hfu : 8589934592 ≤ fu) (r0 s : z_M) (c : z_CI s) (f : z_Fr R_X11_shortestFor_1 r0 s) (a1 : Int) (a2 : Int) (a3 : Int) (a4 : Int) (b1 : -2147483648 ≤ a1 ∧ a1 ≤ 2147483647) (b2 : -2147483648 ≤ a2 ∧ a2 ≤ 2147483647) (b3 : 12 ≤ a3 ∧ a3 ≤ 1000) (b4 : 12 ≤ a4 ∧ a4 ≤ 1000) (p0 : a3 ≤ a4) (M : Int) (pm : a4 - a3 < M) {r : z_M → Int → Int → z_O} {k : z_M → Int → z_O} (hr : ∀ (s' : z_M) (v3 : Int) (v4 : Int), z_CI s' → z_Fr R_X11_shortestFor_1 r0 s' → (12 ≤ v3 ∧ v3 ≤ 1000) → (12 ≤ v4 ∧ v4 ≤ 1000) → (v3 ≤ v4) → (v4 - v3 < M) → z_T (r s' v3 v4) (P_X11_shortestFor_1 r0)) (hk : ∀ (s' : z_M) (v3 : Int), z_CI s' → z_Fr R_X11_shortestFor_1 r0 s' → (12 ≤ v3 ∧ v3 ≤ 1000) → z_T (k s' v3) (P_X11_shortestFor_1 r0)) : z_T (fX11_shortestFor_J59 fu s 1 a1 a2 a3 a4 r k) (P_X11_shortestFor_1 r0) := by
  refine T_of (fX11_shortestFor_J59.eq_1 ..) ?_
  exact hr s a3 a4 c f (by omega) (by omega) (by omega) (by omega)
theorem sl_X11_shortestFor_1_L19 {fu : Nat} (hfu : 8589934592 ≤ fu) (r0 : z_M) (a1 : Int) (a2 : Int) (b1 : -2147483648 ≤ a1 ∧ a1 ≤ 2147483647) (b2 : -2147483648 ≤ a2 ∧ a2 ≤ 2147483647) {k : z_M → Int → z_O} (hk : ∀ (s' : z_M) (v3 : Int), z_CI s' → z_Fr R_X11_shortestFor_1 r0 s' → (12 ≤ v3 ∧ v3 ≤ 1000) → z_T (k s' v3) (P_X11_shortestFor_1 r0)) : ∀ (F : Nat) (s : z_M) (a3 : Int) (a4 : Int), z_CI s → z_Fr R_X11_shortestFor_1 r0 s → (12 ≤ a3 ∧ a3 ≤ 1000) → (12 ≤ a4 ∧ a4 ≤ 1000) → (a3 ≤ a4) → (a4 - a3 < (F : Int)) → z_T (fX11_shortestFor_L19 fu 1 a1 a2 F s a3 a4 k) (P_X11_shortestFor_1 r0) := by
  intro F
  induction F with
  | zero =>
    intro s a3 a4 c f b3 b4 i0 hm
    exfalso; omega
  | succ F ih =>
    intro s a3 a4 c f b3 b4 i0 hm
    refine T_of (fX11_shortestFor_L19.eq_2 ..) ?_
    refine T_ite (fun h1 => ?_) (fun h1 => ?_)
    · exact hk s a3 c f (by omega)
    · refine T_leq (fun x2 e3 => ?_)
      have w4 := z_wb e3
      refine T_if1 (by omega) ?_
      refine T_leq (fun x5 e6 => ?_)
      have w7 := z_wb e6
      have w8 := z_td2 (e := x2)
      refine T_if1 (by decide +kernel) ?_
      refine T_let 249 (by decide +kernel) ?_
      refine T_if1 (by decide +kernel) ?_
      refine T_useI (sf_X1_fewest_249 hfu s c x5 a2 (by omega) (by omega)) (fun v14 s9 hq => ?_)
      obtain ⟨c10, f11, ⟨x13, rfl, b15, b16⟩⟩ := hq
      refine T_vI ?_
      have f12 := z_Fr.tr (R := R_X11_shortestFor_1) f f11 (fun a h => by unfold R_X1_fewest_249 at h; unfold R_X11_shortestFor_1; omega)
      refine T_ite (fun h17 => ?_) (fun h17 => ?_)
      · refine T_leq (fun x18 e19 => ?_)
        have w20 := z_wb e19
        exact sj_X11_shortestFor_1_J59 hfu r0 s9 c10 f12 a1 a2 x18 a4 (by omega) (by omega) (by omega) (by omega) (by omega) (a4 - a3) (by omega) (fun s' v3 v4 c' f' w3 w4 z0 pg => ih s' v3 v4 c' f' w3 w4 z0 (by omega)) hk
      · exact sj_X11_shortestFor_1_J59 hfu r0 s9 c10 f12 a1 a2 a3 x5 (by omega) (by omega) (by omega) (by omega) (by omega) (a4 - a3) (by omega) (fun s' v3 v4 c' f' w3 w4 z0 pg => ih s' v3 v4 c' f' w3 w4 z0 (by omega)) hk
theorem sf_X11_shortestFor_1 {fu : Nat} (hfu : 8589934592 ≤ fu) (r0 : z_M) (c0 : z_CI r0) (a1 : Int) (a2 : Int) (b1 : -2147483648 ≤ a1 ∧ a1 ≤ 2147483647) (b2 : -2147483648 ≤ a2 ∧ a2 ≤ 2147483647) : z_T (fX11_shortestFor fu r0 1 a1 a2) (P_X11_shortestFor_1 r0) := by
  refine T_of (fX11_shortestFor.eq_1 ..) ?_
  refine T_pick (by decide) (fun x1 e2 b3 => ?_)
  have b4 : x1 = (12 : Int) := by rw [← e2]; decide +kernel
  refine T_pick (by decide) (fun x5 e6 b7 => ?_)
  have b8 : x5 = (999 : Int) := by rw [← e6]; decide +kernel
  refine T_leq (fun x9 e10 => ?_)
  have w11 := z_wb e10
  refine sl_X11_shortestFor_1_L19 hfu r0 a1 a2 (by omega) (by omega) (fun s12 y15 c13 f14 b16 => ?_) fu r0 x1 x9 c0 z_Fr.rf (by omega) (by omega) (by omega) (by omega)
  exact T_ret ⟨c13, f14, ⟨y15, rfl, by omega, by omega⟩⟩
abbrev R_X1_longOfLine_249 (a : Int) : Prop := (220 ≤ a ∧ a ≤ 239)
abbrev P_X1_longOfLine_249 (r0 : z_M) : z_V → z_M → Prop := fun v s' => z_CI s' ∧ z_Fr R_X1_longOfLine_249 r0 s' ∧ (∃ x, v = vI x ∧ -2147483648 ≤ x ∧ x ≤ 2147483647)
theorem sf_X1_longOfLine_249 {fu : Nat} (hfu : 8589934592 ≤ fu) (r0 : z_M) (c0 : z_CI r0) (a1 : Int) (b1 : -2147483648 ≤ a1 ∧ a1 ≤ 2147483647) : z_T (fX1_longOfLine fu r0 249 a1) (P_X1_longOfLine_249 r0) := by
  refine T_of (fX1_longOfLine.eq_1 ..) ?_
  refine T_if1 (by decide +kernel) ?_
  refine T_let 220 (by decide +kernel) ?_
  refine T_if1 (by decide +kernel) ?_
  refine T_let 256 (by decide +kernel) ?_
  refine T_if1 (by decide +kernel) ?_
  refine T_get (by decide +kernel) (c := 257) (by decide +kernel) bdr_257 (by decide) c0 (fun x1 e2 b3 w4 => ?_)
  have l5 : z_ln 256 = 201 := by decide +kernel
  refine T_if1 (by decide +kernel) ?_
  refine T_let 256 (by decide +kernel) ?_
  refine T_leq (fun x6 e7 => ?_)
  have w8 := z_wb e7
  refine T_if1 (by decide +kernel) ?_
  refine T_get (by decide +kernel) (c := 257) (by decide +kernel) bdr_257 (by decide) c0 (fun x9 e10 b11 w12 => ?_)
  have l13 : z_ln 256 = 201 := by decide +kernel
  refine T_leq (fun x14 e15 => ?_)
  have w16 := z_wb e15
  refine T_if1 (by decide +kernel) ?_
  refine T_useI (sf_X5_lengthOf_220 hfu r0 c0 x1 x14 (by omega) (by omega)) (fun v22 s17 hq => ?_)
  obtain ⟨c18, f19, ⟨x21, rfl, b23, b24⟩⟩ := hq
  refine T_vI ?_
  have f20 := z_Fr.tr (R := R_X1_longOfLine_249) z_Fr.rf f19 (fun a h => by unfold R_X5_lengthOf_220 at h; unfold R_X1_longOfLine_249; omega)
  exact T_ret ⟨c18, f20, ⟨x21, rfl, by omega, by omega⟩⟩
abbrev R_X1_tooLong_249 (a : Int) : Prop := (220 ≤ a ∧ a ≤ 239)
abbrev P_X1_tooLong_249 (r0 : z_M) : z_V → z_M → Prop := fun v s' => z_CI s' ∧ z_Fr R_X1_tooLong_249 r0 s' ∧ (∃ x, v = vI x ∧ -2147483648 ≤ x ∧ x ≤ 2147483647)
theorem sj_X1_tooLong_249_J27 {fu : Nat} (hfu : 8589934592 ≤ fu) (r0 s : z_M) (c : z_CI s) (f : z_Fr R_X1_tooLong_249 r0 s) (a1 : Int) (a3 : Int) (t0 : Int) (t1 : Int) (b1 : -2147483648 ≤ a1 ∧ a1 ≤ 2147483647) (b3 : -2147483648 ≤ a3 ∧ a3 ≤ 2147483646) (d0 : -2147483648 ≤ t0 ∧ t0 ≤ 2147483647) (d1 : 0 ≤ t1 ∧ t1 ≤ 1) (M : Int) (pm : 2147483647 - a3 ≤ M) {r : z_M → Int → Int → z_O} {k : z_M → Int → z_O} (hr : ∀ (s' : z_M) (v2 : Int) (v3 : Int), z_CI s' → z_Fr R_X1_tooLong_249 r0 s' → (-2147483648 ≤ v2 ∧ v2 ≤ 2147483647) → (-2147483648 ≤ v3 ∧ v3 ≤ 2147483647) → (2147483647 - v3 < M) → z_T (r s' v2 v3) (P_X1_tooLong_249 r0)) (hk : ∀ (s' : z_M) (v2 : Int), z_CI s' → z_Fr R_X1_tooLong_249 r0 s' → (-2147483648 ≤ v2 ∧ v2 ≤ 2147483647) → z_T (k s' v2) (P_X1_tooLong_249 r0)) : z_T (fX1_tooLong_J27 fu s 249 a1 a3 t0 t1 r k) (P_X1_tooLong_249 r0) := by
  refine T_of (fX1_tooLong_J27.eq_1 ..) ?_
  have u1 := CI_b c (k := 249) (j := 6) bd_249_6
  refine T_leq (fun x2 e3 => ?_)
  have w4 := z_wb e3
  refine T_leq (fun x5 e6 => ?_)
  have w7 := z_wb e6
  exact hr s x2 x5 c f (by omega) (by omega) (by omega)
theorem sl_X1_tooLong_249_L4 {fu : Nat} (hfu : 8589934592 ≤ fu) (r0 : z_M) (a1 : Int) (b1 : -2147483648 ≤ a1 ∧ a1 ≤ 2147483647) {k : z_M → Int → z_O} (hk : ∀ (s' : z_M) (v2 : Int), z_CI s' → z_Fr R_X1_tooLong_249 r0 s' → (-2147483648 ≤ v2 ∧ v2 ≤ 2147483647) → z_T (k s' v2) (P_X1_tooLong_249 r0)) : ∀ (F : Nat) (s : z_M) (a2 : Int) (a3 : Int), z_CI s → z_Fr R_X1_tooLong_249 r0 s → (-2147483648 ≤ a2 ∧ a2 ≤ 2147483647) → (-2147483648 ≤ a3 ∧ a3 ≤ 2147483647) → (2147483647 - a3 < (F : Int)) → z_T (fX1_tooLong_L4 fu 249 a1 F s a2 a3 k) (P_X1_tooLong_249 r0) := by
  intro F
  induction F with
  | zero =>
    intro s a2 a3 c f b2 b3 hm
    have u16 := CI_b c (k := 249) (j := 6) bd_249_6
    exfalso; omega
  | succ F ih =>
    intro s a2 a3 c f b2 b3 hm
    refine T_of (fX1_tooLong_L4.eq_2 ..) ?_
    have u1 := CI_b c (k := 249) (j := 6) bd_249_6
    refine T_if1 (by decide +kernel) ?_
    refine T_leq (fun x2 e3 => ?_)
    have u4 := CI_b c (k := 249) (j := 6) bd_249_6
    refine T_ite (fun h5 => ?_) (fun h5 => ?_)
    · exact hk s a2 c f (by omega)
    · refine T_if1 (by decide +kernel) ?_
      refine T_useI (sf_X1_longOfLine_249 hfu s c a3 (by omega)) (fun v11 s6 hq => ?_)
      obtain ⟨c7, f8, ⟨x10, rfl, b12, b13⟩⟩ := hq
      refine T_vI ?_
      have f9 := z_Fr.tr (R := R_X1_tooLong_249) f f8 (fun a h => by unfold R_X1_longOfLine_249 at h; unfold R_X1_tooLong_249; omega)
      have t14 : s6 249 6 = s 249 6 := f8 249 6 (by decide)
      refine T_ite (fun h15 => ?_) (fun h15 => ?_)
      · exact sj_X1_tooLong_249_J27 hfu r0 s6 c7 f9 a1 a3 a2 0 (by omega) (by omega) (by omega) (by omega) (2147483647 - a3) (by omega) (fun s' v2 v3 c' f' w2 w3 pg => ih s' v2 v3 c' f' w2 w3 (by omega)) hk
      · exact sj_X1_tooLong_249_J27 hfu r0 s6 c7 f9 a1 a3 a2 1 (by omega) (by omega) (by omega) (by omega) (2147483647 - a3) (by omega) (fun s' v2 v3 c' f' w2 w3 pg => ih s' v2 v3 c' f' w2 w3 (by omega)) hk
theorem sf_X1_tooLong_249 {fu : Nat} (hfu : 8589934592 ≤ fu) (r0 : z_M) (c0 : z_CI r0) (a1 : Int) (b1 : -2147483648 ≤ a1 ∧ a1 ≤ 2147483647) : z_T (fX1_tooLong fu r0 249 a1) (P_X1_tooLong_249 r0) := by
  refine T_of (fX1_tooLong.eq_1 ..) ?_
  refine sl_X1_tooLong_249_L4 hfu r0 a1 (by omega) (fun s1 y4 c2 f3 b5 => ?_) fu r0 0 0 c0 z_Fr.rf (by omega) (by omega) (by omega)
  have u6 := CI_b c2 (k := 249) (j := 6) bd_249_6
  exact T_ret ⟨c2, f3, ⟨y4, rfl, by omega, by omega⟩⟩
