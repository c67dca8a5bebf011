/-! refresh: lines and layout made anew, or kept (from 89.simk1's text, by wip/tool/gen97c.py) -/
theorem y_g20 {s : z_M} {x : Int} (h : z_rg s 2 0 = x) : x = s 3 0 := h.symm.trans (v_rgn v_s2.2.1 v_s2.2.2 (by decide))
theorem y_g23 {s : z_M} {x : Int} (h : z_rg s 2 3 = x) : x = s 3 3 := h.symm.trans (v_rgn v_s2.2.1 v_s2.2.2 (by decide))
abbrev P_X11_refresh_1Y (r0 : z_M) : z_V → z_M → Prop := fun v s' => z_CI s' ∧ z_Fr R_X11_refresh_1 r0 s' ∧ (y_U3 s') ∧ (y_SV 240 s') ∧ (y_YC s') ∧ (v = vN)
theorem sj_X11_refresh_1Y_J78 {fu : Nat} (hfu : 8589934592 ≤ fu) (r0 s : z_M) (c : z_CI s) (f : z_Fr R_X11_refresh_1 r0 s) (p0 : y_U3 s) (p1 : y_SV 240 s) (p2 : y_YC s) : z_T (fX11_refresh_J78 fu s) (P_X11_refresh_1Y r0) := by
  refine T_of (fX11_refresh_J78.eq_1 ..) ?_
  have u1 := CI_b c (k := 1) (j := 16) bd_1_16
  have u2 := CI_b c (k := 1) (j := 17) bd_1_17
  exact T_ret ⟨c, f, p0, p1, p2, rfl⟩
theorem sj_X11_refresh_1Y_J31 {fu : Nat} (hfu : 8589934592 ≤ fu) (r0 s : z_M) (c : z_CI s) (f : z_Fr R_X11_refresh_1 r0 s) (p0 : y_U3 s) (p1 : y_L3 s) (p2 : s 1 17 = 0 ∨ y_YC s) : z_T (fX11_refresh_J31 fu s 1) (P_X11_refresh_1Y r0) := by
  refine T_of (fX11_refresh_J31.eq_1 ..) ?_
  have u1 := CI_b c (k := 1) (j := 16) bd_1_16
  have u2 := CI_b c (k := 1) (j := 17) bd_1_17
  refine T_if1 (by decide +kernel) ?_
  refine T_leq (fun x3 e4 => ?_)
  have u5 := CI_b c (k := 1) (j := 17) bd_1_17
  refine T_ite (fun h6 => ?_) (fun h6 => ?_)
  · exact sj_X11_refresh_1Y_J78 hfu r0 s c f p0 (y_L3.to p1 (by omega)) (p2.resolve_left (by omega))
  · refine T_if1 (by decide +kernel) ?_
    refine T_let 240 (by decide +kernel) ?_
    refine T_if1 (by decide +kernel) ?_
    refine T_let 2 (by decide +kernel) ?_
    refine T_if1 (by decide +kernel) ?_
    refine T_get (by decide +kernel) (c := 3) (by decide +kernel) bdr_3 (by decide) c (fun x7 e8 b9 w10 => ?_)
    have l11 : z_ln 2 = 9 := by decide +kernel
    refine T_if1 (by decide +kernel) ?_
    refine T_let 2 (by decide +kernel) ?_
    refine T_if1 (by decide +kernel) ?_
    refine T_get (by decide +kernel) (c := 3) (by decide +kernel) bdr_3 (by decide) c (fun x12 e13 b14 w15 => ?_)
    have l16 : z_ln 2 = 9 := by decide +kernel
    refine T_if1 (by decide +kernel) ?_
    have z7 := y_g20 e8
    have z12 := y_g23 e13
    have hgo := sf_X1_go_240K hfu s c x7 x12 (by omega) (by omega) p0 (by first | exact y_LNr.i (by omega) | exact y_LNr.t (by assumption) rfl | exact y_LNr.t (by assumption) (by omega))
    subst z7
    subst z12
    refine T_useN (T_and hgo (e_goY hfu p0 (T_mono hgo (fun v s' h x y q => h.2.1 x y (by unfold R_X1_go_240; omega))))) (fun v22 s17 hq0 => ?_)
    obtain ⟨hq, gq⟩ := hq0
    obtain ⟨c18, f19, o23, o24, rfl⟩ := hq
    refine T_vN ?_
    have f20 := z_Fr.tr (R := R_X11_refresh_1) f f19 rs_X1_go_240__X11_refresh_1
    have t27 : s17 1 16 = s 1 16 := f19 1 16 (by decide)
    have t28 : s17 1 17 = s 1 17 := f19 1 17 (by decide)
    have r29 := y_B0.fr p0.1.1 (f19 211 0 (by decide)) (f19 213 0 (by decide))
    refine T_if1 (by decide +kernel) ?_
    refine T_let 258 (by decide +kernel) ?_
    refine T_if1 (by decide +kernel) ?_
    have hb := sf_X3_build_258K hfu s17 c18 o23 o24
    refine T_useN (T_and hb (e_buildY hfu c18 o23.1 gq (T_mono hb (fun v s' h x y q => h.2.1 x y (by unfold R_X3_build_258; omega))))) (fun v35 s30 hq0 => ?_)
    obtain ⟨hq, yq⟩ := hq0
    obtain ⟨c31, f32, o36, rfl⟩ := hq
    refine T_vN ?_
    have f33 := z_Fr.tr (R := R_X11_refresh_1) f20 f32 rs_X3_build_258__X11_refresh_1
    have t39 : s30 1 16 = s17 1 16 := f32 1 16 (by decide)
    have t40 : s30 1 17 = s17 1 17 := f32 1 17 (by decide)
    have r41 := y_B0.fr o23.1.1 (f32 211 0 (by decide)) (f32 213 0 (by decide))
    have r42 := y_SV.fr o24 (f32 191 16 (by decide)) (f32 6 6 (by decide)) (f32 191 17 (by decide)) (f32 191 18 (by decide)) (fun b => f32 3 b (nr_X3_build_258__3 b)) (fun b => f32 8 b (nr_X3_build_258__8 b)) (fun b => f32 12 b (nr_X3_build_258__12 b)) (fun b => f32 14 b (nr_X3_build_258__14 b)) (fun b => f32 16 b (nr_X3_build_258__16 b)) (fun b => f32 18 b (nr_X3_build_258__18 b)) (fun b => f32 193 b (nr_X3_build_258__193 b)) (fun b => f32 195 b (nr_X3_build_258__195 b)) (fun b => f32 197 b (nr_X3_build_258__197 b)) (fun b => f32 199 b (nr_X3_build_258__199 b)) (fun b => f32 201 b (nr_X3_build_258__201 b)) (fun b => f32 203 b (nr_X3_build_258__203 b)) (fun b => f32 205 b (nr_X3_build_258__205 b)) (fun b => f32 207 b (nr_X3_build_258__207 b)) (fun b => f32 209 b (nr_X3_build_258__209 b)) (fun b => f32 211 b (nr_X3_build_258__211 b)) (fun b => f32 213 b (nr_X3_build_258__213 b)) (fun b => f32 215 b (nr_X3_build_258__215 b)) (fun b => f32 217 b (nr_X3_build_258__217 b)) (fun b => f32 219 b (nr_X3_build_258__219 b)) (f32 240 6 (by decide)) (fun b => f32 248 b (nr_X3_build_258__248 b)) (f32 249 6 (by decide)) (fun b => f32 257 b (nr_X3_build_258__257 b))
    refine T_if1 ⟨(by decide +kernel), by unfold z_bl; omega⟩ ?_
    refine T_upg c31 bd_1_17 (by omega) (fun s43 c44 g46 g47 e48 => ?_)
    have f45 := z_Fr.upf (R := R_X11_refresh_1) f33 g46 g47 (Or.inr (Or.inr (Or.inr (Or.inr (Or.inr (Or.inr (Or.inr (Or.inl (⟨rfl, by decide⟩)))))))))
    have t49 : s43 1 16 = s30 1 16 := g47 16 (by decide)
    have r50 := y_B0.fr o36.1.1 (g46 211 0 (by decide)) (g46 213 0 (by decide))
    have r51 := y_SV.fr r42 (g46 191 16 (by decide)) (g46 6 6 (by decide)) (g46 191 17 (by decide)) (g46 191 18 (by decide)) (fun b => g46 3 b (by decide)) (fun b => g46 8 b (by decide)) (fun b => g46 12 b (by decide)) (fun b => g46 14 b (by decide)) (fun b => g46 16 b (by decide)) (fun b => g46 18 b (by decide)) (fun b => g46 193 b (by decide)) (fun b => g46 195 b (by decide)) (fun b => g46 197 b (by decide)) (fun b => g46 199 b (by decide)) (fun b => g46 201 b (by decide)) (fun b => g46 203 b (by decide)) (fun b => g46 205 b (by decide)) (fun b => g46 207 b (by decide)) (fun b => g46 209 b (by decide)) (fun b => g46 211 b (by decide)) (fun b => g46 213 b (by decide)) (fun b => g46 215 b (by decide)) (fun b => g46 217 b (by decide)) (fun b => g46 219 b (by decide)) (g46 240 6 (by decide)) (fun b => g46 248 b (by decide)) (g46 249 6 (by decide)) (fun b => g46 257 b (by decide))
    have r52 := y_U3.fr o36 (g46 191 16 (by decide)) (g46 6 6 (by decide)) (g46 191 17 (by decide)) (g46 191 18 (by decide)) (fun b => g46 3 b (by decide)) (fun b => g46 8 b (by decide)) (fun b => g46 12 b (by decide)) (fun b => g46 14 b (by decide)) (fun b => g46 16 b (by decide)) (fun b => g46 18 b (by decide)) (fun b => g46 193 b (by decide)) (fun b => g46 195 b (by decide)) (fun b => g46 197 b (by decide)) (fun b => g46 199 b (by decide)) (fun b => g46 201 b (by decide)) (fun b => g46 203 b (by decide)) (fun b => g46 205 b (by decide)) (fun b => g46 207 b (by decide)) (fun b => g46 209 b (by decide)) (fun b => g46 211 b (by decide)) (fun b => g46 213 b (by decide)) (fun b => g46 215 b (by decide)) (fun b => g46 217 b (by decide)) (fun b => g46 219 b (by decide)) (fun b => g46 222 b (by decide))
    refine T_if1 ⟨(by decide +kernel), by unfold z_bl; omega⟩ ?_
    refine T_upg c44 bd_1_18 (by omega) (fun s53 c54 g56 g57 e58 => ?_)
    have f55 := z_Fr.upf (R := R_X11_refresh_1) f45 g56 g57 (Or.inr (Or.inr (Or.inr (Or.inr (Or.inr (Or.inr (Or.inr (Or.inl (⟨rfl, by decide⟩)))))))))
    have t59 : s53 1 16 = s43 1 16 := g57 16 (by decide)
    have t60 : s53 1 17 = s43 1 17 := g57 17 (by decide)
    have r61 := y_B0.fr r50 (g56 211 0 (by decide)) (g56 213 0 (by decide))
    have r62 := y_SV.fr r51 (g56 191 16 (by decide)) (g56 6 6 (by decide)) (g56 191 17 (by decide)) (g56 191 18 (by decide)) (fun b => g56 3 b (by decide)) (fun b => g56 8 b (by decide)) (fun b => g56 12 b (by decide)) (fun b => g56 14 b (by decide)) (fun b => g56 16 b (by decide)) (fun b => g56 18 b (by decide)) (fun b => g56 193 b (by decide)) (fun b => g56 195 b (by decide)) (fun b => g56 197 b (by decide)) (fun b => g56 199 b (by decide)) (fun b => g56 201 b (by decide)) (fun b => g56 203 b (by decide)) (fun b => g56 205 b (by decide)) (fun b => g56 207 b (by decide)) (fun b => g56 209 b (by decide)) (fun b => g56 211 b (by decide)) (fun b => g56 213 b (by decide)) (fun b => g56 215 b (by decide)) (fun b => g56 217 b (by decide)) (fun b => g56 219 b (by decide)) (g56 240 6 (by decide)) (fun b => g56 248 b (by decide)) (g56 249 6 (by decide)) (fun b => g56 257 b (by decide))
    have r63 := y_U3.fr r52 (g56 191 16 (by decide)) (g56 6 6 (by decide)) (g56 191 17 (by decide)) (g56 191 18 (by decide)) (fun b => g56 3 b (by decide)) (fun b => g56 8 b (by decide)) (fun b => g56 12 b (by decide)) (fun b => g56 14 b (by decide)) (fun b => g56 16 b (by decide)) (fun b => g56 18 b (by decide)) (fun b => g56 193 b (by decide)) (fun b => g56 195 b (by decide)) (fun b => g56 197 b (by decide)) (fun b => g56 199 b (by decide)) (fun b => g56 201 b (by decide)) (fun b => g56 203 b (by decide)) (fun b => g56 205 b (by decide)) (fun b => g56 207 b (by decide)) (fun b => g56 209 b (by decide)) (fun b => g56 211 b (by decide)) (fun b => g56 213 b (by decide)) (fun b => g56 215 b (by decide)) (fun b => g56 217 b (by decide)) (fun b => g56 219 b (by decide)) (fun b => g56 222 b (by decide))
    exact sj_X11_refresh_1Y_J78 hfu r0 s53 c54 f55 r63 r62 ((yq.lo (fun x b _ n => g46 x b n)).lo (fun x b _ n => g56 x b n))
theorem sf_X11_refresh_1Y {fu : Nat} (hfu : 8589934592 ≤ fu) (r0 : z_M) (c0 : z_CI r0) (p0 : y_V3 r0) (p1 : y_Y4 r0) : z_T (fX11_refresh fu r0 1) (P_X11_refresh_1Y r0) := by
  refine T_of (fX11_refresh.eq_1 ..) ?_
  refine T_if1 (by decide +kernel) ?_
  refine T_leq (fun x1 e2 => ?_)
  have u3 := CI_b c0 (k := 1) (j := 16) bd_1_16
  refine T_ite (fun h4 => ?_) (fun h4 => ?_)
  · exact sj_X11_refresh_1Y_J31 hfu r0 r0 c0 z_Fr.rf (y_V3.to p0 (by omega)) (y_V3.l p0 (by omega)) (p1.resolve_left (by omega))
  · refine T_if1 (by decide +kernel) ?_
    refine T_let 191 (by decide +kernel) ?_
    refine T_if1 (by decide +kernel) ?_
    refine T_useN (sf_X10_build_191K hfu r0 c0 p0.1.1) (fun v10 s5 hq => ?_)
    obtain ⟨c6, f7, o11, rfl⟩ := hq
    refine T_vN ?_
    have f8 := z_Fr.tr (R := R_X11_refresh_1) z_Fr.rf f7 rs_X10_build_191__X11_refresh_1
    have t14 : s5 1 16 = r0 1 16 := f7 1 16 (by decide)
    have t15 : s5 1 17 = r0 1 17 := f7 1 17 (by decide)
    refine T_if1 (by decide +kernel) ?_
    refine T_let 220 (by decide +kernel) ?_
    refine T_if1 (by decide +kernel) ?_
    refine T_useN (sf_X5_forget_220K hfu s5 c6 o11) (fun v21 s16 hq => ?_)
    obtain ⟨c17, f18, o22, rfl⟩ := hq
    refine T_vN ?_
    have f19 := z_Fr.tr (R := R_X11_refresh_1) f8 f18 rs_X5_forget_220__X11_refresh_1
    have t25 : s16 1 16 = s5 1 16 := f18 1 16 (by decide)
    have t26 : s16 1 17 = s5 1 17 := f18 1 17 (by decide)
    have r27 := y_U2.fr o11 (f18 191 16 (by decide)) (f18 6 6 (by decide)) (f18 191 17 (by decide)) (f18 191 18 (by decide)) (fun b => f18 3 b (nr_X5_forget_220__3 b)) (fun b => f18 8 b (nr_X5_forget_220__8 b)) (fun b => f18 12 b (nr_X5_forget_220__12 b)) (fun b => f18 14 b (nr_X5_forget_220__14 b)) (fun b => f18 16 b (nr_X5_forget_220__16 b)) (fun b => f18 18 b (nr_X5_forget_220__18 b)) (fun b => f18 193 b (nr_X5_forget_220__193 b)) (fun b => f18 195 b (nr_X5_forget_220__195 b)) (fun b => f18 197 b (nr_X5_forget_220__197 b)) (fun b => f18 199 b (nr_X5_forget_220__199 b)) (fun b => f18 201 b (nr_X5_forget_220__201 b)) (fun b => f18 203 b (nr_X5_forget_220__203 b)) (fun b => f18 205 b (nr_X5_forget_220__205 b)) (fun b => f18 207 b (nr_X5_forget_220__207 b)) (fun b => f18 209 b (nr_X5_forget_220__209 b)) (fun b => f18 211 b (nr_X5_forget_220__211 b)) (fun b => f18 213 b (nr_X5_forget_220__213 b)) (fun b => f18 215 b (nr_X5_forget_220__215 b)) (fun b => f18 217 b (nr_X5_forget_220__217 b)) (fun b => f18 219 b (nr_X5_forget_220__219 b))
    have r28 := y_B0.fr o11.1 (f18 211 0 (by decide)) (f18 213 0 (by decide))
    refine T_if1 ⟨(by decide +kernel), by unfold z_bl; omega⟩ ?_
    refine T_upg c17 bd_1_16 (by omega) (fun s29 c30 g32 g33 e34 => ?_)
    have f31 := z_Fr.upf (R := R_X11_refresh_1) f19 g32 g33 (Or.inr (Or.inr (Or.inr (Or.inr (Or.inr (Or.inr (Or.inr (Or.inl (⟨rfl, by decide⟩)))))))))
    have t35 : s29 1 17 = s16 1 17 := g33 17 (by decide)
    have r36 := y_U2.fr r27 (g32 191 16 (by decide)) (g32 6 6 (by decide)) (g32 191 17 (by decide)) (g32 191 18 (by decide)) (fun b => g32 3 b (by decide)) (fun b => g32 8 b (by decide)) (fun b => g32 12 b (by decide)) (fun b => g32 14 b (by decide)) (fun b => g32 16 b (by decide)) (fun b => g32 18 b (by decide)) (fun b => g32 193 b (by decide)) (fun b => g32 195 b (by decide)) (fun b => g32 197 b (by decide)) (fun b => g32 199 b (by decide)) (fun b => g32 201 b (by decide)) (fun b => g32 203 b (by decide)) (fun b => g32 205 b (by decide)) (fun b => g32 207 b (by decide)) (fun b => g32 209 b (by decide)) (fun b => g32 211 b (by decide)) (fun b => g32 213 b (by decide)) (fun b => g32 215 b (by decide)) (fun b => g32 217 b (by decide)) (fun b => g32 219 b (by decide))
    have r37 := y_B0.fr o22.1.1 (g32 211 0 (by decide)) (g32 213 0 (by decide))
    have r38 := y_U3.fr o22 (g32 191 16 (by decide)) (g32 6 6 (by decide)) (g32 191 17 (by decide)) (g32 191 18 (by decide)) (fun b => g32 3 b (by decide)) (fun b => g32 8 b (by decide)) (fun b => g32 12 b (by decide)) (fun b => g32 14 b (by decide)) (fun b => g32 16 b (by decide)) (fun b => g32 18 b (by decide)) (fun b => g32 193 b (by decide)) (fun b => g32 195 b (by decide)) (fun b => g32 197 b (by decide)) (fun b => g32 199 b (by decide)) (fun b => g32 201 b (by decide)) (fun b => g32 203 b (by decide)) (fun b => g32 205 b (by decide)) (fun b => g32 207 b (by decide)) (fun b => g32 209 b (by decide)) (fun b => g32 211 b (by decide)) (fun b => g32 213 b (by decide)) (fun b => g32 215 b (by decide)) (fun b => g32 217 b (by decide)) (fun b => g32 219 b (by decide)) (fun b => g32 222 b (by decide))
    refine T_if1 ⟨(by decide +kernel), by unfold z_bl; omega⟩ ?_
    refine T_upg c30 bd_1_17 (by omega) (fun s39 c40 g42 g43 e44 => ?_)
    have f41 := z_Fr.upf (R := R_X11_refresh_1) f31 g42 g43 (Or.inr (Or.inr (Or.inr (Or.inr (Or.inr (Or.inr (Or.inr (Or.inl (⟨rfl, by decide⟩)))))))))
    have t45 : s39 1 16 = s29 1 16 := g43 16 (by decide)
    have r46 := y_U2.fr r36 (g42 191 16 (by decide)) (g42 6 6 (by decide)) (g42 191 17 (by decide)) (g42 191 18 (by decide)) (fun b => g42 3 b (by decide)) (fun b => g42 8 b (by decide)) (fun b => g42 12 b (by decide)) (fun b => g42 14 b (by decide)) (fun b => g42 16 b (by decide)) (fun b => g42 18 b (by decide)) (fun b => g42 193 b (by decide)) (fun b => g42 195 b (by decide)) (fun b => g42 197 b (by decide)) (fun b => g42 199 b (by decide)) (fun b => g42 201 b (by decide)) (fun b => g42 203 b (by decide)) (fun b => g42 205 b (by decide)) (fun b => g42 207 b (by decide)) (fun b => g42 209 b (by decide)) (fun b => g42 211 b (by decide)) (fun b => g42 213 b (by decide)) (fun b => g42 215 b (by decide)) (fun b => g42 217 b (by decide)) (fun b => g42 219 b (by decide))
    have r47 := y_B0.fr r37 (g42 211 0 (by decide)) (g42 213 0 (by decide))
    have r48 := y_U3.fr r38 (g42 191 16 (by decide)) (g42 6 6 (by decide)) (g42 191 17 (by decide)) (g42 191 18 (by decide)) (fun b => g42 3 b (by decide)) (fun b => g42 8 b (by decide)) (fun b => g42 12 b (by decide)) (fun b => g42 14 b (by decide)) (fun b => g42 16 b (by decide)) (fun b => g42 18 b (by decide)) (fun b => g42 193 b (by decide)) (fun b => g42 195 b (by decide)) (fun b => g42 197 b (by decide)) (fun b => g42 199 b (by decide)) (fun b => g42 201 b (by decide)) (fun b => g42 203 b (by decide)) (fun b => g42 205 b (by decide)) (fun b => g42 207 b (by decide)) (fun b => g42 209 b (by decide)) (fun b => g42 211 b (by decide)) (fun b => g42 213 b (by decide)) (fun b => g42 215 b (by decide)) (fun b => g42 217 b (by decide)) (fun b => g42 219 b (by decide)) (fun b => g42 222 b (by decide))
    exact sj_X11_refresh_1Y_J31 hfu r0 s39 c40 f41 r48 (Or.inl (by omega)) (Or.inl (by omega))
