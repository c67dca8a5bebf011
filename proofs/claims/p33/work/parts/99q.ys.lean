/-! the class's sides stay right -/
theorem y_YSs.fr {s s' : z_M} (h : y_YSs s) (f : ∀ a b : Int, y_cz a b → s' a b = s a b) (g : ∀ b : Int, s' 300 b = s 300 b ∧ s' 302 b = s 302 b ∧ s' 304 b = s 304 b ∧ s' 306 b = s 306 b ∧ s' 308 b = s 308 b) : y_YSs s' := by
  have e6 : s' 240 6 = s 240 6 := f 240 6 (by unfold y_cz; omega)
  refine ⟨fun i p q => ?_, (g 0).2.2.1.trans h.2⟩
  rw [e6] at q
  obtain ⟨⟨a1, a2⟩, a3, a4, a5⟩ := h.1 i p q
  obtain ⟨g0, g2, g4, g6, g8⟩ := g i
  refine ⟨⟨by rw [g6, a1, y_ou_fr f 0 i], by rw [g8, a2, y_ou_fr f 1 i]⟩, by rw [g0]; exact y_mt_fr f a3, fun r => ?_, by rw [g4]; exact a5⟩
  rw [e6] at r
  obtain ⟨b1, b2⟩ := a4 r
  refine ⟨?_, by rw [(g (i + 1)).2.2.1, g4, g2]; exact b2⟩
  unfold y_gtt at *
  rw [g2, g0, f 3 8 (by unfold y_cz; omega), g8, (g (i + 1)).2.2.2.1]
  exact b1
theorem y_YS.fr {s s' : z_M} (h : y_YS s) (e0 : s' 191 16 = s 191 16) (e1 : s' 6 6 = s 6 6) (e2 : s' 191 17 = s 191 17) (e3 : s' 191 18 = s 191 18) (e4 : ∀ b, s' 3 b = s 3 b) (e5 : ∀ b, s' 8 b = s 8 b) (e6 : ∀ b, s' 12 b = s 12 b) (e7 : ∀ b, s' 14 b = s 14 b) (e8 : ∀ b, s' 16 b = s 16 b) (e9 : ∀ b, s' 18 b = s 18 b) (e10 : ∀ b, s' 193 b = s 193 b) (e11 : ∀ b, s' 195 b = s 195 b) (e12 : ∀ b, s' 197 b = s 197 b) (e13 : ∀ b, s' 199 b = s 199 b) (e14 : ∀ b, s' 201 b = s 201 b) (e15 : ∀ b, s' 203 b = s 203 b) (e16 : ∀ b, s' 205 b = s 205 b) (e17 : ∀ b, s' 207 b = s 207 b) (e18 : ∀ b, s' 209 b = s 209 b) (e19 : ∀ b, s' 211 b = s 211 b) (e20 : ∀ b, s' 213 b = s 213 b) (e21 : ∀ b, s' 215 b = s 215 b) (e22 : ∀ b, s' 217 b = s 217 b) (e23 : ∀ b, s' 219 b = s 219 b) (e24 : ∀ b, s' 10 b = s 10 b) (e25 : s' 240 6 = s 240 6) (e26 : ∀ b, s' 248 b = s 248 b) (e27 : ∀ b, s' 262 b = s 262 b) (e28 : ∀ b, s' 268 b = s 268 b) (e29 : ∀ b, s' 278 b = s 278 b) (e30 : ∀ b, s' 281 b = s 281 b) (e31 : ∀ b, s' 285 b = s 285 b) (e32 : ∀ b, s' 293 b = s 293 b) (e33 : ∀ b, s' 295 b = s 295 b) (e34 : ∀ b, s' 300 b = s 300 b) (e35 : ∀ b, s' 302 b = s 302 b) (e36 : ∀ b, s' 304 b = s 304 b) (e37 : ∀ b, s' 306 b = s 306 b) (e38 : ∀ b, s' 308 b = s 308 b) : y_YS s' := fun ok => by
  have f := y_f5 e10 e13 e14 e15 e16
  have back : y_OKc s := ok.fr (ok.1.fr e0.symm e1.symm e2.symm e3.symm (fun b => (e4 b).symm) (fun b => (e5 b).symm) (fun b => (e6 b).symm) (fun b => (e7 b).symm) (fun b => (e8 b).symm) (fun b => (e9 b).symm) (fun b => (e10 b).symm) (fun b => (e11 b).symm) (fun b => (e12 b).symm) (fun b => (e13 b).symm) (fun b => (e14 b).symm) (fun b => (e15 b).symm) (fun b => (e16 b).symm) (fun b => (e17 b).symm) (fun b => (e18 b).symm) (fun b => (e19 b).symm) (fun b => (e20 b).symm) (fun b => (e21 b).symm) (fun b => (e22 b).symm) (fun b => (e23 b).symm)) e0.symm e1.symm ⟨(e4 2).symm, (e4 6).symm⟩ (by rw [← e4 0]; exact ok.2.2.2.2.2.1) (fun b => (e5 b).symm) (fun b => (e6 b).symm) (fun b => (e7 b).symm) (fun x b q => (f x b q).symm)
  refine (h back).fr (fun a b q => ?_) (fun b => ⟨e34 b, e35 b, e36 b, e37 b, e38 b⟩)
  unfold y_cz at q
  rcases q with rfl | rfl | rfl | rfl | rfl | rfl | rfl | rfl | rfl | rfl | rfl | rfl | rfl | ⟨rfl, rfl⟩ | ⟨rfl, rfl⟩ | ⟨rfl, rfl⟩ | ⟨rfl, rfl⟩
  · exact e24 b
  · exact e10 b
  · exact e11 b
  · exact e16 b
  · exact e21 b
  · exact e26 b
  · exact e27 b
  · exact e28 b
  · exact e29 b
  · exact e30 b
  · exact e31 b
  · exact e32 b
  · exact e33 b
  · exact e0
  · exact e1
  · exact e25
  · exact e4 8
def y_Q5 (s : z_M) : Prop := s 1 18 = 0 ∨ y_YS s
def y_Y5 (s : z_M) : Prop := s 1 16 = 0 ∨ s 1 17 = 0 ∨ y_Q5 s
theorem y_Q5.fr {s s' : z_M} (h : y_Q5 s) (i18 : s' 1 18 = s 1 18) (e0 : s' 191 16 = s 191 16) (e1 : s' 6 6 = s 6 6) (e2 : s' 191 17 = s 191 17) (e3 : s' 191 18 = s 191 18) (e4 : ∀ b, s' 3 b = s 3 b) (e5 : ∀ b, s' 8 b = s 8 b) (e6 : ∀ b, s' 12 b = s 12 b) (e7 : ∀ b, s' 14 b = s 14 b) (e8 : ∀ b, s' 16 b = s 16 b) (e9 : ∀ b, s' 18 b = s 18 b) (e10 : ∀ b, s' 193 b = s 193 b) (e11 : ∀ b, s' 195 b = s 195 b) (e12 : ∀ b, s' 197 b = s 197 b) (e13 : ∀ b, s' 199 b = s 199 b) (e14 : ∀ b, s' 201 b = s 201 b) (e15 : ∀ b, s' 203 b = s 203 b) (e16 : ∀ b, s' 205 b = s 205 b) (e17 : ∀ b, s' 207 b = s 207 b) (e18 : ∀ b, s' 209 b = s 209 b) (e19 : ∀ b, s' 211 b = s 211 b) (e20 : ∀ b, s' 213 b = s 213 b) (e21 : ∀ b, s' 215 b = s 215 b) (e22 : ∀ b, s' 217 b = s 217 b) (e23 : ∀ b, s' 219 b = s 219 b) (e24 : ∀ b, s' 10 b = s 10 b) (e25 : s' 240 6 = s 240 6) (e26 : ∀ b, s' 248 b = s 248 b) (e27 : ∀ b, s' 262 b = s 262 b) (e28 : ∀ b, s' 268 b = s 268 b) (e29 : ∀ b, s' 278 b = s 278 b) (e30 : ∀ b, s' 281 b = s 281 b) (e31 : ∀ b, s' 285 b = s 285 b) (e32 : ∀ b, s' 293 b = s 293 b) (e33 : ∀ b, s' 295 b = s 295 b) (e34 : ∀ b, s' 300 b = s 300 b) (e35 : ∀ b, s' 302 b = s 302 b) (e36 : ∀ b, s' 304 b = s 304 b) (e37 : ∀ b, s' 306 b = s 306 b) (e38 : ∀ b, s' 308 b = s 308 b) : y_Q5 s' := h.imp (fun q => i18.trans q) (fun q => q.fr e0 e1 e2 e3 e4 e5 e6 e7 e8 e9 e10 e11 e12 e13 e14 e15 e16 e17 e18 e19 e20 e21 e22 e23 e24 e25 e26 e27 e28 e29 e30 e31 e32 e33 e34 e35 e36 e37 e38)
theorem y_Y5.fr {s s' : z_M} (h : y_Y5 s) (i16 : s' 1 16 = s 1 16) (i17 : s' 1 17 = s 1 17) (i18 : s' 1 18 = s 1 18) (e0 : s' 191 16 = s 191 16) (e1 : s' 6 6 = s 6 6) (e2 : s' 191 17 = s 191 17) (e3 : s' 191 18 = s 191 18) (e4 : ∀ b, s' 3 b = s 3 b) (e5 : ∀ b, s' 8 b = s 8 b) (e6 : ∀ b, s' 12 b = s 12 b) (e7 : ∀ b, s' 14 b = s 14 b) (e8 : ∀ b, s' 16 b = s 16 b) (e9 : ∀ b, s' 18 b = s 18 b) (e10 : ∀ b, s' 193 b = s 193 b) (e11 : ∀ b, s' 195 b = s 195 b) (e12 : ∀ b, s' 197 b = s 197 b) (e13 : ∀ b, s' 199 b = s 199 b) (e14 : ∀ b, s' 201 b = s 201 b) (e15 : ∀ b, s' 203 b = s 203 b) (e16 : ∀ b, s' 205 b = s 205 b) (e17 : ∀ b, s' 207 b = s 207 b) (e18 : ∀ b, s' 209 b = s 209 b) (e19 : ∀ b, s' 211 b = s 211 b) (e20 : ∀ b, s' 213 b = s 213 b) (e21 : ∀ b, s' 215 b = s 215 b) (e22 : ∀ b, s' 217 b = s 217 b) (e23 : ∀ b, s' 219 b = s 219 b) (e24 : ∀ b, s' 10 b = s 10 b) (e25 : s' 240 6 = s 240 6) (e26 : ∀ b, s' 248 b = s 248 b) (e27 : ∀ b, s' 262 b = s 262 b) (e28 : ∀ b, s' 268 b = s 268 b) (e29 : ∀ b, s' 278 b = s 278 b) (e30 : ∀ b, s' 281 b = s 281 b) (e31 : ∀ b, s' 285 b = s 285 b) (e32 : ∀ b, s' 293 b = s 293 b) (e33 : ∀ b, s' 295 b = s 295 b) (e34 : ∀ b, s' 300 b = s 300 b) (e35 : ∀ b, s' 302 b = s 302 b) (e36 : ∀ b, s' 304 b = s 304 b) (e37 : ∀ b, s' 306 b = s 306 b) (e38 : ∀ b, s' 308 b = s 308 b) : y_Y5 s' := h.imp (fun q => i16.trans q) (fun h => h.imp (fun q => i17.trans q) (fun q => q.fr i18 e0 e1 e2 e3 e4 e5 e6 e7 e8 e9 e10 e11 e12 e13 e14 e15 e16 e17 e18 e19 e20 e21 e22 e23 e24 e25 e26 e27 e28 e29 e30 e31 e32 e33 e34 e35 e36 e37 e38))
theorem y_Y5.z {s : z_M} (h : s 1 16 = 0) : y_Y5 s := Or.inl h
theorem y_Y5.z7 {s : z_M} (h : s 1 17 = 0) : y_Y5 s := Or.inr (Or.inl h)
theorem y_Y5.q {s : z_M} (h : y_Q5 s) : y_Y5 s := Or.inr (Or.inr h)
theorem y_Y5.cls {s s' : z_M} (h : y_Y5 s) (f : ∀ a b : Int, a ≤ 308 → s' a b = s a b) : y_Y5 s' := h.fr (f _ _ (by decide)) (f _ _ (by decide)) (f _ _ (by decide)) (f _ _ (by decide)) (f _ _ (by decide)) (f _ _ (by decide)) (f _ _ (by decide)) (fun b => f _ b (by decide)) (fun b => f _ b (by decide)) (fun b => f _ b (by decide)) (fun b => f _ b (by decide)) (fun b => f _ b (by decide)) (fun b => f _ b (by decide)) (fun b => f _ b (by decide)) (fun b => f _ b (by decide)) (fun b => f _ b (by decide)) (fun b => f _ b (by decide)) (fun b => f _ b (by decide)) (fun b => f _ b (by decide)) (fun b => f _ b (by decide)) (fun b => f _ b (by decide)) (fun b => f _ b (by decide)) (fun b => f _ b (by decide)) (fun b => f _ b (by decide)) (fun b => f _ b (by decide)) (fun b => f _ b (by decide)) (fun b => f _ b (by decide)) (fun b => f _ b (by decide)) (f _ _ (by decide)) (fun b => f _ b (by decide)) (fun b => f _ b (by decide)) (fun b => f _ b (by decide)) (fun b => f _ b (by decide)) (fun b => f _ b (by decide)) (fun b => f _ b (by decide)) (fun b => f _ b (by decide)) (fun b => f _ b (by decide)) (fun b => f _ b (by decide)) (fun b => f _ b (by decide)) (fun b => f _ b (by decide)) (fun b => f _ b (by decide)) (fun b => f _ b (by decide))
theorem y_Q5.lo {s s' : z_M} (h : y_Q5 s) (f : ∀ a b : Int, a ≤ 308 → ¬ (a = 1 ∧ b ≠ 18) → ¬ (220 ≤ a ∧ a ≤ 239) → ¬ (249 ≤ a ∧ a ≤ 257) → s' a b = s a b) : y_Q5 s' := h.fr (f _ _ (by decide) (by decide) (by decide) (by decide)) (f _ _ (by decide) (by decide) (by decide) (by decide)) (f _ _ (by decide) (by decide) (by decide) (by decide)) (f _ _ (by decide) (by decide) (by decide) (by decide)) (f _ _ (by decide) (by decide) (by decide) (by decide)) (fun b => f _ b (by decide) (by omega) (by decide) (by decide)) (fun b => f _ b (by decide) (by omega) (by decide) (by decide)) (fun b => f _ b (by decide) (by omega) (by decide) (by decide)) (fun b => f _ b (by decide) (by omega) (by decide) (by decide)) (fun b => f _ b (by decide) (by omega) (by decide) (by decide)) (fun b => f _ b (by decide) (by omega) (by decide) (by decide)) (fun b => f _ b (by decide) (by omega) (by decide) (by decide)) (fun b => f _ b (by decide) (by omega) (by decide) (by decide)) (fun b => f _ b (by decide) (by omega) (by decide) (by decide)) (fun b => f _ b (by decide) (by omega) (by decide) (by decide)) (fun b => f _ b (by decide) (by omega) (by decide) (by decide)) (fun b => f _ b (by decide) (by omega) (by decide) (by decide)) (fun b => f _ b (by decide) (by omega) (by decide) (by decide)) (fun b => f _ b (by decide) (by omega) (by decide) (by decide)) (fun b => f _ b (by decide) (by omega) (by decide) (by decide)) (fun b => f _ b (by decide) (by omega) (by decide) (by decide)) (fun b => f _ b (by decide) (by omega) (by decide) (by decide)) (fun b => f _ b (by decide) (by omega) (by decide) (by decide)) (fun b => f _ b (by decide) (by omega) (by decide) (by decide)) (fun b => f _ b (by decide) (by omega) (by decide) (by decide)) (fun b => f _ b (by decide) (by omega) (by decide) (by decide)) (f _ _ (by decide) (by decide) (by decide) (by decide)) (fun b => f _ b (by decide) (by omega) (by decide) (by decide)) (fun b => f _ b (by decide) (by omega) (by decide) (by decide)) (fun b => f _ b (by decide) (by omega) (by decide) (by decide)) (fun b => f _ b (by decide) (by omega) (by decide) (by decide)) (fun b => f _ b (by decide) (by omega) (by decide) (by decide)) (fun b => f _ b (by decide) (by omega) (by decide) (by decide)) (fun b => f _ b (by decide) (by omega) (by decide) (by decide)) (fun b => f _ b (by decide) (by omega) (by decide) (by decide)) (fun b => f _ b (by decide) (by omega) (by decide) (by decide)) (fun b => f _ b (by decide) (by omega) (by decide) (by decide)) (fun b => f _ b (by decide) (by omega) (by decide) (by decide)) (fun b => f _ b (by decide) (by omega) (by decide) (by decide)) (fun b => f _ b (by decide) (by omega) (by decide) (by decide))
abbrev P_X11_refresh_1Z (r0 : z_M) : z_V → z_M → Prop := fun v s' => z_CI s' ∧ z_Fr R_X11_refresh_1 r0 s' ∧ (y_U3 s') ∧ (y_SV 240 s') ∧ (y_Q5 s') ∧ (v = vN)
theorem sj_X11_refresh_1Z_J78 {fu : Nat} (hfu : 8589934592 ≤ fu) (r0 s : z_M) (c : z_CI s) (f : z_Fr R_X11_refresh_1 r0 s) (p0 : y_U3 s) (p1 : y_SV 240 s) (p2 : y_Q5 s) : z_T (fX11_refresh_J78 fu s) (P_X11_refresh_1Z r0) := by
  refine T_of (fX11_refresh_J78.eq_1 ..) ?_
  have u1 := CI_b c (k := 1) (j := 16) bd_1_16
  have u2 := CI_b c (k := 1) (j := 17) bd_1_17
  exact T_ret ⟨c, f, p0, p1, p2, rfl⟩
theorem sj_X11_refresh_1Z_J31 {fu : Nat} (hfu : 8589934592 ≤ fu) (r0 s : z_M) (c : z_CI s) (f : z_Fr R_X11_refresh_1 r0 s) (p0 : y_U3 s) (p1 : y_L3 s) (p2 : s 1 17 = 0 ∨ y_Q5 s) : z_T (fX11_refresh_J31 fu s 1) (P_X11_refresh_1Z r0) := by
  refine T_of (fX11_refresh_J31.eq_1 ..) ?_
  have u1 := CI_b c (k := 1) (j := 16) bd_1_16
  have u2 := CI_b c (k := 1) (j := 17) bd_1_17
  refine T_if1 (by decide +kernel) ?_
  refine T_leq (fun x3 e4 => ?_)
  have u5 := CI_b c (k := 1) (j := 17) bd_1_17
  refine T_ite (fun h6 => ?_) (fun h6 => ?_)
  · exact sj_X11_refresh_1Z_J78 hfu r0 s c f p0 (y_L3.to p1 (by omega)) (p2.resolve_left (by omega))
  · refine T_if1 (by decide +kernel) ?_
    refine T_let 240 (by decide +kernel) ?_
    refine T_if1 (by decide +kernel) ?_
    refine T_let 2 (by decide +kernel) ?_
    refine T_if1 (by decide +kernel) ?_
    refine T_get (by decide +kernel) (c := 3) (by decide +kernel) bdr_3 (by decide) c (fun x7 e8 b9 w10 => ?_)
    have l11 : z_ln 2 = 9 := by decide +kernel
    refine T_if1 (by decide +kernel) ?_
    refine T_let 2 (by decide +kernel) ?_
    refine T_if1 (by decide +kernel) ?_
    refine T_get (by decide +kernel) (c := 3) (by decide +kernel) bdr_3 (by decide) c (fun x12 e13 b14 w15 => ?_)
    have l16 : z_ln 2 = 9 := by decide +kernel
    refine T_if1 (by decide +kernel) ?_
    have z7 := y_g20 e8
    have z12 := y_g23 e13
    have hgo := sf_X1_go_240K hfu s c x7 x12 (by omega) (by omega) p0 (by first | exact y_LNr.i (by omega) | exact y_LNr.t (by assumption) rfl | exact y_LNr.t (by assumption) (by omega))
    subst z7
    subst z12
    refine T_useN hgo (fun v22 s17 hq => ?_)
    obtain ⟨c18, f19, o23, o24, rfl⟩ := hq
    refine T_vN ?_
    have f20 := z_Fr.tr (R := R_X11_refresh_1) f f19 rs_X1_go_240__X11_refresh_1
    have t27 : s17 1 16 = s 1 16 := f19 1 16 (by decide)
    have t28 : s17 1 17 = s 1 17 := f19 1 17 (by decide)
    have r29 := y_B0.fr p0.1.1 (f19 211 0 (by decide)) (f19 213 0 (by decide))
    refine T_if1 (by decide +kernel) ?_
    refine T_let 258 (by decide +kernel) ?_
    refine T_if1 (by decide +kernel) ?_
    have hb := sf_X3_build_258K hfu s17 c18 o23 o24
    refine T_useN hb (fun v35 s30 hq => ?_)
    obtain ⟨c31, f32, o36, rfl⟩ := hq
    refine T_vN ?_
    have f33 := z_Fr.tr (R := R_X11_refresh_1) f20 f32 rs_X3_build_258__X11_refresh_1
    have t39 : s30 1 16 = s17 1 16 := f32 1 16 (by decide)
    have t40 : s30 1 17 = s17 1 17 := f32 1 17 (by decide)
    have r41 := y_B0.fr o23.1.1 (f32 211 0 (by decide)) (f32 213 0 (by decide))
    have r42 := y_SV.fr o24 (f32 191 16 (by decide)) (f32 6 6 (by decide)) (f32 191 17 (by decide)) (f32 191 18 (by decide)) (fun b => f32 3 b (nr_X3_build_258__3 b)) (fun b => f32 8 b (nr_X3_build_258__8 b)) (fun b => f32 12 b (nr_X3_build_258__12 b)) (fun b => f32 14 b (nr_X3_build_258__14 b)) (fun b => f32 16 b (nr_X3_build_258__16 b)) (fun b => f32 18 b (nr_X3_build_258__18 b)) (fun b => f32 193 b (nr_X3_build_258__193 b)) (fun b => f32 195 b (nr_X3_build_258__195 b)) (fun b => f32 197 b (nr_X3_build_258__197 b)) (fun b => f32 199 b (nr_X3_build_258__199 b)) (fun b => f32 201 b (nr_X3_build_258__201 b)) (fun b => f32 203 b (nr_X3_build_258__203 b)) (fun b => f32 205 b (nr_X3_build_258__205 b)) (fun b => f32 207 b (nr_X3_build_258__207 b)) (fun b => f32 209 b (nr_X3_build_258__209 b)) (fun b => f32 211 b (nr_X3_build_258__211 b)) (fun b => f32 213 b (nr_X3_build_258__213 b)) (fun b => f32 215 b (nr_X3_build_258__215 b)) (fun b => f32 217 b (nr_X3_build_258__217 b)) (fun b => f32 219 b (nr_X3_build_258__219 b)) (f32 240 6 (by decide)) (fun b => f32 248 b (nr_X3_build_258__248 b)) (f32 249 6 (by decide)) (fun b => f32 257 b (nr_X3_build_258__257 b))
    refine T_if1 ⟨(by decide +kernel), by unfold z_bl; omega⟩ ?_
    refine T_upg c31 bd_1_17 (by omega) (fun s43 c44 g46 g47 e48 => ?_)
    have f45 := z_Fr.upf (R := R_X11_refresh_1) f33 g46 g47 (Or.inr (Or.inr (Or.inr (Or.inr (Or.inr (Or.inr (Or.inr (Or.inl (⟨rfl, by decide⟩)))))))))
    have t49 : s43 1 16 = s30 1 16 := g47 16 (by decide)
    have r50 := y_B0.fr o36.1.1 (g46 211 0 (by decide)) (g46 213 0 (by decide))
    have r51 := y_SV.fr r42 (g46 191 16 (by decide)) (g46 6 6 (by decide)) (g46 191 17 (by decide)) (g46 191 18 (by decide)) (fun b => g46 3 b (by decide)) (fun b => g46 8 b (by decide)) (fun b => g46 12 b (by decide)) (fun b => g46 14 b (by decide)) (fun b => g46 16 b (by decide)) (fun b => g46 18 b (by decide)) (fun b => g46 193 b (by decide)) (fun b => g46 195 b (by decide)) (fun b => g46 197 b (by decide)) (fun b => g46 199 b (by decide)) (fun b => g46 201 b (by decide)) (fun b => g46 203 b (by decide)) (fun b => g46 205 b (by decide)) (fun b => g46 207 b (by decide)) (fun b => g46 209 b (by decide)) (fun b => g46 211 b (by decide)) (fun b => g46 213 b (by decide)) (fun b => g46 215 b (by decide)) (fun b => g46 217 b (by decide)) (fun b => g46 219 b (by decide)) (g46 240 6 (by decide)) (fun b => g46 248 b (by decide)) (g46 249 6 (by decide)) (fun b => g46 257 b (by decide))
    have r52 := y_U3.fr o36 (g46 191 16 (by decide)) (g46 6 6 (by decide)) (g46 191 17 (by decide)) (g46 191 18 (by decide)) (fun b => g46 3 b (by decide)) (fun b => g46 8 b (by decide)) (fun b => g46 12 b (by decide)) (fun b => g46 14 b (by decide)) (fun b => g46 16 b (by decide)) (fun b => g46 18 b (by decide)) (fun b => g46 193 b (by decide)) (fun b => g46 195 b (by decide)) (fun b => g46 197 b (by decide)) (fun b => g46 199 b (by decide)) (fun b => g46 201 b (by decide)) (fun b => g46 203 b (by decide)) (fun b => g46 205 b (by decide)) (fun b => g46 207 b (by decide)) (fun b => g46 209 b (by decide)) (fun b => g46 211 b (by decide)) (fun b => g46 213 b (by decide)) (fun b => g46 215 b (by decide)) (fun b => g46 217 b (by decide)) (fun b => g46 219 b (by decide)) (fun b => g46 222 b (by decide))
    refine T_if1 ⟨(by decide +kernel), by unfold z_bl; omega⟩ ?_
    refine T_upg c44 bd_1_18 (by omega) (fun s53 c54 g56 g57 e58 => ?_)
    have f55 := z_Fr.upf (R := R_X11_refresh_1) f45 g56 g57 (Or.inr (Or.inr (Or.inr (Or.inr (Or.inr (Or.inr (Or.inr (Or.inl (⟨rfl, by decide⟩)))))))))
    have t59 : s53 1 16 = s43 1 16 := g57 16 (by decide)
    have t60 : s53 1 17 = s43 1 17 := g57 17 (by decide)
    have r61 := y_B0.fr r50 (g56 211 0 (by decide)) (g56 213 0 (by decide))
    have r62 := y_SV.fr r51 (g56 191 16 (by decide)) (g56 6 6 (by decide)) (g56 191 17 (by decide)) (g56 191 18 (by decide)) (fun b => g56 3 b (by decide)) (fun b => g56 8 b (by decide)) (fun b => g56 12 b (by decide)) (fun b => g56 14 b (by decide)) (fun b => g56 16 b (by decide)) (fun b => g56 18 b (by decide)) (fun b => g56 193 b (by decide)) (fun b => g56 195 b (by decide)) (fun b => g56 197 b (by decide)) (fun b => g56 199 b (by decide)) (fun b => g56 201 b (by decide)) (fun b => g56 203 b (by decide)) (fun b => g56 205 b (by decide)) (fun b => g56 207 b (by decide)) (fun b => g56 209 b (by decide)) (fun b => g56 211 b (by decide)) (fun b => g56 213 b (by decide)) (fun b => g56 215 b (by decide)) (fun b => g56 217 b (by decide)) (fun b => g56 219 b (by decide)) (g56 240 6 (by decide)) (fun b => g56 248 b (by decide)) (g56 249 6 (by decide)) (fun b => g56 257 b (by decide))
    have r63 := y_U3.fr r52 (g56 191 16 (by decide)) (g56 6 6 (by decide)) (g56 191 17 (by decide)) (g56 191 18 (by decide)) (fun b => g56 3 b (by decide)) (fun b => g56 8 b (by decide)) (fun b => g56 12 b (by decide)) (fun b => g56 14 b (by decide)) (fun b => g56 16 b (by decide)) (fun b => g56 18 b (by decide)) (fun b => g56 193 b (by decide)) (fun b => g56 195 b (by decide)) (fun b => g56 197 b (by decide)) (fun b => g56 199 b (by decide)) (fun b => g56 201 b (by decide)) (fun b => g56 203 b (by decide)) (fun b => g56 205 b (by decide)) (fun b => g56 207 b (by decide)) (fun b => g56 209 b (by decide)) (fun b => g56 211 b (by decide)) (fun b => g56 213 b (by decide)) (fun b => g56 215 b (by decide)) (fun b => g56 217 b (by decide)) (fun b => g56 219 b (by decide)) (fun b => g56 222 b (by decide))
    exact sj_X11_refresh_1Z_J78 hfu r0 s53 c54 f55 r63 r62 (Or.inl e58)
theorem sf_X11_refresh_1Z {fu : Nat} (hfu : 8589934592 ≤ fu) (r0 : z_M) (c0 : z_CI r0) (p0 : y_V3 r0) (p1 : y_Y5 r0) : z_T (fX11_refresh fu r0 1) (P_X11_refresh_1Z r0) := by
  refine T_of (fX11_refresh.eq_1 ..) ?_
  refine T_if1 (by decide +kernel) ?_
  refine T_leq (fun x1 e2 => ?_)
  have u3 := CI_b c0 (k := 1) (j := 16) bd_1_16
  refine T_ite (fun h4 => ?_) (fun h4 => ?_)
  · exact sj_X11_refresh_1Z_J31 hfu r0 r0 c0 z_Fr.rf (y_V3.to p0 (by omega)) (y_V3.l p0 (by omega)) (p1.resolve_left (by omega))
  · refine T_if1 (by decide +kernel) ?_
    refine T_let 191 (by decide +kernel) ?_
    refine T_if1 (by decide +kernel) ?_
    refine T_useN (sf_X10_build_191K hfu r0 c0 p0.1.1) (fun v10 s5 hq => ?_)
    obtain ⟨c6, f7, o11, rfl⟩ := hq
    refine T_vN ?_
    have f8 := z_Fr.tr (R := R_X11_refresh_1) z_Fr.rf f7 rs_X10_build_191__X11_refresh_1
    have t14 : s5 1 16 = r0 1 16 := f7 1 16 (by decide)
    have t15 : s5 1 17 = r0 1 17 := f7 1 17 (by decide)
    refine T_if1 (by decide +kernel) ?_
    refine T_let 220 (by decide +kernel) ?_
    refine T_if1 (by decide +kernel) ?_
    refine T_useN (sf_X5_forget_220K hfu s5 c6 o11) (fun v21 s16 hq => ?_)
    obtain ⟨c17, f18, o22, rfl⟩ := hq
    refine T_vN ?_
    have f19 := z_Fr.tr (R := R_X11_refresh_1) f8 f18 rs_X5_forget_220__X11_refresh_1
    have t25 : s16 1 16 = s5 1 16 := f18 1 16 (by decide)
    have t26 : s16 1 17 = s5 1 17 := f18 1 17 (by decide)
    have r27 := y_U2.fr o11 (f18 191 16 (by decide)) (f18 6 6 (by decide)) (f18 191 17 (by decide)) (f18 191 18 (by decide)) (fun b => f18 3 b (nr_X5_forget_220__3 b)) (fun b => f18 8 b (nr_X5_forget_220__8 b)) (fun b => f18 12 b (nr_X5_forget_220__12 b)) (fun b => f18 14 b (nr_X5_forget_220__14 b)) (fun b => f18 16 b (nr_X5_forget_220__16 b)) (fun b => f18 18 b (nr_X5_forget_220__18 b)) (fun b => f18 193 b (nr_X5_forget_220__193 b)) (fun b => f18 195 b (nr_X5_forget_220__195 b)) (fun b => f18 197 b (nr_X5_forget_220__197 b)) (fun b => f18 199 b (nr_X5_forget_220__199 b)) (fun b => f18 201 b (nr_X5_forget_220__201 b)) (fun b => f18 203 b (nr_X5_forget_220__203 b)) (fun b => f18 205 b (nr_X5_forget_220__205 b)) (fun b => f18 207 b (nr_X5_forget_220__207 b)) (fun b => f18 209 b (nr_X5_forget_220__209 b)) (fun b => f18 211 b (nr_X5_forget_220__211 b)) (fun b => f18 213 b (nr_X5_forget_220__213 b)) (fun b => f18 215 b (nr_X5_forget_220__215 b)) (fun b => f18 217 b (nr_X5_forget_220__217 b)) (fun b => f18 219 b (nr_X5_forget_220__219 b))
    have r28 := y_B0.fr o11.1 (f18 211 0 (by decide)) (f18 213 0 (by decide))
    refine T_if1 ⟨(by decide +kernel), by unfold z_bl; omega⟩ ?_
    refine T_upg c17 bd_1_16 (by omega) (fun s29 c30 g32 g33 e34 => ?_)
    have f31 := z_Fr.upf (R := R_X11_refresh_1) f19 g32 g33 (Or.inr (Or.inr (Or.inr (Or.inr (Or.inr (Or.inr (Or.inr (Or.inl (⟨rfl, by decide⟩)))))))))
    have t35 : s29 1 17 = s16 1 17 := g33 17 (by decide)
    have r36 := y_U2.fr r27 (g32 191 16 (by decide)) (g32 6 6 (by decide)) (g32 191 17 (by decide)) (g32 191 18 (by decide)) (fun b => g32 3 b (by decide)) (fun b => g32 8 b (by decide)) (fun b => g32 12 b (by decide)) (fun b => g32 14 b (by decide)) (fun b => g32 16 b (by decide)) (fun b => g32 18 b (by decide)) (fun b => g32 193 b (by decide)) (fun b => g32 195 b (by decide)) (fun b => g32 197 b (by decide)) (fun b => g32 199 b (by decide)) (fun b => g32 201 b (by decide)) (fun b => g32 203 b (by decide)) (fun b => g32 205 b (by decide)) (fun b => g32 207 b (by decide)) (fun b => g32 209 b (by decide)) (fun b => g32 211 b (by decide)) (fun b => g32 213 b (by decide)) (fun b => g32 215 b (by decide)) (fun b => g32 217 b (by decide)) (fun b => g32 219 b (by decide))
    have r37 := y_B0.fr o22.1.1 (g32 211 0 (by decide)) (g32 213 0 (by decide))
    have r38 := y_U3.fr o22 (g32 191 16 (by decide)) (g32 6 6 (by decide)) (g32 191 17 (by decide)) (g32 191 18 (by decide)) (fun b => g32 3 b (by decide)) (fun b => g32 8 b (by decide)) (fun b => g32 12 b (by decide)) (fun b => g32 14 b (by decide)) (fun b => g32 16 b (by decide)) (fun b => g32 18 b (by decide)) (fun b => g32 193 b (by decide)) (fun b => g32 195 b (by decide)) (fun b => g32 197 b (by decide)) (fun b => g32 199 b (by decide)) (fun b => g32 201 b (by decide)) (fun b => g32 203 b (by decide)) (fun b => g32 205 b (by decide)) (fun b => g32 207 b (by decide)) (fun b => g32 209 b (by decide)) (fun b => g32 211 b (by decide)) (fun b => g32 213 b (by decide)) (fun b => g32 215 b (by decide)) (fun b => g32 217 b (by decide)) (fun b => g32 219 b (by decide)) (fun b => g32 222 b (by decide))
    refine T_if1 ⟨(by decide +kernel), by unfold z_bl; omega⟩ ?_
    refine T_upg c30 bd_1_17 (by omega) (fun s39 c40 g42 g43 e44 => ?_)
    have f41 := z_Fr.upf (R := R_X11_refresh_1) f31 g42 g43 (Or.inr (Or.inr (Or.inr (Or.inr (Or.inr (Or.inr (Or.inr (Or.inl (⟨rfl, by decide⟩)))))))))
    have t45 : s39 1 16 = s29 1 16 := g43 16 (by decide)
    have r46 := y_U2.fr r36 (g42 191 16 (by decide)) (g42 6 6 (by decide)) (g42 191 17 (by decide)) (g42 191 18 (by decide)) (fun b => g42 3 b (by decide)) (fun b => g42 8 b (by decide)) (fun b => g42 12 b (by decide)) (fun b => g42 14 b (by decide)) (fun b => g42 16 b (by decide)) (fun b => g42 18 b (by decide)) (fun b => g42 193 b (by decide)) (fun b => g42 195 b (by decide)) (fun b => g42 197 b (by decide)) (fun b => g42 199 b (by decide)) (fun b => g42 201 b (by decide)) (fun b => g42 203 b (by decide)) (fun b => g42 205 b (by decide)) (fun b => g42 207 b (by decide)) (fun b => g42 209 b (by decide)) (fun b => g42 211 b (by decide)) (fun b => g42 213 b (by decide)) (fun b => g42 215 b (by decide)) (fun b => g42 217 b (by decide)) (fun b => g42 219 b (by decide))
    have r47 := y_B0.fr r37 (g42 211 0 (by decide)) (g42 213 0 (by decide))
    have r48 := y_U3.fr r38 (g42 191 16 (by decide)) (g42 6 6 (by decide)) (g42 191 17 (by decide)) (g42 191 18 (by decide)) (fun b => g42 3 b (by decide)) (fun b => g42 8 b (by decide)) (fun b => g42 12 b (by decide)) (fun b => g42 14 b (by decide)) (fun b => g42 16 b (by decide)) (fun b => g42 18 b (by decide)) (fun b => g42 193 b (by decide)) (fun b => g42 195 b (by decide)) (fun b => g42 197 b (by decide)) (fun b => g42 199 b (by decide)) (fun b => g42 201 b (by decide)) (fun b => g42 203 b (by decide)) (fun b => g42 205 b (by decide)) (fun b => g42 207 b (by decide)) (fun b => g42 209 b (by decide)) (fun b => g42 211 b (by decide)) (fun b => g42 213 b (by decide)) (fun b => g42 215 b (by decide)) (fun b => g42 217 b (by decide)) (fun b => g42 219 b (by decide)) (fun b => g42 222 b (by decide))
    exact sj_X11_refresh_1Z_J31 hfu r0 s39 c40 f41 r48 (Or.inl (by omega)) (Or.inl (by omega))
theorem e_freshZ {fu : Nat} (hfu : 8589934592 ≤ fu) {s : z_M} (c : z_CI s) (h : y_V3 s) (y : y_Y4 s) (z : y_Y5 s) : z_T (fX11_refresh fu s 1) (fun v s' => v = vN ∧ y_RY s s' ∧ y_Q5 s' ∧ ∀ a b : Int, 296 ≤ a → s' a b = s a b) := by
  refine T_mono (T_and (e_freshY hfu c h y) (sf_X11_refresh_1Z hfu s c h z)) (fun v s' q => ?_)
  obtain ⟨⟨e, ry⟩, c1, f, u, sv, q5, _⟩ := q
  exact ⟨e, ry, q5, fun a b p => f a b (by unfold R_X11_refresh_1; omega)⟩
/-- the sides are fresh, too -/
def y_SDd (s s' : z_M) : Prop := y_Zp s' ∧ s' 296 9 ≤ s 296 9 + 200 ∧ y_YSs s' ∧ (∀ a b : Int, a ≤ 295 → ¬ (a = 1 ∧ b = 18) → s' a b = s a b) ∧ ∀ a b : Int, 309 ≤ a → s' a b = s a b
theorem e_refS {fu : Nat} (hfu : 8589934592 ≤ fu) {s : z_M} (ci : z_CI s) (ok : y_OKc s) (lc : y_LBc (y_dc s) s) (q5 : y_Q5 s) (zp : y_Zp s) (cc : s 296 9 ≤ 1000000000) (b8 : 0 ≤ s 3 8 ∧ s 3 8 ≤ 12) : z_T (fX11_refreshSides fu s 1) (fun v s' => v = vN ∧ y_SDd s s') := by
  refine T_of (fX11_refreshSides.eq_1 ..) ?_
  refine T_if1 v_ob1 ?_
  refine T_let (s 1 18) rfl ?_
  refine T_ite (fun h => ?_) (fun h => ?_)
  · refine T_of (fX11_refreshSides_J19.eq_1 ..) ?_
    exact T_ret ⟨rfl, zp, by omega, (q5.resolve_left h) ok, fun _ _ _ _ => rfl, fun _ _ _ => rfl⟩
  · refine T_if1 v_ob1 ?_
    refine T_let 296 (by decide +kernel) ?_
    refine T_if1 (by decide +kernel) ?_
    refine T_useN (e_sbuild hfu ci ok lc zp cc b8) (fun v s1 hq => ?_)
    obtain ⟨rfl, f, z1, c1, y1⟩ := hq
    refine T_vN ?_
    refine T_if1 ⟨v_ob1, by unfold z_bl; omega⟩ ?_
    refine T_upG (fun s2 a2 f2 => ?_)
    refine T_of (fX11_refreshSides_J19.eq_1 ..) ?_
    exact T_ret ⟨rfl, z1.fr (fun a b p => f2 a b (by omega)), by rw [f2 296 9 (by omega)]; exact c1, y1.fr (fun a b p => f2 a b (by unfold y_cz at p; omega)) (fun b => ⟨f2 _ _ (by omega), f2 _ _ (by omega), f2 _ _ (by omega), f2 _ _ (by omega), f2 _ _ (by omega)⟩), fun a b p q => (f2 a b q).trans (f a b (by omega) (by omega) (by omega) (by omega) (by omega) (by omega) (by omega)), fun a b p => (f2 a b (by omega)).trans (f a b (by omega) (by omega) (by omega) (by omega) (by omega) (by omega) (by omega))⟩
/-- what the six calls leave: layout, sides, paint -/
def y_K5 (s s' : z_M) : Prop := y_Y5 s' ∧ y_Zp s' ∧ s' 296 9 ≤ s 296 9 + 200
theorem y_SDd.k5 {s sr s' : z_M} (h : y_SDd sr s') (fr : ∀ a b : Int, 296 ≤ a → sr a b = s a b) : y_K5 s s' := ⟨Or.inr (Or.inr (Or.inr (fun _ => h.2.2.1))), h.1, by have := h.2.1; rw [fr 296 9 (by decide)] at this; exact this⟩
/-- refused, behind refresh -/
theorem y_K5.r {s sr s' : z_M} (q5 : y_Q5 sr) (zp : y_Zp s) (fr : ∀ a b : Int, 296 ≤ a → sr a b = s a b) (f : ∀ a b : Int, ¬ (a = 1 ∧ b ≠ 18) → s' a b = sr a b) : y_K5 s s' := ⟨y_Y5.q (q5.lo (fun a b _ p _ _ => f a b p)), zp.fr (fun a b p => (f a b (by omega)).trans (fr a b (by omega))), by rw [f 296 9 (by omega), fr 296 9 (by decide)]; omega⟩
/-- refused, ahead of refresh -/
theorem y_K5.i {s s' : z_M} (y5 : y_Y5 s) (zp : y_Zp s) (f : ∀ a b : Int, ¬ (a = 1 ∧ (b = 14 ∨ b = 15)) → s' a b = s a b) : y_K5 s s' := ⟨y5.fr (f _ _ (by decide)) (f _ _ (by decide)) (f _ _ (by decide)) (f _ _ (by decide)) (f _ _ (by decide)) (f _ _ (by decide)) (f _ _ (by decide)) (fun b => f _ b (by omega)) (fun b => f _ b (by omega)) (fun b => f _ b (by omega)) (fun b => f _ b (by omega)) (fun b => f _ b (by omega)) (fun b => f _ b (by omega)) (fun b => f _ b (by omega)) (fun b => f _ b (by omega)) (fun b => f _ b (by omega)) (fun b => f _ b (by omega)) (fun b => f _ b (by omega)) (fun b => f _ b (by omega)) (fun b => f _ b (by omega)) (fun b => f _ b (by omega)) (fun b => f _ b (by omega)) (fun b => f _ b (by omega)) (fun b => f _ b (by omega)) (fun b => f _ b (by omega)) (fun b => f _ b (by omega)) (fun b => f _ b (by omega)) (fun b => f _ b (by omega)) (f _ _ (by decide)) (fun b => f _ b (by omega)) (fun b => f _ b (by omega)) (fun b => f _ b (by omega)) (fun b => f _ b (by omega)) (fun b => f _ b (by omega)) (fun b => f _ b (by omega)) (fun b => f _ b (by omega)) (fun b => f _ b (by omega)) (fun b => f _ b (by omega)) (fun b => f _ b (by omega)) (fun b => f _ b (by omega)) (fun b => f _ b (by omega)) (fun b => f _ b (by omega)), zp.fr (fun a b p => f a b (by omega)), by rw [f 296 9 (by omega)]; omega⟩
