/-! the class's functions once more: what is kept of LONG stays right (by program, wip/tool/mksimk.py) -/
abbrev P_X11_marks_1K (r0 : z_M) : z_V → z_M → Prop := fun v s' => z_CI s' ∧ z_Fr R_X11_marks_1 r0 s' ∧ (y_V3 s') ∧ ((∃ x, v = vI x ∧ -2147483648 ≤ x ∧ x ≤ 2147483647) ∨ v = vX 1)
theorem nr_X10_marksOf_191__222 (b : Int) : ¬ R_X10_marksOf_191 222 b := not_false
theorem nr_X10_marksOf_191__248 (b : Int) : ¬ R_X10_marksOf_191 248 b := not_false
theorem sf_X11_marks_1K {fu : Nat} (hfu : 8589934592 ≤ fu) (r0 : z_M) (c0 : z_CI r0) (a1 : Int) (b1 : -2147483648 ≤ a1 ∧ a1 ≤ 2147483647) (p0 : y_V3 r0) : z_T (fX11_marks fu r0 1 a1) (P_X11_marks_1K r0) := by
  refine T_of (fX11_marks.eq_1 ..) ?_
  refine T_if1 (by decide +kernel) ?_
  refine T_nw ?_ (fun h1 h2 => ?_)
  · exact T_ret ⟨CI_up c0 bd_1_15 (z_wb rfl).1, z_Fr.upf (R := R_X11_marks_1) z_Fr.rf (fun a b h => z_up_k h) (fun b h => z_up_j h) (Or.inr (Or.inr (Or.inr (Or.inr (Or.inr (Or.inr (Or.inr (Or.inl (⟨rfl, by decide⟩))))))))), y_V3.fr p0 (z_up_j (by decide)) (z_up_j (by decide)) (z_up_k (by decide)) (z_up_k (by decide)) (z_up_k (by decide)) (z_up_k (by decide)) (fun _ => z_up_k (by decide)) (fun _ => z_up_k (by decide)) (fun _ => z_up_k (by decide)) (fun _ => z_up_k (by decide)) (fun _ => z_up_k (by decide)) (fun _ => z_up_k (by decide)) (fun _ => z_up_k (by decide)) (fun _ => z_up_k (by decide)) (fun _ => z_up_k (by decide)) (fun _ => z_up_k (by decide)) (fun _ => z_up_k (by decide)) (fun _ => z_up_k (by decide)) (fun _ => z_up_k (by decide)) (fun _ => z_up_k (by decide)) (fun _ => z_up_k (by decide)) (fun _ => z_up_k (by decide)) (fun _ => z_up_k (by decide)) (fun _ => z_up_k (by decide)) (fun _ => z_up_k (by decide)) (fun _ => z_up_k (by decide)) (fun _ => z_up_k (by decide)) (z_up_k (by decide)) (fun _ => z_up_k (by decide)), Or.inr rfl⟩
  refine T_if1 (by decide +kernel) ?_
  refine T_useN (sf_X11_refresh_1K hfu r0 c0 p0) (fun v8 s3 hq => ?_)
  obtain ⟨c4, f5, o9, o10, rfl⟩ := hq
  refine T_vN ?_
  have f6 := z_Fr.tr (R := R_X11_marks_1) z_Fr.rf f5 rs_X11_refresh_1__X11_marks_1
  have t13 : s3 6 6 = r0 6 6 := f5 6 6 (by decide)
  refine T_if1 (by decide +kernel) ?_
  refine T_let 191 (by decide +kernel) ?_
  refine T_if1 (by decide +kernel) ?_
  refine T_let 6 (by decide +kernel) ?_
  refine T_if1 (by decide +kernel) ?_
  refine T_leq (fun x14 e15 => ?_)
  have u16 := CI_b c4 (k := 6) (j := 6) bd_6_6
  refine T_leq (fun x17 e18 => ?_)
  have w19 := z_wb e18
  refine T_if1 (by decide +kernel) ?_
  refine T_useI (sf_X10_marksOf_191 hfu s3 c4 0 x17 a1 (by omega) (by omega) (by omega)) (fun v25 s20 hq => ?_)
  obtain ⟨c21, f22, ⟨x24, rfl, b26, b27⟩⟩ := hq
  refine T_vI ?_
  have f23 := z_Fr.tr (R := R_X11_marks_1) f6 f22 (fun a b h => absurd h not_false)
  have t28 : s20 6 6 = s3 6 6 := f22 6 6 (by decide)
  have r29 := y_U3.fr o9 (f22 191 16 (by decide)) (f22 6 6 (by decide)) (f22 191 17 (by decide)) (f22 191 18 (by decide)) (fun b => f22 3 b (nr_X10_marksOf_191__3 b)) (fun b => f22 8 b (nr_X10_marksOf_191__8 b)) (fun b => f22 12 b (nr_X10_marksOf_191__12 b)) (fun b => f22 14 b (nr_X10_marksOf_191__14 b)) (fun b => f22 16 b (nr_X10_marksOf_191__16 b)) (fun b => f22 18 b (nr_X10_marksOf_191__18 b)) (fun b => f22 193 b (nr_X10_marksOf_191__193 b)) (fun b => f22 195 b (nr_X10_marksOf_191__195 b)) (fun b => f22 197 b (nr_X10_marksOf_191__197 b)) (fun b => f22 199 b (nr_X10_marksOf_191__199 b)) (fun b => f22 201 b (nr_X10_marksOf_191__201 b)) (fun b => f22 203 b (nr_X10_marksOf_191__203 b)) (fun b => f22 205 b (nr_X10_marksOf_191__205 b)) (fun b => f22 207 b (nr_X10_marksOf_191__207 b)) (fun b => f22 209 b (nr_X10_marksOf_191__209 b)) (fun b => f22 211 b (nr_X10_marksOf_191__211 b)) (fun b => f22 213 b (nr_X10_marksOf_191__213 b)) (fun b => f22 215 b (nr_X10_marksOf_191__215 b)) (fun b => f22 217 b (nr_X10_marksOf_191__217 b)) (fun b => f22 219 b (nr_X10_marksOf_191__219 b)) (fun b => f22 222 b (nr_X10_marksOf_191__222 b))
  have r30 := y_SA.fr o10 (f22 191 16 (by decide)) (f22 6 6 (by decide)) (f22 191 17 (by decide)) (f22 191 18 (by decide)) (fun b => f22 3 b (nr_X10_marksOf_191__3 b)) (fun b => f22 8 b (nr_X10_marksOf_191__8 b)) (fun b => f22 12 b (nr_X10_marksOf_191__12 b)) (fun b => f22 14 b (nr_X10_marksOf_191__14 b)) (fun b => f22 16 b (nr_X10_marksOf_191__16 b)) (fun b => f22 18 b (nr_X10_marksOf_191__18 b)) (fun b => f22 193 b (nr_X10_marksOf_191__193 b)) (fun b => f22 195 b (nr_X10_marksOf_191__195 b)) (fun b => f22 197 b (nr_X10_marksOf_191__197 b)) (fun b => f22 199 b (nr_X10_marksOf_191__199 b)) (fun b => f22 201 b (nr_X10_marksOf_191__201 b)) (fun b => f22 203 b (nr_X10_marksOf_191__203 b)) (fun b => f22 205 b (nr_X10_marksOf_191__205 b)) (fun b => f22 207 b (nr_X10_marksOf_191__207 b)) (fun b => f22 209 b (nr_X10_marksOf_191__209 b)) (fun b => f22 211 b (nr_X10_marksOf_191__211 b)) (fun b => f22 213 b (nr_X10_marksOf_191__213 b)) (fun b => f22 215 b (nr_X10_marksOf_191__215 b)) (fun b => f22 217 b (nr_X10_marksOf_191__217 b)) (fun b => f22 219 b (nr_X10_marksOf_191__219 b)) (f22 240 6 (by decide)) (fun b => f22 248 b (nr_X10_marksOf_191__248 b))
  have r31 := y_B0.fr o9.1.1 (f22 211 0 (by decide)) (f22 213 0 (by decide))
  exact T_ret ⟨c21, f23, (y_V3.u r29 (Or.inr r30)), Or.inl (⟨x24, rfl, by omega, by omega⟩)⟩
abbrev P_X11_moves_1K (r0 : z_M) : z_V → z_M → Prop := fun v s' => z_CI s' ∧ z_Fr R_X11_moves_1 r0 s' ∧ (y_V3 s') ∧ (∃ x, v = vI x ∧ -2147483648 ≤ x ∧ x ≤ 2147483647)
theorem nr_X1_movedFrom_249_259__222 (b : Int) : ¬ R_X1_movedFrom_249_259 222 b := not_false
theorem nr_X1_movedFrom_249_259__248 (b : Int) : ¬ R_X1_movedFrom_249_259 248 b := not_false
theorem nr_X1_movedFrom_249_259__257 (b : Int) : ¬ R_X1_movedFrom_249_259 257 b := not_false
set_option maxHeartbeats 4000000 in
theorem sf_X11_moves_1K {fu : Nat} (hfu : 8589934592 ≤ fu) (r0 : z_M) (c0 : z_CI r0) (p0 : y_V3 r0) : z_T (fX11_moves fu r0 1) (P_X11_moves_1K r0) := by
  refine T_of (fX11_moves.eq_1 ..) ?_
  refine T_if1 (by decide +kernel) ?_
  refine T_useN (sf_X11_refresh_1K hfu r0 c0 p0) (fun v6 s1 hq => ?_)
  obtain ⟨c2, f3, o7, o8, rfl⟩ := hq
  refine T_vN ?_
  have f4 := z_Fr.tr (R := R_X11_moves_1) z_Fr.rf f3 rs_X11_refresh_1__X11_moves_1
  refine T_if1 (by decide +kernel) ?_
  refine T_let 2 (by decide +kernel) ?_
  refine T_if1 (by decide +kernel) ?_
  refine T_let 2 (by decide +kernel) ?_
  refine T_if1 (by decide +kernel) ?_
  refine T_get (by decide +kernel) (c := 3) (by decide +kernel) bdr_3 (by decide) c2 (fun x11 e12 b13 w14 => ?_)
  have l15 : z_ln 2 = 9 := by decide +kernel
  refine T_leq (fun x16 e17 => ?_)
  have w18 := z_wb e17
  refine T_if1 (by decide +kernel) ?_
  refine T_put (by decide +kernel) (c := 3) (by decide +kernel) bdr_3 (by omega) c2 (fun s19 e22 c20 g23 => ?_)
  have f21 := z_Fr.up (R := R_X11_moves_1) f4 g23 (fun _ => (Or.inl (⟨by decide, by decide⟩)))
  have r24 := y_B0.fr o7.1.1 (g23 211 0 (by decide)) (g23 213 0 (by decide))
  refine T_if1 (by decide +kernel) ?_
  refine T_let 191 (by decide +kernel) ?_
  refine T_if1 (by decide +kernel) ?_
  refine T_useN (sf_X10_build_191K hfu s19 c20 r24) (fun v30 s25 hq => ?_)
  obtain ⟨c26, f27, o31, rfl⟩ := hq
  refine T_vN ?_
  have f28 := z_Fr.tr (R := R_X11_moves_1) f21 f27 rs_X10_build_191__X11_moves_1
  refine T_if1 (by decide +kernel) ?_
  refine T_let 220 (by decide +kernel) ?_
  refine T_if1 (by decide +kernel) ?_
  refine T_useN (sf_X5_forget_220K hfu s25 c26 o31) (fun v39 s34 hq => ?_)
  obtain ⟨c35, f36, o40, rfl⟩ := hq
  refine T_vN ?_
  have f37 := z_Fr.tr (R := R_X11_moves_1) f28 f36 rs_X5_forget_220__X11_moves_1
  have r43 := y_U2.fr o31 (f36 191 16 (by decide)) (f36 6 6 (by decide)) (f36 191 17 (by decide)) (f36 191 18 (by decide)) (fun b => f36 3 b (nr_X5_forget_220__3 b)) (fun b => f36 8 b (nr_X5_forget_220__8 b)) (fun b => f36 12 b (nr_X5_forget_220__12 b)) (fun b => f36 14 b (nr_X5_forget_220__14 b)) (fun b => f36 16 b (nr_X5_forget_220__16 b)) (fun b => f36 18 b (nr_X5_forget_220__18 b)) (fun b => f36 193 b (nr_X5_forget_220__193 b)) (fun b => f36 195 b (nr_X5_forget_220__195 b)) (fun b => f36 197 b (nr_X5_forget_220__197 b)) (fun b => f36 199 b (nr_X5_forget_220__199 b)) (fun b => f36 201 b (nr_X5_forget_220__201 b)) (fun b => f36 203 b (nr_X5_forget_220__203 b)) (fun b => f36 205 b (nr_X5_forget_220__205 b)) (fun b => f36 207 b (nr_X5_forget_220__207 b)) (fun b => f36 209 b (nr_X5_forget_220__209 b)) (fun b => f36 211 b (nr_X5_forget_220__211 b)) (fun b => f36 213 b (nr_X5_forget_220__213 b)) (fun b => f36 215 b (nr_X5_forget_220__215 b)) (fun b => f36 217 b (nr_X5_forget_220__217 b)) (fun b => f36 219 b (nr_X5_forget_220__219 b))
  have r44 := y_B0.fr o31.1 (f36 211 0 (by decide)) (f36 213 0 (by decide))
  refine T_if1 (by decide +kernel) ?_
  refine T_let 249 (by decide +kernel) ?_
  refine T_if1 (by decide +kernel) ?_
  refine T_let 2 (by decide +kernel) ?_
  refine T_if1 (by decide +kernel) ?_
  refine T_get (by decide +kernel) (c := 3) (by decide +kernel) bdr_3 (by decide) c35 (fun x45 e46 b47 w48 => ?_)
  have l49 : z_ln 2 = 9 := by decide +kernel
  refine T_if1 (by decide +kernel) ?_
  refine T_let 2 (by decide +kernel) ?_
  refine T_if1 (by decide +kernel) ?_
  refine T_get (by decide +kernel) (c := 3) (by decide +kernel) bdr_3 (by decide) c35 (fun x50 e51 b52 w53 => ?_)
  have l54 : z_ln 2 = 9 := by decide +kernel
  refine T_if1 (by decide +kernel) ?_
  refine T_useN (sf_X1_go_249K hfu s34 c35 x45 x50 (by omega) (by omega) o40 (by first | exact y_LNr.i (by omega) | exact y_LNr.t (by assumption) rfl | exact y_LNr.t (by assumption) (by omega))) (fun v60 s55 hq => ?_)
  obtain ⟨c56, f57, o61, o62, rfl⟩ := hq
  refine T_vN ?_
  have f58 := z_Fr.tr (R := R_X11_moves_1) f37 f57 rs_X1_go_249__X11_moves_1
  have r65 := y_U2.fr r43 (f57 191 16 (by decide)) (f57 6 6 (by decide)) (f57 191 17 (by decide)) (f57 191 18 (by decide)) (fun b => f57 3 b (nr_X1_go_249__3 b)) (fun b => f57 8 b (nr_X1_go_249__8 b)) (fun b => f57 12 b (nr_X1_go_249__12 b)) (fun b => f57 14 b (nr_X1_go_249__14 b)) (fun b => f57 16 b (nr_X1_go_249__16 b)) (fun b => f57 18 b (nr_X1_go_249__18 b)) (fun b => f57 193 b (nr_X1_go_249__193 b)) (fun b => f57 195 b (nr_X1_go_249__195 b)) (fun b => f57 197 b (nr_X1_go_249__197 b)) (fun b => f57 199 b (nr_X1_go_249__199 b)) (fun b => f57 201 b (nr_X1_go_249__201 b)) (fun b => f57 203 b (nr_X1_go_249__203 b)) (fun b => f57 205 b (nr_X1_go_249__205 b)) (fun b => f57 207 b (nr_X1_go_249__207 b)) (fun b => f57 209 b (nr_X1_go_249__209 b)) (fun b => f57 211 b (nr_X1_go_249__211 b)) (fun b => f57 213 b (nr_X1_go_249__213 b)) (fun b => f57 215 b (nr_X1_go_249__215 b)) (fun b => f57 217 b (nr_X1_go_249__217 b)) (fun b => f57 219 b (nr_X1_go_249__219 b))
  have r66 := y_B0.fr o40.1.1 (f57 211 0 (by decide)) (f57 213 0 (by decide))
  refine T_if1 (by decide +kernel) ?_
  refine T_let 249 (by decide +kernel) ?_
  refine T_if1 (by decide +kernel) ?_
  refine T_let 258 (by decide +kernel) ?_
  refine T_if1 (by decide +kernel) ?_
  refine T_let 259 (by decide +kernel) ?_
  refine T_if1 (by decide +kernel) ?_
  refine T_useI (sf_X1_movedFrom_249_259 hfu s55 c56) (fun v72 s67 hq => ?_)
  obtain ⟨c68, f69, ⟨x71, rfl, b73, b74⟩⟩ := hq
  refine T_vI ?_
  have f70 := z_Fr.tr (R := R_X11_moves_1) f58 f69 (fun a b h => absurd h not_false)
  have r75 := y_U2.fr r65 (f69 191 16 (by decide)) (f69 6 6 (by decide)) (f69 191 17 (by decide)) (f69 191 18 (by decide)) (fun b => f69 3 b (nr_X1_movedFrom_249_259__3 b)) (fun b => f69 8 b (nr_X1_movedFrom_249_259__8 b)) (fun b => f69 12 b (nr_X1_movedFrom_249_259__12 b)) (fun b => f69 14 b (nr_X1_movedFrom_249_259__14 b)) (fun b => f69 16 b (nr_X1_movedFrom_249_259__16 b)) (fun b => f69 18 b (nr_X1_movedFrom_249_259__18 b)) (fun b => f69 193 b (nr_X1_movedFrom_249_259__193 b)) (fun b => f69 195 b (nr_X1_movedFrom_249_259__195 b)) (fun b => f69 197 b (nr_X1_movedFrom_249_259__197 b)) (fun b => f69 199 b (nr_X1_movedFrom_249_259__199 b)) (fun b => f69 201 b (nr_X1_movedFrom_249_259__201 b)) (fun b => f69 203 b (nr_X1_movedFrom_249_259__203 b)) (fun b => f69 205 b (nr_X1_movedFrom_249_259__205 b)) (fun b => f69 207 b (nr_X1_movedFrom_249_259__207 b)) (fun b => f69 209 b (nr_X1_movedFrom_249_259__209 b)) (fun b => f69 211 b (nr_X1_movedFrom_249_259__211 b)) (fun b => f69 213 b (nr_X1_movedFrom_249_259__213 b)) (fun b => f69 215 b (nr_X1_movedFrom_249_259__215 b)) (fun b => f69 217 b (nr_X1_movedFrom_249_259__217 b)) (fun b => f69 219 b (nr_X1_movedFrom_249_259__219 b))
  have r76 := y_B0.fr o61.1.1 (f69 211 0 (by decide)) (f69 213 0 (by decide))
  have r77 := y_U3.fr o61 (f69 191 16 (by decide)) (f69 6 6 (by decide)) (f69 191 17 (by decide)) (f69 191 18 (by decide)) (fun b => f69 3 b (nr_X1_movedFrom_249_259__3 b)) (fun b => f69 8 b (nr_X1_movedFrom_249_259__8 b)) (fun b => f69 12 b (nr_X1_movedFrom_249_259__12 b)) (fun b => f69 14 b (nr_X1_movedFrom_249_259__14 b)) (fun b => f69 16 b (nr_X1_movedFrom_249_259__16 b)) (fun b => f69 18 b (nr_X1_movedFrom_249_259__18 b)) (fun b => f69 193 b (nr_X1_movedFrom_249_259__193 b)) (fun b => f69 195 b (nr_X1_movedFrom_249_259__195 b)) (fun b => f69 197 b (nr_X1_movedFrom_249_259__197 b)) (fun b => f69 199 b (nr_X1_movedFrom_249_259__199 b)) (fun b => f69 201 b (nr_X1_movedFrom_249_259__201 b)) (fun b => f69 203 b (nr_X1_movedFrom_249_259__203 b)) (fun b => f69 205 b (nr_X1_movedFrom_249_259__205 b)) (fun b => f69 207 b (nr_X1_movedFrom_249_259__207 b)) (fun b => f69 209 b (nr_X1_movedFrom_249_259__209 b)) (fun b => f69 211 b (nr_X1_movedFrom_249_259__211 b)) (fun b => f69 213 b (nr_X1_movedFrom_249_259__213 b)) (fun b => f69 215 b (nr_X1_movedFrom_249_259__215 b)) (fun b => f69 217 b (nr_X1_movedFrom_249_259__217 b)) (fun b => f69 219 b (nr_X1_movedFrom_249_259__219 b)) (fun b => f69 222 b (nr_X1_movedFrom_249_259__222 b))
  have r78 := y_SV.fr o62 (f69 191 16 (by decide)) (f69 6 6 (by decide)) (f69 191 17 (by decide)) (f69 191 18 (by decide)) (fun b => f69 3 b (nr_X1_movedFrom_249_259__3 b)) (fun b => f69 8 b (nr_X1_movedFrom_249_259__8 b)) (fun b => f69 12 b (nr_X1_movedFrom_249_259__12 b)) (fun b => f69 14 b (nr_X1_movedFrom_249_259__14 b)) (fun b => f69 16 b (nr_X1_movedFrom_249_259__16 b)) (fun b => f69 18 b (nr_X1_movedFrom_249_259__18 b)) (fun b => f69 193 b (nr_X1_movedFrom_249_259__193 b)) (fun b => f69 195 b (nr_X1_movedFrom_249_259__195 b)) (fun b => f69 197 b (nr_X1_movedFrom_249_259__197 b)) (fun b => f69 199 b (nr_X1_movedFrom_249_259__199 b)) (fun b => f69 201 b (nr_X1_movedFrom_249_259__201 b)) (fun b => f69 203 b (nr_X1_movedFrom_249_259__203 b)) (fun b => f69 205 b (nr_X1_movedFrom_249_259__205 b)) (fun b => f69 207 b (nr_X1_movedFrom_249_259__207 b)) (fun b => f69 209 b (nr_X1_movedFrom_249_259__209 b)) (fun b => f69 211 b (nr_X1_movedFrom_249_259__211 b)) (fun b => f69 213 b (nr_X1_movedFrom_249_259__213 b)) (fun b => f69 215 b (nr_X1_movedFrom_249_259__215 b)) (fun b => f69 217 b (nr_X1_movedFrom_249_259__217 b)) (fun b => f69 219 b (nr_X1_movedFrom_249_259__219 b)) (f69 240 6 (by decide)) (fun b => f69 248 b (nr_X1_movedFrom_249_259__248 b)) (f69 249 6 (by decide)) (fun b => f69 257 b (nr_X1_movedFrom_249_259__257 b))
  refine T_if1 (by decide +kernel) ?_
  refine T_let 2 (by decide +kernel) ?_
  refine T_if1 (by decide +kernel) ?_
  refine T_let 2 (by decide +kernel) ?_
  refine T_if1 (by decide +kernel) ?_
  refine T_get (by decide +kernel) (c := 3) (by decide +kernel) bdr_3 (by decide) c68 (fun x79 e80 b81 w82 => ?_)
  have l83 : z_ln 2 = 9 := by decide +kernel
  refine T_leq (fun x84 e85 => ?_)
  have w86 := z_wb e85
  refine T_if1 (by decide +kernel) ?_
  refine T_put (by decide +kernel) (c := 3) (by decide +kernel) bdr_3 (by omega) c68 (fun s87 e90 c88 g91 => ?_)
  have f89 := z_Fr.up (R := R_X11_moves_1) f70 g91 (fun _ => (Or.inl (⟨by decide, by decide⟩)))
  have r92 := y_B0.fr r76 (g91 211 0 (by decide)) (g91 213 0 (by decide))
  refine T_if1 ⟨(by decide +kernel), by unfold z_bl; omega⟩ ?_
  refine T_upg c88 bd_1_16 (by omega) (fun s93 c94 g96 g97 e98 => ?_)
  have f95 := z_Fr.upf (R := R_X11_moves_1) f89 g96 g97 (Or.inr (Or.inr (Or.inr (Or.inr (Or.inr (Or.inr (Or.inr (Or.inr (Or.inr (Or.inr (Or.inl (⟨rfl, by decide⟩))))))))))))
  have r99 := y_B0.fr r92 (g96 211 0 (by decide)) (g96 213 0 (by decide))
  exact T_ret ⟨c94, f95, (y_V3.z r99 (by omega)), ⟨x71, rfl, by omega, by omega⟩⟩
abbrev P_X11_lend_1K (r0 : z_M) : z_V → z_M → Prop := fun v s' => z_CI s' ∧ z_Fr R_X11_lend_1 r0 s' ∧ (y_V3 s') ∧ ((∃ x, v = vI x ∧ -2147483648 ≤ x ∧ x ≤ 2147483647) ∨ v = vX 1)
theorem nr_X5_longWith_220__222 (b : Int) : ¬ R_X5_longWith_220 222 b := by
  unfold R_X5_longWith_220; omega
theorem nr_X5_longWith_220__248 (b : Int) : ¬ R_X5_longWith_220 248 b := by
  unfold R_X5_longWith_220; omega
theorem sj_X11_lend_1K_J88 {fu : Nat} (hfu : 8589934592 ≤ fu) (r0 s : z_M) (c : z_CI s) (f : z_Fr R_X11_lend_1 r0 s) (a1 : Int) (a2 : Int) (a3 : Int) (a4 : Int) (b1 : -2147483648 ≤ a1 ∧ a1 ≤ 2147483647) (b2 : -2147483648 ≤ a2 ∧ a2 ≤ 2147483647) (b3 : -2147483648 ≤ a3 ∧ a3 ≤ 2147483647) (b4 : -2147483648 ≤ a4 ∧ a4 ≤ 2147483646) (p0 : y_V3 s) (M : Int) (pm : 2147483647 - a4 ≤ M) {r : z_M → Int → Int → Int → z_O} {k : z_M → Int → Int → z_O} (hr : ∀ (s' : z_M) (v2 : Int) (v3 : Int) (v4 : Int), z_CI s' → z_Fr R_X11_lend_1 r0 s' → (-2147483648 ≤ v2 ∧ v2 ≤ 2147483647) → (-2147483648 ≤ v3 ∧ v3 ≤ 2147483647) → (-2147483648 ≤ v4 ∧ v4 ≤ 2147483647) → (y_V3 s') → (2147483647 - v4 < M) → z_T (r s' v2 v3 v4) (P_X11_lend_1K r0)) (hk : ∀ (s' : z_M) (v2 : Int) (v3 : Int), z_CI s' → z_Fr R_X11_lend_1 r0 s' → (-2147483648 ≤ v2 ∧ v2 ≤ 2147483647) → (-2147483648 ≤ v3 ∧ v3 ≤ 2147483647) → (y_V3 s') → z_T (k s' v2 v3) (P_X11_lend_1K r0)) : z_T (fX11_lend_J88 fu s 1 a1 a2 a3 a4 r k) (P_X11_lend_1K r0) := by
  refine T_of (fX11_lend_J88.eq_1 ..) ?_
  have u1 := CI_b c (k := 191) (j := 16) bd_191_16
  refine T_leq (fun x2 e3 => ?_)
  have w4 := z_wb e3
  exact hr s a2 a3 x2 c f (by omega) (by omega) (by omega) p0 (by omega)
theorem sl_X11_lend_1K_L43 {fu : Nat} (hfu : 8589934592 ≤ fu) (r0 : z_M) (a1 : Int) (b1 : -2147483648 ≤ a1 ∧ a1 ≤ 2147483647) {k : z_M → Int → Int → z_O} (hk : ∀ (s' : z_M) (v2 : Int) (v3 : Int), z_CI s' → z_Fr R_X11_lend_1 r0 s' → (-2147483648 ≤ v2 ∧ v2 ≤ 2147483647) → (-2147483648 ≤ v3 ∧ v3 ≤ 2147483647) → (y_V3 s') → z_T (k s' v2 v3) (P_X11_lend_1K r0)) : ∀ (F : Nat) (s : z_M) (a2 : Int) (a3 : Int) (a4 : Int), z_CI s → z_Fr R_X11_lend_1 r0 s → (-2147483648 ≤ a2 ∧ a2 ≤ 2147483647) → (-2147483648 ≤ a3 ∧ a3 ≤ 2147483647) → (-2147483648 ≤ a4 ∧ a4 ≤ 2147483647) → (y_V3 s) → (2147483647 - a4 < (F : Int)) → z_T (fX11_lend_L43 fu 1 a1 F s a2 a3 a4 k) (P_X11_lend_1K r0) := by
  intro F
  induction F with
  | zero =>
    intro s a2 a3 a4 c f b2 b3 b4 i0 hm
    have u25 := CI_b c (k := 191) (j := 16) bd_191_16
    exfalso; omega
  | succ F ih =>
    intro s a2 a3 a4 c f b2 b3 b4 i0 hm
    refine T_of (fX11_lend_L43.eq_2 ..) ?_
    have u1 := CI_b c (k := 191) (j := 16) bd_191_16
    refine T_pick (by decide) (fun x2 e3 b4 => ?_)
    have b5 : x2 = (6 : Int) := by rw [← e3]; decide +kernel
    refine T_ite (fun h6 => ?_) (fun h6 => ?_)
    · exact hk s a2 a3 c f (by omega) (by omega) i0
    · refine T_if1 (by decide +kernel) ?_
      refine T_let 220 (by decide +kernel) ?_
      refine T_if1 (by decide +kernel) ?_
      refine T_let 191 (by decide +kernel) ?_
      refine T_if1 (by decide +kernel) ?_
      refine T_leq (fun x7 e8 => ?_)
      have u9 := CI_b c (k := 191) (j := 16) bd_191_16
      refine T_leq (fun x10 e11 => ?_)
      have w12 := z_wb e11
      refine T_if1 (by decide +kernel) ?_
      refine T_useI (sf_X5_longWith_220 hfu s c 0 x10 a4 (by omega) (by omega) (by omega)) (fun v18 s13 hq => ?_)
      obtain ⟨c14, f15, ⟨x17, rfl, b19, b20⟩⟩ := hq
      refine T_vI ?_
      have f16 := z_Fr.tr (R := R_X11_lend_1) f f15 rs_X5_longWith_220__X11_lend_1
      have t21 : s13 191 16 = s 191 16 := f15 191 16 (by decide)
      have r22 := y_V3.fr i0 (f15 1 16 (by decide)) (f15 1 17 (by decide)) (f15 191 16 (by decide)) (f15 6 6 (by decide)) (f15 191 17 (by decide)) (f15 191 18 (by decide)) (fun b => f15 3 b (nr_X5_longWith_220__3 b)) (fun b => f15 8 b (nr_X5_longWith_220__8 b)) (fun b => f15 12 b (nr_X5_longWith_220__12 b)) (fun b => f15 14 b (nr_X5_longWith_220__14 b)) (fun b => f15 16 b (nr_X5_longWith_220__16 b)) (fun b => f15 18 b (nr_X5_longWith_220__18 b)) (fun b => f15 193 b (nr_X5_longWith_220__193 b)) (fun b => f15 195 b (nr_X5_longWith_220__195 b)) (fun b => f15 197 b (nr_X5_longWith_220__197 b)) (fun b => f15 199 b (nr_X5_longWith_220__199 b)) (fun b => f15 201 b (nr_X5_longWith_220__201 b)) (fun b => f15 203 b (nr_X5_longWith_220__203 b)) (fun b => f15 205 b (nr_X5_longWith_220__205 b)) (fun b => f15 207 b (nr_X5_longWith_220__207 b)) (fun b => f15 209 b (nr_X5_longWith_220__209 b)) (fun b => f15 211 b (nr_X5_longWith_220__211 b)) (fun b => f15 213 b (nr_X5_longWith_220__213 b)) (fun b => f15 215 b (nr_X5_longWith_220__215 b)) (fun b => f15 217 b (nr_X5_longWith_220__217 b)) (fun b => f15 219 b (nr_X5_longWith_220__219 b)) (fun b => f15 222 b (nr_X5_longWith_220__222 b)) (f15 240 6 (by decide)) (fun b => f15 248 b (nr_X5_longWith_220__248 b))
      have r23 := y_B0.fr i0.1.1 (f15 211 0 (by decide)) (f15 213 0 (by decide))
      refine T_ite (fun h24 => ?_) (fun h24 => ?_)
      · exact sj_X11_lend_1K_J88 hfu r0 s13 c14 f16 a1 a2 a3 a4 (by omega) (by omega) (by omega) (by omega) r22 (2147483647 - a4) (by omega) (fun s' v2 v3 v4 c' f' w2 w3 w4 z0 pg => ih s' v2 v3 v4 c' f' w2 w3 w4 z0 (by omega)) hk
      · exact sj_X11_lend_1K_J88 hfu r0 s13 c14 f16 a1 a4 x17 a4 (by omega) (by omega) (by omega) (by omega) r22 (2147483647 - a4) (by omega) (fun s' v2 v3 v4 c' f' w2 w3 w4 z0 pg => ih s' v2 v3 v4 c' f' w2 w3 w4 z0 (by omega)) hk
theorem sj_X11_lend_1K_J103 {fu : Nat} (hfu : 8589934592 ≤ fu) (r0 s : z_M) (c : z_CI s) (f : z_Fr R_X11_lend_1 r0 s) (t0 : Int) (d0 : -2147483648 ≤ t0 ∧ t0 ≤ 2147483647) (p0 : y_V3 s) : z_T (fX11_lend_J103 fu s t0) (P_X11_lend_1K r0) := by
  refine T_of (fX11_lend_J103.eq_1 ..) ?_
  have u1 := CI_b c (k := 191) (j := 16) bd_191_16
  exact T_ret ⟨c, f, p0, Or.inl (⟨t0, rfl, by omega, by omega⟩)⟩
theorem sf_X11_lend_1K {fu : Nat} (hfu : 8589934592 ≤ fu) (r0 : z_M) (c0 : z_CI r0) (a1 : Int) (b1 : -2147483648 ≤ a1 ∧ a1 ≤ 2147483647) (p0 : y_V3 r0) : z_T (fX11_lend fu r0 1 a1) (P_X11_lend_1K r0) := by
  refine T_of (fX11_lend.eq_1 ..) ?_
  refine T_if1 (by decide +kernel) ?_
  refine T_nw ?_ (fun h1 h2 => ?_)
  · exact T_ret ⟨CI_up c0 bd_1_15 (z_wb rfl).1, z_Fr.upf (R := R_X11_lend_1) z_Fr.rf (fun a b h => z_up_k h) (fun b h => z_up_j h) (Or.inr (Or.inr (Or.inr (Or.inr (Or.inr (Or.inr (Or.inr (Or.inl (⟨rfl, by decide⟩))))))))), y_V3.fr p0 (z_up_j (by decide)) (z_up_j (by decide)) (z_up_k (by decide)) (z_up_k (by decide)) (z_up_k (by decide)) (z_up_k (by decide)) (fun _ => z_up_k (by decide)) (fun _ => z_up_k (by decide)) (fun _ => z_up_k (by decide)) (fun _ => z_up_k (by decide)) (fun _ => z_up_k (by decide)) (fun _ => z_up_k (by decide)) (fun _ => z_up_k (by decide)) (fun _ => z_up_k (by decide)) (fun _ => z_up_k (by decide)) (fun _ => z_up_k (by decide)) (fun _ => z_up_k (by decide)) (fun _ => z_up_k (by decide)) (fun _ => z_up_k (by decide)) (fun _ => z_up_k (by decide)) (fun _ => z_up_k (by decide)) (fun _ => z_up_k (by decide)) (fun _ => z_up_k (by decide)) (fun _ => z_up_k (by decide)) (fun _ => z_up_k (by decide)) (fun _ => z_up_k (by decide)) (fun _ => z_up_k (by decide)) (z_up_k (by decide)) (fun _ => z_up_k (by decide)), Or.inr rfl⟩
  refine T_if1 (by decide +kernel) ?_
  refine T_useN (sf_X11_refresh_1K hfu r0 c0 p0) (fun v8 s3 hq => ?_)
  obtain ⟨c4, f5, o9, o10, rfl⟩ := hq
  refine T_vN ?_
  have f6 := z_Fr.tr (R := R_X11_lend_1) z_Fr.rf f5 rs_X11_refresh_1__X11_lend_1
  have u13 := CI_b c4 (k := 191) (j := 16) bd_191_16
  refine T_pick (by decide) (fun x14 e15 b16 => ?_)
  have b17 : x14 = (0 : Int) := by rw [← e15]; decide +kernel
  refine T_if1 (by decide +kernel) ?_
  refine T_let 220 (by decide +kernel) ?_
  refine T_if1 (by decide +kernel) ?_
  refine T_let 191 (by decide +kernel) ?_
  refine T_if1 (by decide +kernel) ?_
  refine T_leq (fun x18 e19 => ?_)
  have u20 := CI_b c4 (k := 191) (j := 16) bd_191_16
  refine T_leq (fun x21 e22 => ?_)
  have w23 := z_wb e22
  refine T_if1 (by decide +kernel) ?_
  refine T_useI (sf_X5_longWith_220 hfu s3 c4 0 x21 x14 (by omega) (by omega) (by omega)) (fun v29 s24 hq => ?_)
  obtain ⟨c25, f26, ⟨x28, rfl, b30, b31⟩⟩ := hq
  refine T_vI ?_
  have f27 := z_Fr.tr (R := R_X11_lend_1) f6 f26 rs_X5_longWith_220__X11_lend_1
  have t32 : s24 191 16 = s3 191 16 := f26 191 16 (by decide)
  have r33 := y_U3.fr o9 (f26 191 16 (by decide)) (f26 6 6 (by decide)) (f26 191 17 (by decide)) (f26 191 18 (by decide)) (fun b => f26 3 b (nr_X5_longWith_220__3 b)) (fun b => f26 8 b (nr_X5_longWith_220__8 b)) (fun b => f26 12 b (nr_X5_longWith_220__12 b)) (fun b => f26 14 b (nr_X5_longWith_220__14 b)) (fun b => f26 16 b (nr_X5_longWith_220__16 b)) (fun b => f26 18 b (nr_X5_longWith_220__18 b)) (fun b => f26 193 b (nr_X5_longWith_220__193 b)) (fun b => f26 195 b (nr_X5_longWith_220__195 b)) (fun b => f26 197 b (nr_X5_longWith_220__197 b)) (fun b => f26 199 b (nr_X5_longWith_220__199 b)) (fun b => f26 201 b (nr_X5_longWith_220__201 b)) (fun b => f26 203 b (nr_X5_longWith_220__203 b)) (fun b => f26 205 b (nr_X5_longWith_220__205 b)) (fun b => f26 207 b (nr_X5_longWith_220__207 b)) (fun b => f26 209 b (nr_X5_longWith_220__209 b)) (fun b => f26 211 b (nr_X5_longWith_220__211 b)) (fun b => f26 213 b (nr_X5_longWith_220__213 b)) (fun b => f26 215 b (nr_X5_longWith_220__215 b)) (fun b => f26 217 b (nr_X5_longWith_220__217 b)) (fun b => f26 219 b (nr_X5_longWith_220__219 b)) (fun b => f26 222 b (nr_X5_longWith_220__222 b))
  have r34 := y_SA.fr o10 (f26 191 16 (by decide)) (f26 6 6 (by decide)) (f26 191 17 (by decide)) (f26 191 18 (by decide)) (fun b => f26 3 b (nr_X5_longWith_220__3 b)) (fun b => f26 8 b (nr_X5_longWith_220__8 b)) (fun b => f26 12 b (nr_X5_longWith_220__12 b)) (fun b => f26 14 b (nr_X5_longWith_220__14 b)) (fun b => f26 16 b (nr_X5_longWith_220__16 b)) (fun b => f26 18 b (nr_X5_longWith_220__18 b)) (fun b => f26 193 b (nr_X5_longWith_220__193 b)) (fun b => f26 195 b (nr_X5_longWith_220__195 b)) (fun b => f26 197 b (nr_X5_longWith_220__197 b)) (fun b => f26 199 b (nr_X5_longWith_220__199 b)) (fun b => f26 201 b (nr_X5_longWith_220__201 b)) (fun b => f26 203 b (nr_X5_longWith_220__203 b)) (fun b => f26 205 b (nr_X5_longWith_220__205 b)) (fun b => f26 207 b (nr_X5_longWith_220__207 b)) (fun b => f26 209 b (nr_X5_longWith_220__209 b)) (fun b => f26 211 b (nr_X5_longWith_220__211 b)) (fun b => f26 213 b (nr_X5_longWith_220__213 b)) (fun b => f26 215 b (nr_X5_longWith_220__215 b)) (fun b => f26 217 b (nr_X5_longWith_220__217 b)) (fun b => f26 219 b (nr_X5_longWith_220__219 b)) (f26 240 6 (by decide)) (fun b => f26 248 b (nr_X5_longWith_220__248 b))
  have r35 := y_B0.fr o9.1.1 (f26 211 0 (by decide)) (f26 213 0 (by decide))
  refine T_leq (fun x36 e37 => ?_)
  have w38 := z_wb e37
  refine sl_X11_lend_1K_L43 hfu r0 a1 (by omega) (fun s39 y42 y43 c40 f41 b44 b45 g46 => ?_) fu s24 x14 x28 x36 c25 f27 (by omega) (by omega) (by omega) (y_V3.u r33 (Or.inr r34)) (by omega)
  have u47 := CI_b c40 (k := 191) (j := 16) bd_191_16
  refine T_ite (fun h48 => ?_) (fun h48 => ?_)
  · exact sj_X11_lend_1K_J103 hfu r0 s39 c40 f41 y43 (by omega) g46
  · exact sj_X11_lend_1K_J103 hfu r0 s39 c40 f41 y42 (by omega) g46
abbrev P_X11_nearest_1K (r0 : z_M) : z_V → z_M → Prop := fun v s' => z_CI s' ∧ z_Fr R_X11_nearest_1 r0 s' ∧ (y_V3 s') ∧ ((∃ x, v = vI x ∧ -2147483648 ≤ x ∧ x ≤ 2147483647) ∨ v = vX 1)
theorem nr_X3_nearestOn_258__222 (b : Int) : ¬ R_X3_nearestOn_258 222 b := not_false
theorem nr_X3_nearestOn_258__248 (b : Int) : ¬ R_X3_nearestOn_258 248 b := not_false
theorem sj_X11_nearest_1K_J69 {fu : Nat} (hfu : 8589934592 ≤ fu) (r0 s : z_M) (c : z_CI s) (f : z_Fr R_X11_nearest_1 r0 s) (a1 : Int) (a2 : Int) (a3 : Int) (a4 : Int) (b1 : -2147483648 ≤ a1 ∧ a1 ≤ 2147483647) (b2 : -2147483648 ≤ a2 ∧ a2 ≤ 2147483647) (b3 : -2147483648 ≤ a3 ∧ a3 ≤ 2147483647) (b4 : -2147483648 ≤ a4 ∧ a4 ≤ 2147483646) (p0 : y_V3 s) (M : Int) (pm : 2147483647 - a4 ≤ M) {r : z_M → Int → Int → Int → z_O} {k : z_M → Int → Int → z_O} (hr : ∀ (s' : z_M) (v2 : Int) (v3 : Int) (v4 : Int), z_CI s' → z_Fr R_X11_nearest_1 r0 s' → (-2147483648 ≤ v2 ∧ v2 ≤ 2147483647) → (-2147483648 ≤ v3 ∧ v3 ≤ 2147483647) → (-2147483648 ≤ v4 ∧ v4 ≤ 2147483647) → (y_V3 s') → (2147483647 - v4 < M) → z_T (r s' v2 v3 v4) (P_X11_nearest_1K r0)) (hk : ∀ (s' : z_M) (v2 : Int) (v3 : Int), z_CI s' → z_Fr R_X11_nearest_1 r0 s' → (-2147483648 ≤ v2 ∧ v2 ≤ 2147483647) → (-2147483648 ≤ v3 ∧ v3 ≤ 2147483647) → (y_V3 s') → z_T (k s' v2 v3) (P_X11_nearest_1K r0)) : z_T (fX11_nearest_J69 fu s 1 a1 a2 a3 a4 r k) (P_X11_nearest_1K r0) := by
  refine T_of (fX11_nearest_J69.eq_1 ..) ?_
  have u1 := CI_b c (k := 240) (j := 6) bd_240_6
  refine T_leq (fun x2 e3 => ?_)
  have w4 := z_wb e3
  exact hr s a2 a3 x2 c f (by omega) (by omega) (by omega) p0 (by omega)
theorem sl_X11_nearest_1K_L20 {fu : Nat} (hfu : 8589934592 ≤ fu) (r0 : z_M) (a1 : Int) (b1 : -2147483648 ≤ a1 ∧ a1 ≤ 2147483647) {k : z_M → Int → Int → z_O} (hk : ∀ (s' : z_M) (v2 : Int) (v3 : Int), z_CI s' → z_Fr R_X11_nearest_1 r0 s' → (-2147483648 ≤ v2 ∧ v2 ≤ 2147483647) → (-2147483648 ≤ v3 ∧ v3 ≤ 2147483647) → (y_V3 s') → z_T (k s' v2 v3) (P_X11_nearest_1K r0)) : ∀ (F : Nat) (s : z_M) (a2 : Int) (a3 : Int) (a4 : Int), z_CI s → z_Fr R_X11_nearest_1 r0 s → (-2147483648 ≤ a2 ∧ a2 ≤ 2147483647) → (-2147483648 ≤ a3 ∧ a3 ≤ 2147483647) → (-2147483648 ≤ a4 ∧ a4 ≤ 2147483647) → (y_V3 s) → (2147483647 - a4 < (F : Int)) → z_T (fX11_nearest_L20 fu 1 a1 F s a2 a3 a4 k) (P_X11_nearest_1K r0) := by
  intro F
  induction F with
  | zero =>
    intro s a2 a3 a4 c f b2 b3 b4 i0 hm
    have u32 := CI_b c (k := 240) (j := 6) bd_240_6
    exfalso; omega
  | succ F ih =>
    intro s a2 a3 a4 c f b2 b3 b4 i0 hm
    refine T_of (fX11_nearest_L20.eq_2 ..) ?_
    have u1 := CI_b c (k := 240) (j := 6) bd_240_6
    refine T_if1 (by decide +kernel) ?_
    refine T_let 240 (by decide +kernel) ?_
    refine T_if1 (by decide +kernel) ?_
    refine T_leq (fun x2 e3 => ?_)
    have u4 := CI_b c (k := 240) (j := 6) bd_240_6
    refine T_ite (fun h5 => ?_) (fun h5 => ?_)
    · exact hk s a2 a3 c f (by omega) (by omega) i0
    · refine T_if1 (by decide +kernel) ?_
      refine T_let 258 (by decide +kernel) ?_
      refine T_if1 (by decide +kernel) ?_
      refine T_useI (sf_X3_nearestOn_258 hfu s c a4 0 (by omega) (by omega)) (fun v11 s6 hq => ?_)
      obtain ⟨c7, f8, ⟨x10, rfl, b12, b13⟩⟩ := hq
      refine T_vI ?_
      have f9 := z_Fr.tr (R := R_X11_nearest_1) f f8 (fun a b h => absurd h not_false)
      have t14 : s6 240 6 = s 240 6 := f8 240 6 (by decide)
      have r15 := y_V3.fr i0 (f8 1 16 (by decide)) (f8 1 17 (by decide)) (f8 191 16 (by decide)) (f8 6 6 (by decide)) (f8 191 17 (by decide)) (f8 191 18 (by decide)) (fun b => f8 3 b (nr_X3_nearestOn_258__3 b)) (fun b => f8 8 b (nr_X3_nearestOn_258__8 b)) (fun b => f8 12 b (nr_X3_nearestOn_258__12 b)) (fun b => f8 14 b (nr_X3_nearestOn_258__14 b)) (fun b => f8 16 b (nr_X3_nearestOn_258__16 b)) (fun b => f8 18 b (nr_X3_nearestOn_258__18 b)) (fun b => f8 193 b (nr_X3_nearestOn_258__193 b)) (fun b => f8 195 b (nr_X3_nearestOn_258__195 b)) (fun b => f8 197 b (nr_X3_nearestOn_258__197 b)) (fun b => f8 199 b (nr_X3_nearestOn_258__199 b)) (fun b => f8 201 b (nr_X3_nearestOn_258__201 b)) (fun b => f8 203 b (nr_X3_nearestOn_258__203 b)) (fun b => f8 205 b (nr_X3_nearestOn_258__205 b)) (fun b => f8 207 b (nr_X3_nearestOn_258__207 b)) (fun b => f8 209 b (nr_X3_nearestOn_258__209 b)) (fun b => f8 211 b (nr_X3_nearestOn_258__211 b)) (fun b => f8 213 b (nr_X3_nearestOn_258__213 b)) (fun b => f8 215 b (nr_X3_nearestOn_258__215 b)) (fun b => f8 217 b (nr_X3_nearestOn_258__217 b)) (fun b => f8 219 b (nr_X3_nearestOn_258__219 b)) (fun b => f8 222 b (nr_X3_nearestOn_258__222 b)) (f8 240 6 (by decide)) (fun b => f8 248 b (nr_X3_nearestOn_258__248 b))
      have r16 := y_B0.fr i0.1.1 (f8 211 0 (by decide)) (f8 213 0 (by decide))
      refine T_if1 (by decide +kernel) ?_
      refine T_let 258 (by decide +kernel) ?_
      refine T_if1 (by decide +kernel) ?_
      refine T_useI (sf_X3_nearestOn_258 hfu s6 c7 a4 1 (by omega) (by omega)) (fun v22 s17 hq => ?_)
      obtain ⟨c18, f19, ⟨x21, rfl, b23, b24⟩⟩ := hq
      refine T_vI ?_
      have f20 := z_Fr.tr (R := R_X11_nearest_1) f9 f19 (fun a b h => absurd h not_false)
      have t25 : s17 240 6 = s6 240 6 := f19 240 6 (by decide)
      have r26 := y_V3.fr r15 (f19 1 16 (by decide)) (f19 1 17 (by decide)) (f19 191 16 (by decide)) (f19 6 6 (by decide)) (f19 191 17 (by decide)) (f19 191 18 (by decide)) (fun b => f19 3 b (nr_X3_nearestOn_258__3 b)) (fun b => f19 8 b (nr_X3_nearestOn_258__8 b)) (fun b => f19 12 b (nr_X3_nearestOn_258__12 b)) (fun b => f19 14 b (nr_X3_nearestOn_258__14 b)) (fun b => f19 16 b (nr_X3_nearestOn_258__16 b)) (fun b => f19 18 b (nr_X3_nearestOn_258__18 b)) (fun b => f19 193 b (nr_X3_nearestOn_258__193 b)) (fun b => f19 195 b (nr_X3_nearestOn_258__195 b)) (fun b => f19 197 b (nr_X3_nearestOn_258__197 b)) (fun b => f19 199 b (nr_X3_nearestOn_258__199 b)) (fun b => f19 201 b (nr_X3_nearestOn_258__201 b)) (fun b => f19 203 b (nr_X3_nearestOn_258__203 b)) (fun b => f19 205 b (nr_X3_nearestOn_258__205 b)) (fun b => f19 207 b (nr_X3_nearestOn_258__207 b)) (fun b => f19 209 b (nr_X3_nearestOn_258__209 b)) (fun b => f19 211 b (nr_X3_nearestOn_258__211 b)) (fun b => f19 213 b (nr_X3_nearestOn_258__213 b)) (fun b => f19 215 b (nr_X3_nearestOn_258__215 b)) (fun b => f19 217 b (nr_X3_nearestOn_258__217 b)) (fun b => f19 219 b (nr_X3_nearestOn_258__219 b)) (fun b => f19 222 b (nr_X3_nearestOn_258__222 b)) (f19 240 6 (by decide)) (fun b => f19 248 b (nr_X3_nearestOn_258__248 b))
      have r27 := y_B0.fr r16 (f19 211 0 (by decide)) (f19 213 0 (by decide))
      refine T_leq (fun x28 e29 => ?_)
      have w30 := z_minb x10 x21
      rw [e29] at w30
      refine T_ite (fun h31 => ?_) (fun h31 => ?_)
      · exact sj_X11_nearest_1K_J69 hfu r0 s17 c18 f20 a1 a2 a3 a4 (by omega) (by omega) (by omega) (by omega) r26 (2147483647 - a4) (by omega) (fun s' v2 v3 v4 c' f' w2 w3 w4 z0 pg => ih s' v2 v3 v4 c' f' w2 w3 w4 z0 (by omega)) hk
      · exact sj_X11_nearest_1K_J69 hfu r0 s17 c18 f20 a1 x28 a4 a4 (by omega) (by omega) (by omega) (by omega) r26 (2147483647 - a4) (by omega) (fun s' v2 v3 v4 c' f' w2 w3 w4 z0 pg => ih s' v2 v3 v4 c' f' w2 w3 w4 z0 (by omega)) hk
theorem sj_X11_nearest_1K_J94 {fu : Nat} (hfu : 8589934592 ≤ fu) (r0 s : z_M) (c : z_CI s) (f : z_Fr R_X11_nearest_1 r0 s) (t0 : Int) (d0 : -2147483648 ≤ t0 ∧ t0 ≤ 2147483647) (p0 : y_V3 s) : z_T (fX11_nearest_J94 fu s t0) (P_X11_nearest_1K r0) := by
  refine T_of (fX11_nearest_J94.eq_1 ..) ?_
  have u1 := CI_b c (k := 240) (j := 6) bd_240_6
  exact T_ret ⟨c, f, p0, Or.inl (⟨t0, rfl, by omega, by omega⟩)⟩
theorem sf_X11_nearest_1K {fu : Nat} (hfu : 8589934592 ≤ fu) (r0 : z_M) (c0 : z_CI r0) (a1 : Int) (b1 : -2147483648 ≤ a1 ∧ a1 ≤ 2147483647) (p0 : y_V3 r0) : z_T (fX11_nearest fu r0 1 a1) (P_X11_nearest_1K r0) := by
  refine T_of (fX11_nearest.eq_1 ..) ?_
  refine T_if1 (by decide +kernel) ?_
  refine T_nw ?_ (fun h1 h2 => ?_)
  · exact T_ret ⟨CI_up c0 bd_1_15 (z_wb rfl).1, z_Fr.upf (R := R_X11_nearest_1) z_Fr.rf (fun a b h => z_up_k h) (fun b h => z_up_j h) (Or.inr (Or.inr (Or.inr (Or.inr (Or.inr (Or.inr (Or.inr (Or.inl (⟨rfl, by decide⟩))))))))), y_V3.fr p0 (z_up_j (by decide)) (z_up_j (by decide)) (z_up_k (by decide)) (z_up_k (by decide)) (z_up_k (by decide)) (z_up_k (by decide)) (fun _ => z_up_k (by decide)) (fun _ => z_up_k (by decide)) (fun _ => z_up_k (by decide)) (fun _ => z_up_k (by decide)) (fun _ => z_up_k (by decide)) (fun _ => z_up_k (by decide)) (fun _ => z_up_k (by decide)) (fun _ => z_up_k (by decide)) (fun _ => z_up_k (by decide)) (fun _ => z_up_k (by decide)) (fun _ => z_up_k (by decide)) (fun _ => z_up_k (by decide)) (fun _ => z_up_k (by decide)) (fun _ => z_up_k (by decide)) (fun _ => z_up_k (by decide)) (fun _ => z_up_k (by decide)) (fun _ => z_up_k (by decide)) (fun _ => z_up_k (by decide)) (fun _ => z_up_k (by decide)) (fun _ => z_up_k (by decide)) (fun _ => z_up_k (by decide)) (z_up_k (by decide)) (fun _ => z_up_k (by decide)), Or.inr rfl⟩
  refine T_if1 (by decide +kernel) ?_
  refine T_useN (sf_X11_refresh_1K hfu r0 c0 p0) (fun v8 s3 hq => ?_)
  obtain ⟨c4, f5, o9, o10, rfl⟩ := hq
  refine T_vN ?_
  have f6 := z_Fr.tr (R := R_X11_nearest_1) z_Fr.rf f5 rs_X11_refresh_1__X11_nearest_1
  have u13 := CI_b c4 (k := 240) (j := 6) bd_240_6
  refine sl_X11_nearest_1K_L20 hfu r0 a1 (by omega) (fun s14 y17 y18 c15 f16 b19 b20 g21 => ?_) fu s3 2147483647 (-1) 0 c4 f6 (by omega) (by omega) (by omega) (y_V3.u o9 (Or.inr o10)) (by omega)
  have u22 := CI_b c15 (k := 240) (j := 6) bd_240_6
  refine T_ite (fun h23 => ?_) (fun h23 => ?_)
  · refine T_ite (fun h24 => ?_) (fun h24 => ?_)
    · exact sj_X11_nearest_1K_J94 hfu r0 s14 c15 f16 y17 (by omega) g21
    · exact sj_X11_nearest_1K_J94 hfu r0 s14 c15 f16 999 (by omega) g21
  · exact T_ret ⟨c15, f16, g21, Or.inl (⟨y18, rfl, by omega, by omega⟩)⟩
abbrev P_X11_partner_1K (r0 : z_M) : z_V → z_M → Prop := fun v s' => z_CI s' ∧ z_Fr R_X11_partner_1 r0 s' ∧ (y_V3 s') ∧ ((∃ x, v = vI x ∧ -2147483648 ≤ x ∧ x ≤ 2147483647) ∨ v = vX 0)
theorem sf_X11_partner_1K {fu : Nat} (hfu : 8589934592 ≤ fu) (r0 : z_M) (c0 : z_CI r0) (a1 : Int) (b1 : -2147483648 ≤ a1 ∧ a1 ≤ 2147483647) (p0 : y_V3 r0) : z_T (fX11_partner fu r0 1 a1) (P_X11_partner_1K r0) := by
  refine T_of (fX11_partner.eq_1 ..) ?_
  refine T_if1 (by decide +kernel) ?_
  refine T_useN (sf_X11_refresh_1K hfu r0 c0 p0) (fun v6 s1 hq => ?_)
  obtain ⟨c2, f3, o7, o8, rfl⟩ := hq
  refine T_vN ?_
  have f4 := z_Fr.tr (R := R_X11_partner_1) z_Fr.rf f3 rs_X11_refresh_1__X11_partner_1
  have u11 := CI_b c2 (k := 191) (j := 16) bd_191_16
  refine T_if1 (by decide +kernel) ?_
  refine T_let 191 (by decide +kernel) ?_
  refine T_if1 (by decide +kernel) ?_
  refine T_leq (fun x12 e13 => ?_)
  have u14 := CI_b c2 (k := 191) (j := 16) bd_191_16
  refine T_if1 (by decide +kernel) ?_
  refine T_ne ?_ (fun h15 h16 => ?_)
  · exact T_ret ⟨CI_up c2 bd_1_14 (z_wb rfl).1, z_Fr.upf (R := R_X11_partner_1) f4 (fun a b h => z_up_k h) (fun b h => z_up_j h) (Or.inr (Or.inr (Or.inr (Or.inr (Or.inr (Or.inr (Or.inr (Or.inl (⟨rfl, by decide⟩))))))))), y_V3.u (y_U3.fr o7 (z_up_k (by decide)) (z_up_k (by decide)) (z_up_k (by decide)) (z_up_k (by decide)) (fun _ => z_up_k (by decide)) (fun _ => z_up_k (by decide)) (fun _ => z_up_k (by decide)) (fun _ => z_up_k (by decide)) (fun _ => z_up_k (by decide)) (fun _ => z_up_k (by decide)) (fun _ => z_up_k (by decide)) (fun _ => z_up_k (by decide)) (fun _ => z_up_k (by decide)) (fun _ => z_up_k (by decide)) (fun _ => z_up_k (by decide)) (fun _ => z_up_k (by decide)) (fun _ => z_up_k (by decide)) (fun _ => z_up_k (by decide)) (fun _ => z_up_k (by decide)) (fun _ => z_up_k (by decide)) (fun _ => z_up_k (by decide)) (fun _ => z_up_k (by decide)) (fun _ => z_up_k (by decide)) (fun _ => z_up_k (by decide)) (fun _ => z_up_k (by decide))) (y_L3.fr (show y_L3 s1 from (Or.inr o8)) (z_up_j (by decide)) (z_up_k (by decide)) (z_up_k (by decide)) (z_up_k (by decide)) (z_up_k (by decide)) (fun _ => z_up_k (by decide)) (fun _ => z_up_k (by decide)) (fun _ => z_up_k (by decide)) (fun _ => z_up_k (by decide)) (fun _ => z_up_k (by decide)) (fun _ => z_up_k (by decide)) (fun _ => z_up_k (by decide)) (fun _ => z_up_k (by decide)) (fun _ => z_up_k (by decide)) (fun _ => z_up_k (by decide)) (fun _ => z_up_k (by decide)) (fun _ => z_up_k (by decide)) (fun _ => z_up_k (by decide)) (fun _ => z_up_k (by decide)) (fun _ => z_up_k (by decide)) (fun _ => z_up_k (by decide)) (fun _ => z_up_k (by decide)) (fun _ => z_up_k (by decide)) (fun _ => z_up_k (by decide)) (fun _ => z_up_k (by decide)) (z_up_k (by decide)) (fun _ => z_up_k (by decide))), Or.inr rfl⟩
  refine T_if1 (by decide +kernel) ?_
  refine T_let 191 (by decide +kernel) ?_
  refine T_if1 (by decide +kernel) ?_
  refine T_let 206 (by decide +kernel) ?_
  refine T_if1 (by decide +kernel) ?_
  refine T_get (by decide +kernel) (c := 207) (by decide +kernel) bdr_207 (by decide) c2 (fun x17 e18 b19 w20 => ?_)
  have l21 : z_ln 206 = 200 := by decide +kernel
  exact T_ret ⟨c2, f4, (y_V3.u o7 (Or.inr o8)), Or.inl (⟨x17, rfl, by omega, by omega⟩)⟩
abbrev P_X11_side_1K (r0 : z_M) : z_V → z_M → Prop := fun v s' => z_CI s' ∧ z_Fr R_X11_side_1 r0 s' ∧ (y_V3 s') ∧ ((∃ x, v = vI x ∧ -2147483648 ≤ x ∧ x ≤ 2147483647) ∨ v = vX 0 ∨ v = vX 1)
theorem nr_X3_marksBeside_258__222 (b : Int) : ¬ R_X3_marksBeside_258 222 b := not_false
theorem nr_X3_marksBeside_258__248 (b : Int) : ¬ R_X3_marksBeside_258 248 b := not_false
theorem sj_X11_side_1K_J55 {fu : Nat} (hfu : 8589934592 ≤ fu) (r0 s : z_M) (c : z_CI s) (f : z_Fr R_X11_side_1 r0 s) (t0 : Int) (d0 : -2147483648 ≤ t0 ∧ t0 ≤ 2147483647) (p0 : y_V3 s) : z_T (fX11_side_J55 fu s t0) (P_X11_side_1K r0) := by
  refine T_of (fX11_side_J55.eq_1 ..) ?_
  have u1 := CI_b c (k := 240) (j := 6) bd_240_6
  exact T_ret ⟨c, f, p0, Or.inl (⟨t0, rfl, by omega, by omega⟩)⟩
theorem nr_X3_lettersBeside_258__222 (b : Int) : ¬ R_X3_lettersBeside_258 222 b := not_false
theorem nr_X3_lettersBeside_258__248 (b : Int) : ¬ R_X3_lettersBeside_258 248 b := not_false
set_option maxHeartbeats 4000000 in
theorem sf_X11_side_1K {fu : Nat} (hfu : 8589934592 ≤ fu) (r0 : z_M) (c0 : z_CI r0) (a1 : Int) (a2 : Int) (a3 : Int) (b1 : -2147483648 ≤ a1 ∧ a1 ≤ 2147483647) (b2 : -2147483648 ≤ a2 ∧ a2 ≤ 2147483647) (b3 : -2147483648 ≤ a3 ∧ a3 ≤ 2147483647) (p0 : y_V3 r0) : z_T (fX11_side fu r0 1 a1 a2 a3) (P_X11_side_1K r0) := by
  refine T_of (fX11_side.eq_1 ..) ?_
  refine T_if1 (by decide +kernel) ?_
  refine T_useN (sf_X11_refresh_1K hfu r0 c0 p0) (fun v6 s1 hq => ?_)
  obtain ⟨c2, f3, o7, o8, rfl⟩ := hq
  refine T_vN ?_
  have f4 := z_Fr.tr (R := R_X11_side_1) z_Fr.rf f3 rs_X11_refresh_1__X11_side_1
  have u11 := CI_b c2 (k := 240) (j := 6) bd_240_6
  refine T_if1 (by decide +kernel) ?_
  refine T_let 240 (by decide +kernel) ?_
  refine T_if1 (by decide +kernel) ?_
  refine T_leq (fun x12 e13 => ?_)
  have u14 := CI_b c2 (k := 240) (j := 6) bd_240_6
  refine T_if1 (by decide +kernel) ?_
  refine T_ne ?_ (fun h15 h16 => ?_)
  · exact T_ret ⟨CI_up c2 bd_1_14 (z_wb rfl).1, z_Fr.upf (R := R_X11_side_1) f4 (fun a b h => z_up_k h) (fun b h => z_up_j h) (Or.inr (Or.inr (Or.inr (Or.inr (Or.inr (Or.inr (Or.inr (Or.inl (⟨rfl, by decide⟩))))))))), y_V3.u (y_U3.fr o7 (z_up_k (by decide)) (z_up_k (by decide)) (z_up_k (by decide)) (z_up_k (by decide)) (fun _ => z_up_k (by decide)) (fun _ => z_up_k (by decide)) (fun _ => z_up_k (by decide)) (fun _ => z_up_k (by decide)) (fun _ => z_up_k (by decide)) (fun _ => z_up_k (by decide)) (fun _ => z_up_k (by decide)) (fun _ => z_up_k (by decide)) (fun _ => z_up_k (by decide)) (fun _ => z_up_k (by decide)) (fun _ => z_up_k (by decide)) (fun _ => z_up_k (by decide)) (fun _ => z_up_k (by decide)) (fun _ => z_up_k (by decide)) (fun _ => z_up_k (by decide)) (fun _ => z_up_k (by decide)) (fun _ => z_up_k (by decide)) (fun _ => z_up_k (by decide)) (fun _ => z_up_k (by decide)) (fun _ => z_up_k (by decide)) (fun _ => z_up_k (by decide))) (y_L3.fr (show y_L3 s1 from (Or.inr o8)) (z_up_j (by decide)) (z_up_k (by decide)) (z_up_k (by decide)) (z_up_k (by decide)) (z_up_k (by decide)) (fun _ => z_up_k (by decide)) (fun _ => z_up_k (by decide)) (fun _ => z_up_k (by decide)) (fun _ => z_up_k (by decide)) (fun _ => z_up_k (by decide)) (fun _ => z_up_k (by decide)) (fun _ => z_up_k (by decide)) (fun _ => z_up_k (by decide)) (fun _ => z_up_k (by decide)) (fun _ => z_up_k (by decide)) (fun _ => z_up_k (by decide)) (fun _ => z_up_k (by decide)) (fun _ => z_up_k (by decide)) (fun _ => z_up_k (by decide)) (fun _ => z_up_k (by decide)) (fun _ => z_up_k (by decide)) (fun _ => z_up_k (by decide)) (fun _ => z_up_k (by decide)) (fun _ => z_up_k (by decide)) (fun _ => z_up_k (by decide)) (z_up_k (by decide)) (fun _ => z_up_k (by decide))), Or.inr (Or.inl rfl)⟩
  refine T_if1 (by decide +kernel) ?_
  refine T_nw ?_ (fun h17 h18 => ?_)
  · exact T_ret ⟨CI_up c2 bd_1_15 (z_wb rfl).1, z_Fr.upf (R := R_X11_side_1) f4 (fun a b h => z_up_k h) (fun b h => z_up_j h) (Or.inr (Or.inr (Or.inr (Or.inr (Or.inr (Or.inr (Or.inr (Or.inl (⟨rfl, by decide⟩))))))))), y_V3.u (y_U3.fr o7 (z_up_k (by decide)) (z_up_k (by decide)) (z_up_k (by decide)) (z_up_k (by decide)) (fun _ => z_up_k (by decide)) (fun _ => z_up_k (by decide)) (fun _ => z_up_k (by decide)) (fun _ => z_up_k (by decide)) (fun _ => z_up_k (by decide)) (fun _ => z_up_k (by decide)) (fun _ => z_up_k (by decide)) (fun _ => z_up_k (by decide)) (fun _ => z_up_k (by decide)) (fun _ => z_up_k (by decide)) (fun _ => z_up_k (by decide)) (fun _ => z_up_k (by decide)) (fun _ => z_up_k (by decide)) (fun _ => z_up_k (by decide)) (fun _ => z_up_k (by decide)) (fun _ => z_up_k (by decide)) (fun _ => z_up_k (by decide)) (fun _ => z_up_k (by decide)) (fun _ => z_up_k (by decide)) (fun _ => z_up_k (by decide)) (fun _ => z_up_k (by decide))) (y_L3.fr (show y_L3 s1 from (Or.inr o8)) (z_up_j (by decide)) (z_up_k (by decide)) (z_up_k (by decide)) (z_up_k (by decide)) (z_up_k (by decide)) (fun _ => z_up_k (by decide)) (fun _ => z_up_k (by decide)) (fun _ => z_up_k (by decide)) (fun _ => z_up_k (by decide)) (fun _ => z_up_k (by decide)) (fun _ => z_up_k (by decide)) (fun _ => z_up_k (by decide)) (fun _ => z_up_k (by decide)) (fun _ => z_up_k (by decide)) (fun _ => z_up_k (by decide)) (fun _ => z_up_k (by decide)) (fun _ => z_up_k (by decide)) (fun _ => z_up_k (by decide)) (fun _ => z_up_k (by decide)) (fun _ => z_up_k (by decide)) (fun _ => z_up_k (by decide)) (fun _ => z_up_k (by decide)) (fun _ => z_up_k (by decide)) (fun _ => z_up_k (by decide)) (fun _ => z_up_k (by decide)) (z_up_k (by decide)) (fun _ => z_up_k (by decide))), Or.inr (Or.inr rfl)⟩
  refine T_if1 (by decide +kernel) ?_
  refine T_nw ?_ (fun h19 h20 => ?_)
  · exact T_ret ⟨CI_up c2 bd_1_15 (z_wb rfl).1, z_Fr.upf (R := R_X11_side_1) f4 (fun a b h => z_up_k h) (fun b h => z_up_j h) (Or.inr (Or.inr (Or.inr (Or.inr (Or.inr (Or.inr (Or.inr (Or.inl (⟨rfl, by decide⟩))))))))), y_V3.u (y_U3.fr o7 (z_up_k (by decide)) (z_up_k (by decide)) (z_up_k (by decide)) (z_up_k (by decide)) (fun _ => z_up_k (by decide)) (fun _ => z_up_k (by decide)) (fun _ => z_up_k (by decide)) (fun _ => z_up_k (by decide)) (fun _ => z_up_k (by decide)) (fun _ => z_up_k (by decide)) (fun _ => z_up_k (by decide)) (fun _ => z_up_k (by decide)) (fun _ => z_up_k (by decide)) (fun _ => z_up_k (by decide)) (fun _ => z_up_k (by decide)) (fun _ => z_up_k (by decide)) (fun _ => z_up_k (by decide)) (fun _ => z_up_k (by decide)) (fun _ => z_up_k (by decide)) (fun _ => z_up_k (by decide)) (fun _ => z_up_k (by decide)) (fun _ => z_up_k (by decide)) (fun _ => z_up_k (by decide)) (fun _ => z_up_k (by decide)) (fun _ => z_up_k (by decide))) (y_L3.fr (show y_L3 s1 from (Or.inr o8)) (z_up_j (by decide)) (z_up_k (by decide)) (z_up_k (by decide)) (z_up_k (by decide)) (z_up_k (by decide)) (fun _ => z_up_k (by decide)) (fun _ => z_up_k (by decide)) (fun _ => z_up_k (by decide)) (fun _ => z_up_k (by decide)) (fun _ => z_up_k (by decide)) (fun _ => z_up_k (by decide)) (fun _ => z_up_k (by decide)) (fun _ => z_up_k (by decide)) (fun _ => z_up_k (by decide)) (fun _ => z_up_k (by decide)) (fun _ => z_up_k (by decide)) (fun _ => z_up_k (by decide)) (fun _ => z_up_k (by decide)) (fun _ => z_up_k (by decide)) (fun _ => z_up_k (by decide)) (fun _ => z_up_k (by decide)) (fun _ => z_up_k (by decide)) (fun _ => z_up_k (by decide)) (fun _ => z_up_k (by decide)) (fun _ => z_up_k (by decide)) (z_up_k (by decide)) (fun _ => z_up_k (by decide))), Or.inr (Or.inr rfl)⟩
  refine T_ite (fun h21 => ?_) (fun h21 => ?_)
  · refine T_if1 (by decide +kernel) ?_
    refine T_let 258 (by decide +kernel) ?_
    refine T_if1 (by decide +kernel) ?_
    refine T_useI (sf_X3_marksBeside_258 hfu s1 c2 a1 a2 (by omega) (by omega)) (fun v27 s22 hq => ?_)
    obtain ⟨c23, f24, ⟨x26, rfl, b28, b29⟩⟩ := hq
    refine T_vI ?_
    have f25 := z_Fr.tr (R := R_X11_side_1) f4 f24 (fun a b h => absurd h not_false)
    have t30 : s22 240 6 = s1 240 6 := f24 240 6 (by decide)
    have r31 := y_U3.fr o7 (f24 191 16 (by decide)) (f24 6 6 (by decide)) (f24 191 17 (by decide)) (f24 191 18 (by decide)) (fun b => f24 3 b (nr_X3_marksBeside_258__3 b)) (fun b => f24 8 b (nr_X3_marksBeside_258__8 b)) (fun b => f24 12 b (nr_X3_marksBeside_258__12 b)) (fun b => f24 14 b (nr_X3_marksBeside_258__14 b)) (fun b => f24 16 b (nr_X3_marksBeside_258__16 b)) (fun b => f24 18 b (nr_X3_marksBeside_258__18 b)) (fun b => f24 193 b (nr_X3_marksBeside_258__193 b)) (fun b => f24 195 b (nr_X3_marksBeside_258__195 b)) (fun b => f24 197 b (nr_X3_marksBeside_258__197 b)) (fun b => f24 199 b (nr_X3_marksBeside_258__199 b)) (fun b => f24 201 b (nr_X3_marksBeside_258__201 b)) (fun b => f24 203 b (nr_X3_marksBeside_258__203 b)) (fun b => f24 205 b (nr_X3_marksBeside_258__205 b)) (fun b => f24 207 b (nr_X3_marksBeside_258__207 b)) (fun b => f24 209 b (nr_X3_marksBeside_258__209 b)) (fun b => f24 211 b (nr_X3_marksBeside_258__211 b)) (fun b => f24 213 b (nr_X3_marksBeside_258__213 b)) (fun b => f24 215 b (nr_X3_marksBeside_258__215 b)) (fun b => f24 217 b (nr_X3_marksBeside_258__217 b)) (fun b => f24 219 b (nr_X3_marksBeside_258__219 b)) (fun b => f24 222 b (nr_X3_marksBeside_258__222 b))
    have r32 := y_SA.fr o8 (f24 191 16 (by decide)) (f24 6 6 (by decide)) (f24 191 17 (by decide)) (f24 191 18 (by decide)) (fun b => f24 3 b (nr_X3_marksBeside_258__3 b)) (fun b => f24 8 b (nr_X3_marksBeside_258__8 b)) (fun b => f24 12 b (nr_X3_marksBeside_258__12 b)) (fun b => f24 14 b (nr_X3_marksBeside_258__14 b)) (fun b => f24 16 b (nr_X3_marksBeside_258__16 b)) (fun b => f24 18 b (nr_X3_marksBeside_258__18 b)) (fun b => f24 193 b (nr_X3_marksBeside_258__193 b)) (fun b => f24 195 b (nr_X3_marksBeside_258__195 b)) (fun b => f24 197 b (nr_X3_marksBeside_258__197 b)) (fun b => f24 199 b (nr_X3_marksBeside_258__199 b)) (fun b => f24 201 b (nr_X3_marksBeside_258__201 b)) (fun b => f24 203 b (nr_X3_marksBeside_258__203 b)) (fun b => f24 205 b (nr_X3_marksBeside_258__205 b)) (fun b => f24 207 b (nr_X3_marksBeside_258__207 b)) (fun b => f24 209 b (nr_X3_marksBeside_258__209 b)) (fun b => f24 211 b (nr_X3_marksBeside_258__211 b)) (fun b => f24 213 b (nr_X3_marksBeside_258__213 b)) (fun b => f24 215 b (nr_X3_marksBeside_258__215 b)) (fun b => f24 217 b (nr_X3_marksBeside_258__217 b)) (fun b => f24 219 b (nr_X3_marksBeside_258__219 b)) (f24 240 6 (by decide)) (fun b => f24 248 b (nr_X3_marksBeside_258__248 b))
    have r33 := y_B0.fr o7.1.1 (f24 211 0 (by decide)) (f24 213 0 (by decide))
    exact sj_X11_side_1K_J55 hfu r0 s22 c23 f25 x26 (by omega) (y_V3.u r31 (Or.inr r32))
  · refine T_if1 (by decide +kernel) ?_
    refine T_let 258 (by decide +kernel) ?_
    refine T_if1 (by decide +kernel) ?_
    refine T_useI (sf_X3_lettersBeside_258 hfu s1 c2 a1 a2 (by omega) (by omega)) (fun v39 s34 hq => ?_)
    obtain ⟨c35, f36, ⟨x38, rfl, b40, b41⟩⟩ := hq
    refine T_vI ?_
    have f37 := z_Fr.tr (R := R_X11_side_1) f4 f36 (fun a b h => absurd h not_false)
    have t42 : s34 240 6 = s1 240 6 := f36 240 6 (by decide)
    have r43 := y_U3.fr o7 (f36 191 16 (by decide)) (f36 6 6 (by decide)) (f36 191 17 (by decide)) (f36 191 18 (by decide)) (fun b => f36 3 b (nr_X3_lettersBeside_258__3 b)) (fun b => f36 8 b (nr_X3_lettersBeside_258__8 b)) (fun b => f36 12 b (nr_X3_lettersBeside_258__12 b)) (fun b => f36 14 b (nr_X3_lettersBeside_258__14 b)) (fun b => f36 16 b (nr_X3_lettersBeside_258__16 b)) (fun b => f36 18 b (nr_X3_lettersBeside_258__18 b)) (fun b => f36 193 b (nr_X3_lettersBeside_258__193 b)) (fun b => f36 195 b (nr_X3_lettersBeside_258__195 b)) (fun b => f36 197 b (nr_X3_lettersBeside_258__197 b)) (fun b => f36 199 b (nr_X3_lettersBeside_258__199 b)) (fun b => f36 201 b (nr_X3_lettersBeside_258__201 b)) (fun b => f36 203 b (nr_X3_lettersBeside_258__203 b)) (fun b => f36 205 b (nr_X3_lettersBeside_258__205 b)) (fun b => f36 207 b (nr_X3_lettersBeside_258__207 b)) (fun b => f36 209 b (nr_X3_lettersBeside_258__209 b)) (fun b => f36 211 b (nr_X3_lettersBeside_258__211 b)) (fun b => f36 213 b (nr_X3_lettersBeside_258__213 b)) (fun b => f36 215 b (nr_X3_lettersBeside_258__215 b)) (fun b => f36 217 b (nr_X3_lettersBeside_258__217 b)) (fun b => f36 219 b (nr_X3_lettersBeside_258__219 b)) (fun b => f36 222 b (nr_X3_lettersBeside_258__222 b))
    have r44 := y_SA.fr o8 (f36 191 16 (by decide)) (f36 6 6 (by decide)) (f36 191 17 (by decide)) (f36 191 18 (by decide)) (fun b => f36 3 b (nr_X3_lettersBeside_258__3 b)) (fun b => f36 8 b (nr_X3_lettersBeside_258__8 b)) (fun b => f36 12 b (nr_X3_lettersBeside_258__12 b)) (fun b => f36 14 b (nr_X3_lettersBeside_258__14 b)) (fun b => f36 16 b (nr_X3_lettersBeside_258__16 b)) (fun b => f36 18 b (nr_X3_lettersBeside_258__18 b)) (fun b => f36 193 b (nr_X3_lettersBeside_258__193 b)) (fun b => f36 195 b (nr_X3_lettersBeside_258__195 b)) (fun b => f36 197 b (nr_X3_lettersBeside_258__197 b)) (fun b => f36 199 b (nr_X3_lettersBeside_258__199 b)) (fun b => f36 201 b (nr_X3_lettersBeside_258__201 b)) (fun b => f36 203 b (nr_X3_lettersBeside_258__203 b)) (fun b => f36 205 b (nr_X3_lettersBeside_258__205 b)) (fun b => f36 207 b (nr_X3_lettersBeside_258__207 b)) (fun b => f36 209 b (nr_X3_lettersBeside_258__209 b)) (fun b => f36 211 b (nr_X3_lettersBeside_258__211 b)) (fun b => f36 213 b (nr_X3_lettersBeside_258__213 b)) (fun b => f36 215 b (nr_X3_lettersBeside_258__215 b)) (fun b => f36 217 b (nr_X3_lettersBeside_258__217 b)) (fun b => f36 219 b (nr_X3_lettersBeside_258__219 b)) (f36 240 6 (by decide)) (fun b => f36 248 b (nr_X3_lettersBeside_258__248 b))
    have r45 := y_B0.fr o7.1.1 (f36 211 0 (by decide)) (f36 213 0 (by decide))
    exact sj_X11_side_1K_J55 hfu r0 s34 c35 f37 x38 (by omega) (y_V3.u r43 (Or.inr r44))
abbrev P_X11_refreshSides_1K (r0 : z_M) : z_V → z_M → Prop := fun v s' => z_CI s' ∧ z_Fr R_X11_refreshSides_1 r0 s' ∧ (y_V3 s') ∧ (v = vN)
theorem sj_X11_refreshSides_1K_J19 {fu : Nat} (hfu : 8589934592 ≤ fu) (r0 s : z_M) (c : z_CI s) (f : z_Fr R_X11_refreshSides_1 r0 s) (p0 : y_V3 s) : z_T (fX11_refreshSides_J19 fu s) (P_X11_refreshSides_1K r0) := by
  refine T_of (fX11_refreshSides_J19.eq_1 ..) ?_
  have u1 := CI_b c (k := 1) (j := 18) bd_1_18
  exact T_ret ⟨c, f, p0, rfl⟩
theorem nr_X8_build_296__222 (b : Int) : ¬ R_X8_build_296 222 b := by
  unfold R_X8_build_296; omega
theorem nr_X8_build_296__248 (b : Int) : ¬ R_X8_build_296 248 b := by
  unfold R_X8_build_296; omega
theorem sf_X11_refreshSides_1K {fu : Nat} (hfu : 8589934592 ≤ fu) (r0 : z_M) (c0 : z_CI r0) (p0 : y_V3 r0) : z_T (fX11_refreshSides fu r0 1) (P_X11_refreshSides_1K r0) := by
  refine T_of (fX11_refreshSides.eq_1 ..) ?_
  refine T_if1 (by decide +kernel) ?_
  refine T_leq (fun x1 e2 => ?_)
  have u3 := CI_b c0 (k := 1) (j := 18) bd_1_18
  refine T_ite (fun h4 => ?_) (fun h4 => ?_)
  · exact sj_X11_refreshSides_1K_J19 hfu r0 r0 c0 z_Fr.rf p0
  · refine T_if1 (by decide +kernel) ?_
    refine T_let 296 (by decide +kernel) ?_
    refine T_if1 (by decide +kernel) ?_
    refine T_useN (sf_X8_build_296 hfu r0 c0) (fun v10 s5 hq => ?_)
    obtain ⟨c6, f7, rfl⟩ := hq
    refine T_vN ?_
    have f8 := z_Fr.tr (R := R_X11_refreshSides_1) z_Fr.rf f7 rs_X8_build_296__X11_refreshSides_1
    have t13 : s5 1 18 = r0 1 18 := f7 1 18 (by decide)
    have r14 := y_V3.fr p0 (f7 1 16 (by decide)) (f7 1 17 (by decide)) (f7 191 16 (by decide)) (f7 6 6 (by decide)) (f7 191 17 (by decide)) (f7 191 18 (by decide)) (fun b => f7 3 b (nr_X8_build_296__3 b)) (fun b => f7 8 b (nr_X8_build_296__8 b)) (fun b => f7 12 b (nr_X8_build_296__12 b)) (fun b => f7 14 b (nr_X8_build_296__14 b)) (fun b => f7 16 b (nr_X8_build_296__16 b)) (fun b => f7 18 b (nr_X8_build_296__18 b)) (fun b => f7 193 b (nr_X8_build_296__193 b)) (fun b => f7 195 b (nr_X8_build_296__195 b)) (fun b => f7 197 b (nr_X8_build_296__197 b)) (fun b => f7 199 b (nr_X8_build_296__199 b)) (fun b => f7 201 b (nr_X8_build_296__201 b)) (fun b => f7 203 b (nr_X8_build_296__203 b)) (fun b => f7 205 b (nr_X8_build_296__205 b)) (fun b => f7 207 b (nr_X8_build_296__207 b)) (fun b => f7 209 b (nr_X8_build_296__209 b)) (fun b => f7 211 b (nr_X8_build_296__211 b)) (fun b => f7 213 b (nr_X8_build_296__213 b)) (fun b => f7 215 b (nr_X8_build_296__215 b)) (fun b => f7 217 b (nr_X8_build_296__217 b)) (fun b => f7 219 b (nr_X8_build_296__219 b)) (fun b => f7 222 b (nr_X8_build_296__222 b)) (f7 240 6 (by decide)) (fun b => f7 248 b (nr_X8_build_296__248 b))
    have r15 := y_B0.fr p0.1.1 (f7 211 0 (by decide)) (f7 213 0 (by decide))
    refine T_if1 ⟨(by decide +kernel), by unfold z_bl; omega⟩ ?_
    refine T_upg c6 bd_1_18 (by omega) (fun s16 c17 g19 g20 e21 => ?_)
    have f18 := z_Fr.upf (R := R_X11_refreshSides_1) f8 g19 g20 (Or.inr (Or.inl (⟨rfl, by decide⟩)))
    have r22 := y_V3.fr r14 (g20 16 (by decide)) (g20 17 (by decide)) (g19 191 16 (by decide)) (g19 6 6 (by decide)) (g19 191 17 (by decide)) (g19 191 18 (by decide)) (fun b => g19 3 b (by decide)) (fun b => g19 8 b (by decide)) (fun b => g19 12 b (by decide)) (fun b => g19 14 b (by decide)) (fun b => g19 16 b (by decide)) (fun b => g19 18 b (by decide)) (fun b => g19 193 b (by decide)) (fun b => g19 195 b (by decide)) (fun b => g19 197 b (by decide)) (fun b => g19 199 b (by decide)) (fun b => g19 201 b (by decide)) (fun b => g19 203 b (by decide)) (fun b => g19 205 b (by decide)) (fun b => g19 207 b (by decide)) (fun b => g19 209 b (by decide)) (fun b => g19 211 b (by decide)) (fun b => g19 213 b (by decide)) (fun b => g19 215 b (by decide)) (fun b => g19 217 b (by decide)) (fun b => g19 219 b (by decide)) (fun b => g19 222 b (by decide)) (g19 240 6 (by decide)) (fun b => g19 248 b (by decide))
    have r23 := y_B0.fr r15 (g19 211 0 (by decide)) (g19 213 0 (by decide))
    exact sj_X11_refreshSides_1K_J19 hfu r0 s16 c17 f18 r22
abbrev P_X11_gutter_1K (r0 : z_M) : z_V → z_M → Prop := fun v s' => z_CI s' ∧ z_Fr R_X11_gutter_1 r0 s' ∧ (y_V3 s') ∧ ((∃ x, v = vI x ∧ -2147483648 ≤ x ∧ x ≤ 2147483647) ∨ v = vX 0)
theorem nr_X11_refreshSides_1__222 (b : Int) : ¬ R_X11_refreshSides_1 222 b := by
  unfold R_X11_refreshSides_1; omega
theorem nr_X11_refreshSides_1__248 (b : Int) : ¬ R_X11_refreshSides_1 248 b := by
  unfold R_X11_refreshSides_1; omega
theorem sj_X11_gutter_1K_J48 {fu : Nat} (hfu : 8589934592 ≤ fu) (r0 s : z_M) (c : z_CI s) (f : z_Fr R_X11_gutter_1 r0 s) (t0 : Int) (d0 : -2147483648 ≤ t0 ∧ t0 ≤ 2147483647) (p0 : y_V3 s) : z_T (fX11_gutter_J48 fu s t0) (P_X11_gutter_1K r0) := by
  refine T_of (fX11_gutter_J48.eq_1 ..) ?_
  have u1 := CI_b c (k := 240) (j := 6) bd_240_6
  exact T_ret ⟨c, f, p0, Or.inl (⟨t0, rfl, by omega, by omega⟩)⟩
theorem sf_X11_gutter_1K {fu : Nat} (hfu : 8589934592 ≤ fu) (r0 : z_M) (c0 : z_CI r0) (a1 : Int) (b1 : -2147483648 ≤ a1 ∧ a1 ≤ 2147483647) (p0 : y_V3 r0) : z_T (fX11_gutter fu r0 1 a1) (P_X11_gutter_1K r0) := by
  refine T_of (fX11_gutter.eq_1 ..) ?_
  refine T_if1 (by decide +kernel) ?_
  refine T_useN (sf_X11_refresh_1K hfu r0 c0 p0) (fun v6 s1 hq => ?_)
  obtain ⟨c2, f3, o7, o8, rfl⟩ := hq
  refine T_vN ?_
  have f4 := z_Fr.tr (R := R_X11_gutter_1) z_Fr.rf f3 rs_X11_refresh_1__X11_gutter_1
  have u11 := CI_b c2 (k := 240) (j := 6) bd_240_6
  refine T_if1 (by decide +kernel) ?_
  refine T_let 240 (by decide +kernel) ?_
  refine T_if1 (by decide +kernel) ?_
  refine T_leq (fun x12 e13 => ?_)
  have u14 := CI_b c2 (k := 240) (j := 6) bd_240_6
  refine T_if1 (by decide +kernel) ?_
  refine T_ne ?_ (fun h15 h16 => ?_)
  · exact T_ret ⟨CI_up c2 bd_1_14 (z_wb rfl).1, z_Fr.upf (R := R_X11_gutter_1) f4 (fun a b h => z_up_k h) (fun b h => z_up_j h) (Or.inr (Or.inr (Or.inr (Or.inr (Or.inr (Or.inr (Or.inr (Or.inr (Or.inl (⟨rfl, by decide⟩)))))))))), y_V3.u (y_U3.fr o7 (z_up_k (by decide)) (z_up_k (by decide)) (z_up_k (by decide)) (z_up_k (by decide)) (fun _ => z_up_k (by decide)) (fun _ => z_up_k (by decide)) (fun _ => z_up_k (by decide)) (fun _ => z_up_k (by decide)) (fun _ => z_up_k (by decide)) (fun _ => z_up_k (by decide)) (fun _ => z_up_k (by decide)) (fun _ => z_up_k (by decide)) (fun _ => z_up_k (by decide)) (fun _ => z_up_k (by decide)) (fun _ => z_up_k (by decide)) (fun _ => z_up_k (by decide)) (fun _ => z_up_k (by decide)) (fun _ => z_up_k (by decide)) (fun _ => z_up_k (by decide)) (fun _ => z_up_k (by decide)) (fun _ => z_up_k (by decide)) (fun _ => z_up_k (by decide)) (fun _ => z_up_k (by decide)) (fun _ => z_up_k (by decide)) (fun _ => z_up_k (by decide))) (y_L3.fr (show y_L3 s1 from (Or.inr o8)) (z_up_j (by decide)) (z_up_k (by decide)) (z_up_k (by decide)) (z_up_k (by decide)) (z_up_k (by decide)) (fun _ => z_up_k (by decide)) (fun _ => z_up_k (by decide)) (fun _ => z_up_k (by decide)) (fun _ => z_up_k (by decide)) (fun _ => z_up_k (by decide)) (fun _ => z_up_k (by decide)) (fun _ => z_up_k (by decide)) (fun _ => z_up_k (by decide)) (fun _ => z_up_k (by decide)) (fun _ => z_up_k (by decide)) (fun _ => z_up_k (by decide)) (fun _ => z_up_k (by decide)) (fun _ => z_up_k (by decide)) (fun _ => z_up_k (by decide)) (fun _ => z_up_k (by decide)) (fun _ => z_up_k (by decide)) (fun _ => z_up_k (by decide)) (fun _ => z_up_k (by decide)) (fun _ => z_up_k (by decide)) (fun _ => z_up_k (by decide)) (z_up_k (by decide)) (fun _ => z_up_k (by decide))), Or.inr rfl⟩
  refine T_if1 (by decide +kernel) ?_
  refine T_useN (sf_X11_refreshSides_1K hfu s1 c2 (y_V3.u o7 (Or.inr o8))) (fun v22 s17 hq => ?_)
  obtain ⟨c18, f19, o23, rfl⟩ := hq
  refine T_vN ?_
  have f20 := z_Fr.tr (R := R_X11_gutter_1) f4 f19 rs_X11_refreshSides_1__X11_gutter_1
  have t26 : s17 240 6 = s1 240 6 := f19 240 6 (by decide)
  have r27 := y_U3.fr o7 (f19 191 16 (by decide)) (f19 6 6 (by decide)) (f19 191 17 (by decide)) (f19 191 18 (by decide)) (fun b => f19 3 b (nr_X11_refreshSides_1__3 b)) (fun b => f19 8 b (nr_X11_refreshSides_1__8 b)) (fun b => f19 12 b (nr_X11_refreshSides_1__12 b)) (fun b => f19 14 b (nr_X11_refreshSides_1__14 b)) (fun b => f19 16 b (nr_X11_refreshSides_1__16 b)) (fun b => f19 18 b (nr_X11_refreshSides_1__18 b)) (fun b => f19 193 b (nr_X11_refreshSides_1__193 b)) (fun b => f19 195 b (nr_X11_refreshSides_1__195 b)) (fun b => f19 197 b (nr_X11_refreshSides_1__197 b)) (fun b => f19 199 b (nr_X11_refreshSides_1__199 b)) (fun b => f19 201 b (nr_X11_refreshSides_1__201 b)) (fun b => f19 203 b (nr_X11_refreshSides_1__203 b)) (fun b => f19 205 b (nr_X11_refreshSides_1__205 b)) (fun b => f19 207 b (nr_X11_refreshSides_1__207 b)) (fun b => f19 209 b (nr_X11_refreshSides_1__209 b)) (fun b => f19 211 b (nr_X11_refreshSides_1__211 b)) (fun b => f19 213 b (nr_X11_refreshSides_1__213 b)) (fun b => f19 215 b (nr_X11_refreshSides_1__215 b)) (fun b => f19 217 b (nr_X11_refreshSides_1__217 b)) (fun b => f19 219 b (nr_X11_refreshSides_1__219 b)) (fun b => f19 222 b (nr_X11_refreshSides_1__222 b))
  have r28 := y_SA.fr o8 (f19 191 16 (by decide)) (f19 6 6 (by decide)) (f19 191 17 (by decide)) (f19 191 18 (by decide)) (fun b => f19 3 b (nr_X11_refreshSides_1__3 b)) (fun b => f19 8 b (nr_X11_refreshSides_1__8 b)) (fun b => f19 12 b (nr_X11_refreshSides_1__12 b)) (fun b => f19 14 b (nr_X11_refreshSides_1__14 b)) (fun b => f19 16 b (nr_X11_refreshSides_1__16 b)) (fun b => f19 18 b (nr_X11_refreshSides_1__18 b)) (fun b => f19 193 b (nr_X11_refreshSides_1__193 b)) (fun b => f19 195 b (nr_X11_refreshSides_1__195 b)) (fun b => f19 197 b (nr_X11_refreshSides_1__197 b)) (fun b => f19 199 b (nr_X11_refreshSides_1__199 b)) (fun b => f19 201 b (nr_X11_refreshSides_1__201 b)) (fun b => f19 203 b (nr_X11_refreshSides_1__203 b)) (fun b => f19 205 b (nr_X11_refreshSides_1__205 b)) (fun b => f19 207 b (nr_X11_refreshSides_1__207 b)) (fun b => f19 209 b (nr_X11_refreshSides_1__209 b)) (fun b => f19 211 b (nr_X11_refreshSides_1__211 b)) (fun b => f19 213 b (nr_X11_refreshSides_1__213 b)) (fun b => f19 215 b (nr_X11_refreshSides_1__215 b)) (fun b => f19 217 b (nr_X11_refreshSides_1__217 b)) (fun b => f19 219 b (nr_X11_refreshSides_1__219 b)) (f19 240 6 (by decide)) (fun b => f19 248 b (nr_X11_refreshSides_1__248 b))
  have r29 := y_B0.fr o7.1.1 (f19 211 0 (by decide)) (f19 213 0 (by decide))
  refine T_if1 (by decide +kernel) ?_
  refine T_let 240 (by decide +kernel) ?_
  refine T_if1 (by decide +kernel) ?_
  refine T_leq (fun x30 e31 => ?_)
  have u32 := CI_b c18 (k := 240) (j := 6) bd_240_6
  refine T_leq (fun x33 e34 => ?_)
  have w35 := z_wr e34
  refine T_ite (fun h36 => ?_) (fun h36 => ?_)
  · refine T_if1 (by decide +kernel) ?_
    refine T_let 296 (by decide +kernel) ?_
    refine T_if1 (by decide +kernel) ?_
    refine T_let 301 (by decide +kernel) ?_
    refine T_if1 (by decide +kernel) ?_
    refine T_get (by decide +kernel) (c := 302) (by decide +kernel) bdr_302 (by decide) c18 (fun x37 e38 b39 w40 => ?_)
    have l41 : z_ln 301 = 200 := by decide +kernel
    exact sj_X11_gutter_1K_J48 hfu r0 s17 c18 f20 x37 (by omega) o23
  · exact sj_X11_gutter_1K_J48 hfu r0 s17 c18 f20 (-1) (by omega) o23
abbrev P_X11_clash_1K (r0 : z_M) : z_V → z_M → Prop := fun v s' => z_CI s' ∧ z_Fr R_X11_clash_1 r0 s' ∧ (y_V3 s') ∧ ((∃ x, v = vI x ∧ -2147483648 ≤ x ∧ x ≤ 2147483647) ∨ v = vX 0)
theorem sf_X11_clash_1K {fu : Nat} (hfu : 8589934592 ≤ fu) (r0 : z_M) (c0 : z_CI r0) (a1 : Int) (b1 : -2147483648 ≤ a1 ∧ a1 ≤ 2147483647) (p0 : y_V3 r0) : z_T (fX11_clash fu r0 1 a1) (P_X11_clash_1K r0) := by
  refine T_of (fX11_clash.eq_1 ..) ?_
  refine T_if1 (by decide +kernel) ?_
  refine T_useN (sf_X11_refresh_1K hfu r0 c0 p0) (fun v6 s1 hq => ?_)
  obtain ⟨c2, f3, o7, o8, rfl⟩ := hq
  refine T_vN ?_
  have f4 := z_Fr.tr (R := R_X11_clash_1) z_Fr.rf f3 rs_X11_refresh_1__X11_clash_1
  have u11 := CI_b c2 (k := 240) (j := 6) bd_240_6
  refine T_if1 (by decide +kernel) ?_
  refine T_let 240 (by decide +kernel) ?_
  refine T_if1 (by decide +kernel) ?_
  refine T_leq (fun x12 e13 => ?_)
  have u14 := CI_b c2 (k := 240) (j := 6) bd_240_6
  refine T_if1 (by decide +kernel) ?_
  refine T_ne ?_ (fun h15 h16 => ?_)
  · exact T_ret ⟨CI_up c2 bd_1_14 (z_wb rfl).1, z_Fr.upf (R := R_X11_clash_1) f4 (fun a b h => z_up_k h) (fun b h => z_up_j h) (Or.inr (Or.inr (Or.inr (Or.inr (Or.inr (Or.inr (Or.inr (Or.inr (Or.inl (⟨rfl, by decide⟩)))))))))), y_V3.u (y_U3.fr o7 (z_up_k (by decide)) (z_up_k (by decide)) (z_up_k (by decide)) (z_up_k (by decide)) (fun _ => z_up_k (by decide)) (fun _ => z_up_k (by decide)) (fun _ => z_up_k (by decide)) (fun _ => z_up_k (by decide)) (fun _ => z_up_k (by decide)) (fun _ => z_up_k (by decide)) (fun _ => z_up_k (by decide)) (fun _ => z_up_k (by decide)) (fun _ => z_up_k (by decide)) (fun _ => z_up_k (by decide)) (fun _ => z_up_k (by decide)) (fun _ => z_up_k (by decide)) (fun _ => z_up_k (by decide)) (fun _ => z_up_k (by decide)) (fun _ => z_up_k (by decide)) (fun _ => z_up_k (by decide)) (fun _ => z_up_k (by decide)) (fun _ => z_up_k (by decide)) (fun _ => z_up_k (by decide)) (fun _ => z_up_k (by decide)) (fun _ => z_up_k (by decide))) (y_L3.fr (show y_L3 s1 from (Or.inr o8)) (z_up_j (by decide)) (z_up_k (by decide)) (z_up_k (by decide)) (z_up_k (by decide)) (z_up_k (by decide)) (fun _ => z_up_k (by decide)) (fun _ => z_up_k (by decide)) (fun _ => z_up_k (by decide)) (fun _ => z_up_k (by decide)) (fun _ => z_up_k (by decide)) (fun _ => z_up_k (by decide)) (fun _ => z_up_k (by decide)) (fun _ => z_up_k (by decide)) (fun _ => z_up_k (by decide)) (fun _ => z_up_k (by decide)) (fun _ => z_up_k (by decide)) (fun _ => z_up_k (by decide)) (fun _ => z_up_k (by decide)) (fun _ => z_up_k (by decide)) (fun _ => z_up_k (by decide)) (fun _ => z_up_k (by decide)) (fun _ => z_up_k (by decide)) (fun _ => z_up_k (by decide)) (fun _ => z_up_k (by decide)) (fun _ => z_up_k (by decide)) (z_up_k (by decide)) (fun _ => z_up_k (by decide))), Or.inr rfl⟩
  refine T_if1 (by decide +kernel) ?_
  refine T_useN (sf_X11_refreshSides_1K hfu s1 c2 (y_V3.u o7 (Or.inr o8))) (fun v22 s17 hq => ?_)
  obtain ⟨c18, f19, o23, rfl⟩ := hq
  refine T_vN ?_
  have f20 := z_Fr.tr (R := R_X11_clash_1) f4 f19 rs_X11_refreshSides_1__X11_clash_1
  have t26 : s17 240 6 = s1 240 6 := f19 240 6 (by decide)
  have r27 := y_U3.fr o7 (f19 191 16 (by decide)) (f19 6 6 (by decide)) (f19 191 17 (by decide)) (f19 191 18 (by decide)) (fun b => f19 3 b (nr_X11_refreshSides_1__3 b)) (fun b => f19 8 b (nr_X11_refreshSides_1__8 b)) (fun b => f19 12 b (nr_X11_refreshSides_1__12 b)) (fun b => f19 14 b (nr_X11_refreshSides_1__14 b)) (fun b => f19 16 b (nr_X11_refreshSides_1__16 b)) (fun b => f19 18 b (nr_X11_refreshSides_1__18 b)) (fun b => f19 193 b (nr_X11_refreshSides_1__193 b)) (fun b => f19 195 b (nr_X11_refreshSides_1__195 b)) (fun b => f19 197 b (nr_X11_refreshSides_1__197 b)) (fun b => f19 199 b (nr_X11_refreshSides_1__199 b)) (fun b => f19 201 b (nr_X11_refreshSides_1__201 b)) (fun b => f19 203 b (nr_X11_refreshSides_1__203 b)) (fun b => f19 205 b (nr_X11_refreshSides_1__205 b)) (fun b => f19 207 b (nr_X11_refreshSides_1__207 b)) (fun b => f19 209 b (nr_X11_refreshSides_1__209 b)) (fun b => f19 211 b (nr_X11_refreshSides_1__211 b)) (fun b => f19 213 b (nr_X11_refreshSides_1__213 b)) (fun b => f19 215 b (nr_X11_refreshSides_1__215 b)) (fun b => f19 217 b (nr_X11_refreshSides_1__217 b)) (fun b => f19 219 b (nr_X11_refreshSides_1__219 b)) (fun b => f19 222 b (nr_X11_refreshSides_1__222 b))
  have r28 := y_SA.fr o8 (f19 191 16 (by decide)) (f19 6 6 (by decide)) (f19 191 17 (by decide)) (f19 191 18 (by decide)) (fun b => f19 3 b (nr_X11_refreshSides_1__3 b)) (fun b => f19 8 b (nr_X11_refreshSides_1__8 b)) (fun b => f19 12 b (nr_X11_refreshSides_1__12 b)) (fun b => f19 14 b (nr_X11_refreshSides_1__14 b)) (fun b => f19 16 b (nr_X11_refreshSides_1__16 b)) (fun b => f19 18 b (nr_X11_refreshSides_1__18 b)) (fun b => f19 193 b (nr_X11_refreshSides_1__193 b)) (fun b => f19 195 b (nr_X11_refreshSides_1__195 b)) (fun b => f19 197 b (nr_X11_refreshSides_1__197 b)) (fun b => f19 199 b (nr_X11_refreshSides_1__199 b)) (fun b => f19 201 b (nr_X11_refreshSides_1__201 b)) (fun b => f19 203 b (nr_X11_refreshSides_1__203 b)) (fun b => f19 205 b (nr_X11_refreshSides_1__205 b)) (fun b => f19 207 b (nr_X11_refreshSides_1__207 b)) (fun b => f19 209 b (nr_X11_refreshSides_1__209 b)) (fun b => f19 211 b (nr_X11_refreshSides_1__211 b)) (fun b => f19 213 b (nr_X11_refreshSides_1__213 b)) (fun b => f19 215 b (nr_X11_refreshSides_1__215 b)) (fun b => f19 217 b (nr_X11_refreshSides_1__217 b)) (fun b => f19 219 b (nr_X11_refreshSides_1__219 b)) (f19 240 6 (by decide)) (fun b => f19 248 b (nr_X11_refreshSides_1__248 b))
  have r29 := y_B0.fr o7.1.1 (f19 211 0 (by decide)) (f19 213 0 (by decide))
  refine T_if1 (by decide +kernel) ?_
  refine T_let 296 (by decide +kernel) ?_
  refine T_if1 (by decide +kernel) ?_
  refine T_let 299 (by decide +kernel) ?_
  refine T_if1 (by decide +kernel) ?_
  refine T_get (by decide +kernel) (c := 300) (by decide +kernel) bdr_300 (by decide) c18 (fun x30 e31 b32 w33 => ?_)
  have l34 : z_ln 299 = 200 := by decide +kernel
  exact T_ret ⟨c18, f20, o23, Or.inl (⟨x30, rfl, by omega, by omega⟩)⟩
abbrev P_X11_thick_1K (r0 : z_M) : z_V → z_M → Prop := fun v s' => z_CI s' ∧ z_Fr R_X11_thick_1 r0 s' ∧ (y_V3 s') ∧ ((∃ x, v = vI x ∧ -2147483648 ≤ x ∧ x ≤ 2147483647) ∨ v = vX 0 ∨ v = vX 1)
theorem nr_X8_thickOf_296__222 (b : Int) : ¬ R_X8_thickOf_296 222 b := not_false
theorem nr_X8_thickOf_296__248 (b : Int) : ¬ R_X8_thickOf_296 248 b := not_false
set_option maxHeartbeats 4000000 in
theorem sf_X11_thick_1K {fu : Nat} (hfu : 8589934592 ≤ fu) (r0 : z_M) (c0 : z_CI r0) (a1 : Int) (a2 : Int) (b1 : -2147483648 ≤ a1 ∧ a1 ≤ 2147483647) (b2 : -2147483648 ≤ a2 ∧ a2 ≤ 2147483647) (p0 : y_V3 r0) : z_T (fX11_thick fu r0 1 a1 a2) (P_X11_thick_1K r0) := by
  refine T_of (fX11_thick.eq_1 ..) ?_
  refine T_if1 (by decide +kernel) ?_
  refine T_useN (sf_X11_refresh_1K hfu r0 c0 p0) (fun v6 s1 hq => ?_)
  obtain ⟨c2, f3, o7, o8, rfl⟩ := hq
  refine T_vN ?_
  have f4 := z_Fr.tr (R := R_X11_thick_1) z_Fr.rf f3 rs_X11_refresh_1__X11_thick_1
  have u11 := CI_b c2 (k := 240) (j := 6) bd_240_6
  refine T_if1 (by decide +kernel) ?_
  refine T_let 240 (by decide +kernel) ?_
  refine T_if1 (by decide +kernel) ?_
  refine T_leq (fun x12 e13 => ?_)
  have u14 := CI_b c2 (k := 240) (j := 6) bd_240_6
  refine T_if1 (by decide +kernel) ?_
  refine T_ne ?_ (fun h15 h16 => ?_)
  · exact T_ret ⟨CI_up c2 bd_1_14 (z_wb rfl).1, z_Fr.upf (R := R_X11_thick_1) f4 (fun a b h => z_up_k h) (fun b h => z_up_j h) (Or.inr (Or.inr (Or.inr (Or.inr (Or.inr (Or.inr (Or.inr (Or.inr (Or.inl (⟨rfl, by decide⟩)))))))))), y_V3.u (y_U3.fr o7 (z_up_k (by decide)) (z_up_k (by decide)) (z_up_k (by decide)) (z_up_k (by decide)) (fun _ => z_up_k (by decide)) (fun _ => z_up_k (by decide)) (fun _ => z_up_k (by decide)) (fun _ => z_up_k (by decide)) (fun _ => z_up_k (by decide)) (fun _ => z_up_k (by decide)) (fun _ => z_up_k (by decide)) (fun _ => z_up_k (by decide)) (fun _ => z_up_k (by decide)) (fun _ => z_up_k (by decide)) (fun _ => z_up_k (by decide)) (fun _ => z_up_k (by decide)) (fun _ => z_up_k (by decide)) (fun _ => z_up_k (by decide)) (fun _ => z_up_k (by decide)) (fun _ => z_up_k (by decide)) (fun _ => z_up_k (by decide)) (fun _ => z_up_k (by decide)) (fun _ => z_up_k (by decide)) (fun _ => z_up_k (by decide)) (fun _ => z_up_k (by decide))) (y_L3.fr (show y_L3 s1 from (Or.inr o8)) (z_up_j (by decide)) (z_up_k (by decide)) (z_up_k (by decide)) (z_up_k (by decide)) (z_up_k (by decide)) (fun _ => z_up_k (by decide)) (fun _ => z_up_k (by decide)) (fun _ => z_up_k (by decide)) (fun _ => z_up_k (by decide)) (fun _ => z_up_k (by decide)) (fun _ => z_up_k (by decide)) (fun _ => z_up_k (by decide)) (fun _ => z_up_k (by decide)) (fun _ => z_up_k (by decide)) (fun _ => z_up_k (by decide)) (fun _ => z_up_k (by decide)) (fun _ => z_up_k (by decide)) (fun _ => z_up_k (by decide)) (fun _ => z_up_k (by decide)) (fun _ => z_up_k (by decide)) (fun _ => z_up_k (by decide)) (fun _ => z_up_k (by decide)) (fun _ => z_up_k (by decide)) (fun _ => z_up_k (by decide)) (fun _ => z_up_k (by decide)) (z_up_k (by decide)) (fun _ => z_up_k (by decide))), Or.inr (Or.inl rfl)⟩
  refine T_if1 (by decide +kernel) ?_
  refine T_let 240 (by decide +kernel) ?_
  refine T_if1 (by decide +kernel) ?_
  refine T_leq (fun x17 e18 => ?_)
  have u19 := CI_b c2 (k := 240) (j := 6) bd_240_6
  refine T_if1 (by decide +kernel) ?_
  refine T_ne ?_ (fun h20 h21 => ?_)
  · exact T_ret ⟨CI_up c2 bd_1_14 (z_wb rfl).1, z_Fr.upf (R := R_X11_thick_1) f4 (fun a b h => z_up_k h) (fun b h => z_up_j h) (Or.inr (Or.inr (Or.inr (Or.inr (Or.inr (Or.inr (Or.inr (Or.inr (Or.inl (⟨rfl, by decide⟩)))))))))), y_V3.u (y_U3.fr o7 (z_up_k (by decide)) (z_up_k (by decide)) (z_up_k (by decide)) (z_up_k (by decide)) (fun _ => z_up_k (by decide)) (fun _ => z_up_k (by decide)) (fun _ => z_up_k (by decide)) (fun _ => z_up_k (by decide)) (fun _ => z_up_k (by decide)) (fun _ => z_up_k (by decide)) (fun _ => z_up_k (by decide)) (fun _ => z_up_k (by decide)) (fun _ => z_up_k (by decide)) (fun _ => z_up_k (by decide)) (fun _ => z_up_k (by decide)) (fun _ => z_up_k (by decide)) (fun _ => z_up_k (by decide)) (fun _ => z_up_k (by decide)) (fun _ => z_up_k (by decide)) (fun _ => z_up_k (by decide)) (fun _ => z_up_k (by decide)) (fun _ => z_up_k (by decide)) (fun _ => z_up_k (by decide)) (fun _ => z_up_k (by decide)) (fun _ => z_up_k (by decide))) (y_L3.fr (show y_L3 s1 from (Or.inr o8)) (z_up_j (by decide)) (z_up_k (by decide)) (z_up_k (by decide)) (z_up_k (by decide)) (z_up_k (by decide)) (fun _ => z_up_k (by decide)) (fun _ => z_up_k (by decide)) (fun _ => z_up_k (by decide)) (fun _ => z_up_k (by decide)) (fun _ => z_up_k (by decide)) (fun _ => z_up_k (by decide)) (fun _ => z_up_k (by decide)) (fun _ => z_up_k (by decide)) (fun _ => z_up_k (by decide)) (fun _ => z_up_k (by decide)) (fun _ => z_up_k (by decide)) (fun _ => z_up_k (by decide)) (fun _ => z_up_k (by decide)) (fun _ => z_up_k (by decide)) (fun _ => z_up_k (by decide)) (fun _ => z_up_k (by decide)) (fun _ => z_up_k (by decide)) (fun _ => z_up_k (by decide)) (fun _ => z_up_k (by decide)) (fun _ => z_up_k (by decide)) (z_up_k (by decide)) (fun _ => z_up_k (by decide))), Or.inr (Or.inl rfl)⟩
  refine T_if1 (by decide +kernel) ?_
  refine T_let 240 (by decide +kernel) ?_
  refine T_if1 (by decide +kernel) ?_
  refine T_leq (fun x22 e23 => ?_)
  have u24 := CI_b c2 (k := 240) (j := 6) bd_240_6
  refine T_if1 (by decide +kernel) ?_
  refine T_nw ?_ (fun h25 h26 => ?_)
  · exact T_ret ⟨CI_up c2 bd_1_15 (z_wb rfl).1, z_Fr.upf (R := R_X11_thick_1) f4 (fun a b h => z_up_k h) (fun b h => z_up_j h) (Or.inr (Or.inr (Or.inr (Or.inr (Or.inr (Or.inr (Or.inr (Or.inr (Or.inl (⟨rfl, by decide⟩)))))))))), y_V3.u (y_U3.fr o7 (z_up_k (by decide)) (z_up_k (by decide)) (z_up_k (by decide)) (z_up_k (by decide)) (fun _ => z_up_k (by decide)) (fun _ => z_up_k (by decide)) (fun _ => z_up_k (by decide)) (fun _ => z_up_k (by decide)) (fun _ => z_up_k (by decide)) (fun _ => z_up_k (by decide)) (fun _ => z_up_k (by decide)) (fun _ => z_up_k (by decide)) (fun _ => z_up_k (by decide)) (fun _ => z_up_k (by decide)) (fun _ => z_up_k (by decide)) (fun _ => z_up_k (by decide)) (fun _ => z_up_k (by decide)) (fun _ => z_up_k (by decide)) (fun _ => z_up_k (by decide)) (fun _ => z_up_k (by decide)) (fun _ => z_up_k (by decide)) (fun _ => z_up_k (by decide)) (fun _ => z_up_k (by decide)) (fun _ => z_up_k (by decide)) (fun _ => z_up_k (by decide))) (y_L3.fr (show y_L3 s1 from (Or.inr o8)) (z_up_j (by decide)) (z_up_k (by decide)) (z_up_k (by decide)) (z_up_k (by decide)) (z_up_k (by decide)) (fun _ => z_up_k (by decide)) (fun _ => z_up_k (by decide)) (fun _ => z_up_k (by decide)) (fun _ => z_up_k (by decide)) (fun _ => z_up_k (by decide)) (fun _ => z_up_k (by decide)) (fun _ => z_up_k (by decide)) (fun _ => z_up_k (by decide)) (fun _ => z_up_k (by decide)) (fun _ => z_up_k (by decide)) (fun _ => z_up_k (by decide)) (fun _ => z_up_k (by decide)) (fun _ => z_up_k (by decide)) (fun _ => z_up_k (by decide)) (fun _ => z_up_k (by decide)) (fun _ => z_up_k (by decide)) (fun _ => z_up_k (by decide)) (fun _ => z_up_k (by decide)) (fun _ => z_up_k (by decide)) (fun _ => z_up_k (by decide)) (z_up_k (by decide)) (fun _ => z_up_k (by decide))), Or.inr (Or.inr rfl)⟩
  refine T_if1 (by decide +kernel) ?_
  refine T_useN (sf_X11_refreshSides_1K hfu s1 c2 (y_V3.u o7 (Or.inr o8))) (fun v32 s27 hq => ?_)
  obtain ⟨c28, f29, o33, rfl⟩ := hq
  refine T_vN ?_
  have f30 := z_Fr.tr (R := R_X11_thick_1) f4 f29 rs_X11_refreshSides_1__X11_thick_1
  have t36 : s27 240 6 = s1 240 6 := f29 240 6 (by decide)
  have r37 := y_U3.fr o7 (f29 191 16 (by decide)) (f29 6 6 (by decide)) (f29 191 17 (by decide)) (f29 191 18 (by decide)) (fun b => f29 3 b (nr_X11_refreshSides_1__3 b)) (fun b => f29 8 b (nr_X11_refreshSides_1__8 b)) (fun b => f29 12 b (nr_X11_refreshSides_1__12 b)) (fun b => f29 14 b (nr_X11_refreshSides_1__14 b)) (fun b => f29 16 b (nr_X11_refreshSides_1__16 b)) (fun b => f29 18 b (nr_X11_refreshSides_1__18 b)) (fun b => f29 193 b (nr_X11_refreshSides_1__193 b)) (fun b => f29 195 b (nr_X11_refreshSides_1__195 b)) (fun b => f29 197 b (nr_X11_refreshSides_1__197 b)) (fun b => f29 199 b (nr_X11_refreshSides_1__199 b)) (fun b => f29 201 b (nr_X11_refreshSides_1__201 b)) (fun b => f29 203 b (nr_X11_refreshSides_1__203 b)) (fun b => f29 205 b (nr_X11_refreshSides_1__205 b)) (fun b => f29 207 b (nr_X11_refreshSides_1__207 b)) (fun b => f29 209 b (nr_X11_refreshSides_1__209 b)) (fun b => f29 211 b (nr_X11_refreshSides_1__211 b)) (fun b => f29 213 b (nr_X11_refreshSides_1__213 b)) (fun b => f29 215 b (nr_X11_refreshSides_1__215 b)) (fun b => f29 217 b (nr_X11_refreshSides_1__217 b)) (fun b => f29 219 b (nr_X11_refreshSides_1__219 b)) (fun b => f29 222 b (nr_X11_refreshSides_1__222 b))
  have r38 := y_SA.fr o8 (f29 191 16 (by decide)) (f29 6 6 (by decide)) (f29 191 17 (by decide)) (f29 191 18 (by decide)) (fun b => f29 3 b (nr_X11_refreshSides_1__3 b)) (fun b => f29 8 b (nr_X11_refreshSides_1__8 b)) (fun b => f29 12 b (nr_X11_refreshSides_1__12 b)) (fun b => f29 14 b (nr_X11_refreshSides_1__14 b)) (fun b => f29 16 b (nr_X11_refreshSides_1__16 b)) (fun b => f29 18 b (nr_X11_refreshSides_1__18 b)) (fun b => f29 193 b (nr_X11_refreshSides_1__193 b)) (fun b => f29 195 b (nr_X11_refreshSides_1__195 b)) (fun b => f29 197 b (nr_X11_refreshSides_1__197 b)) (fun b => f29 199 b (nr_X11_refreshSides_1__199 b)) (fun b => f29 201 b (nr_X11_refreshSides_1__201 b)) (fun b => f29 203 b (nr_X11_refreshSides_1__203 b)) (fun b => f29 205 b (nr_X11_refreshSides_1__205 b)) (fun b => f29 207 b (nr_X11_refreshSides_1__207 b)) (fun b => f29 209 b (nr_X11_refreshSides_1__209 b)) (fun b => f29 211 b (nr_X11_refreshSides_1__211 b)) (fun b => f29 213 b (nr_X11_refreshSides_1__213 b)) (fun b => f29 215 b (nr_X11_refreshSides_1__215 b)) (fun b => f29 217 b (nr_X11_refreshSides_1__217 b)) (fun b => f29 219 b (nr_X11_refreshSides_1__219 b)) (f29 240 6 (by decide)) (fun b => f29 248 b (nr_X11_refreshSides_1__248 b))
  have r39 := y_B0.fr o7.1.1 (f29 211 0 (by decide)) (f29 213 0 (by decide))
  refine T_if1 (by decide +kernel) ?_
  refine T_let 296 (by decide +kernel) ?_
  refine T_if1 (by decide +kernel) ?_
  refine T_useI (sf_X8_thickOf_296 hfu s27 c28 a1 a2 (by omega) (by omega)) (fun v45 s40 hq => ?_)
  obtain ⟨c41, f42, ⟨x44, rfl, b46, b47⟩⟩ := hq
  refine T_vI ?_
  have f43 := z_Fr.tr (R := R_X11_thick_1) f30 f42 (fun a b h => absurd h not_false)
  have t48 : s40 240 6 = s27 240 6 := f42 240 6 (by decide)
  have r49 := y_U3.fr r37 (f42 191 16 (by decide)) (f42 6 6 (by decide)) (f42 191 17 (by decide)) (f42 191 18 (by decide)) (fun b => f42 3 b (nr_X8_thickOf_296__3 b)) (fun b => f42 8 b (nr_X8_thickOf_296__8 b)) (fun b => f42 12 b (nr_X8_thickOf_296__12 b)) (fun b => f42 14 b (nr_X8_thickOf_296__14 b)) (fun b => f42 16 b (nr_X8_thickOf_296__16 b)) (fun b => f42 18 b (nr_X8_thickOf_296__18 b)) (fun b => f42 193 b (nr_X8_thickOf_296__193 b)) (fun b => f42 195 b (nr_X8_thickOf_296__195 b)) (fun b => f42 197 b (nr_X8_thickOf_296__197 b)) (fun b => f42 199 b (nr_X8_thickOf_296__199 b)) (fun b => f42 201 b (nr_X8_thickOf_296__201 b)) (fun b => f42 203 b (nr_X8_thickOf_296__203 b)) (fun b => f42 205 b (nr_X8_thickOf_296__205 b)) (fun b => f42 207 b (nr_X8_thickOf_296__207 b)) (fun b => f42 209 b (nr_X8_thickOf_296__209 b)) (fun b => f42 211 b (nr_X8_thickOf_296__211 b)) (fun b => f42 213 b (nr_X8_thickOf_296__213 b)) (fun b => f42 215 b (nr_X8_thickOf_296__215 b)) (fun b => f42 217 b (nr_X8_thickOf_296__217 b)) (fun b => f42 219 b (nr_X8_thickOf_296__219 b)) (fun b => f42 222 b (nr_X8_thickOf_296__222 b))
  have r50 := y_SA.fr r38 (f42 191 16 (by decide)) (f42 6 6 (by decide)) (f42 191 17 (by decide)) (f42 191 18 (by decide)) (fun b => f42 3 b (nr_X8_thickOf_296__3 b)) (fun b => f42 8 b (nr_X8_thickOf_296__8 b)) (fun b => f42 12 b (nr_X8_thickOf_296__12 b)) (fun b => f42 14 b (nr_X8_thickOf_296__14 b)) (fun b => f42 16 b (nr_X8_thickOf_296__16 b)) (fun b => f42 18 b (nr_X8_thickOf_296__18 b)) (fun b => f42 193 b (nr_X8_thickOf_296__193 b)) (fun b => f42 195 b (nr_X8_thickOf_296__195 b)) (fun b => f42 197 b (nr_X8_thickOf_296__197 b)) (fun b => f42 199 b (nr_X8_thickOf_296__199 b)) (fun b => f42 201 b (nr_X8_thickOf_296__201 b)) (fun b => f42 203 b (nr_X8_thickOf_296__203 b)) (fun b => f42 205 b (nr_X8_thickOf_296__205 b)) (fun b => f42 207 b (nr_X8_thickOf_296__207 b)) (fun b => f42 209 b (nr_X8_thickOf_296__209 b)) (fun b => f42 211 b (nr_X8_thickOf_296__211 b)) (fun b => f42 213 b (nr_X8_thickOf_296__213 b)) (fun b => f42 215 b (nr_X8_thickOf_296__215 b)) (fun b => f42 217 b (nr_X8_thickOf_296__217 b)) (fun b => f42 219 b (nr_X8_thickOf_296__219 b)) (f42 240 6 (by decide)) (fun b => f42 248 b (nr_X8_thickOf_296__248 b))
  have r51 := y_B0.fr o33.1.1 (f42 211 0 (by decide)) (f42 213 0 (by decide))
  have r52 := y_V3.fr o33 (f42 1 16 (by decide)) (f42 1 17 (by decide)) (f42 191 16 (by decide)) (f42 6 6 (by decide)) (f42 191 17 (by decide)) (f42 191 18 (by decide)) (fun b => f42 3 b (nr_X8_thickOf_296__3 b)) (fun b => f42 8 b (nr_X8_thickOf_296__8 b)) (fun b => f42 12 b (nr_X8_thickOf_296__12 b)) (fun b => f42 14 b (nr_X8_thickOf_296__14 b)) (fun b => f42 16 b (nr_X8_thickOf_296__16 b)) (fun b => f42 18 b (nr_X8_thickOf_296__18 b)) (fun b => f42 193 b (nr_X8_thickOf_296__193 b)) (fun b => f42 195 b (nr_X8_thickOf_296__195 b)) (fun b => f42 197 b (nr_X8_thickOf_296__197 b)) (fun b => f42 199 b (nr_X8_thickOf_296__199 b)) (fun b => f42 201 b (nr_X8_thickOf_296__201 b)) (fun b => f42 203 b (nr_X8_thickOf_296__203 b)) (fun b => f42 205 b (nr_X8_thickOf_296__205 b)) (fun b => f42 207 b (nr_X8_thickOf_296__207 b)) (fun b => f42 209 b (nr_X8_thickOf_296__209 b)) (fun b => f42 211 b (nr_X8_thickOf_296__211 b)) (fun b => f42 213 b (nr_X8_thickOf_296__213 b)) (fun b => f42 215 b (nr_X8_thickOf_296__215 b)) (fun b => f42 217 b (nr_X8_thickOf_296__217 b)) (fun b => f42 219 b (nr_X8_thickOf_296__219 b)) (fun b => f42 222 b (nr_X8_thickOf_296__222 b)) (f42 240 6 (by decide)) (fun b => f42 248 b (nr_X8_thickOf_296__248 b))
  exact T_ret ⟨c41, f43, r52, Or.inl (⟨x44, rfl, by omega, by omega⟩)⟩
abbrev P_X11_pages_1K (r0 : z_M) : z_V → z_M → Prop := fun v s' => z_CI s' ∧ z_Fr R_X11_pages_1 r0 s' ∧ (y_V3 s') ∧ ((∃ x, v = vI x ∧ -2147483648 ≤ x ∧ x ≤ 2147483647) ∨ v = vX 1)
theorem nr_X8_pageCount_296__222 (b : Int) : ¬ R_X8_pageCount_296 222 b := not_false
theorem nr_X8_pageCount_296__248 (b : Int) : ¬ R_X8_pageCount_296 248 b := not_false
set_option maxHeartbeats 4000000 in
theorem sf_X11_pages_1K {fu : Nat} (hfu : 8589934592 ≤ fu) (r0 : z_M) (c0 : z_CI r0) (a1 : Int) (b1 : -2147483648 ≤ a1 ∧ a1 ≤ 2147483647) (p0 : y_V3 r0) : z_T (fX11_pages fu r0 1 a1) (P_X11_pages_1K r0) := by
  refine T_of (fX11_pages.eq_1 ..) ?_
  refine T_if1 (by decide +kernel) ?_
  refine T_nw ?_ (fun h1 h2 => ?_)
  · exact T_ret ⟨CI_up c0 bd_1_15 (z_wb rfl).1, z_Fr.upf (R := R_X11_pages_1) z_Fr.rf (fun a b h => z_up_k h) (fun b h => z_up_j h) (Or.inr (Or.inr (Or.inr (Or.inr (Or.inr (Or.inr (Or.inr (Or.inr (Or.inl (⟨rfl, by decide⟩)))))))))), y_V3.fr p0 (z_up_j (by decide)) (z_up_j (by decide)) (z_up_k (by decide)) (z_up_k (by decide)) (z_up_k (by decide)) (z_up_k (by decide)) (fun _ => z_up_k (by decide)) (fun _ => z_up_k (by decide)) (fun _ => z_up_k (by decide)) (fun _ => z_up_k (by decide)) (fun _ => z_up_k (by decide)) (fun _ => z_up_k (by decide)) (fun _ => z_up_k (by decide)) (fun _ => z_up_k (by decide)) (fun _ => z_up_k (by decide)) (fun _ => z_up_k (by decide)) (fun _ => z_up_k (by decide)) (fun _ => z_up_k (by decide)) (fun _ => z_up_k (by decide)) (fun _ => z_up_k (by decide)) (fun _ => z_up_k (by decide)) (fun _ => z_up_k (by decide)) (fun _ => z_up_k (by decide)) (fun _ => z_up_k (by decide)) (fun _ => z_up_k (by decide)) (fun _ => z_up_k (by decide)) (fun _ => z_up_k (by decide)) (z_up_k (by decide)) (fun _ => z_up_k (by decide)), Or.inr rfl⟩
  refine T_if1 (by decide +kernel) ?_
  refine T_useN (sf_X11_refresh_1K hfu r0 c0 p0) (fun v8 s3 hq => ?_)
  obtain ⟨c4, f5, o9, o10, rfl⟩ := hq
  refine T_vN ?_
  have f6 := z_Fr.tr (R := R_X11_pages_1) z_Fr.rf f5 rs_X11_refresh_1__X11_pages_1
  refine T_if1 (by decide +kernel) ?_
  refine T_useN (sf_X11_refreshSides_1K hfu s3 c4 (y_V3.u o9 (Or.inr o10))) (fun v18 s13 hq => ?_)
  obtain ⟨c14, f15, o19, rfl⟩ := hq
  refine T_vN ?_
  have f16 := z_Fr.tr (R := R_X11_pages_1) f6 f15 rs_X11_refreshSides_1__X11_pages_1
  have r22 := y_U3.fr o9 (f15 191 16 (by decide)) (f15 6 6 (by decide)) (f15 191 17 (by decide)) (f15 191 18 (by decide)) (fun b => f15 3 b (nr_X11_refreshSides_1__3 b)) (fun b => f15 8 b (nr_X11_refreshSides_1__8 b)) (fun b => f15 12 b (nr_X11_refreshSides_1__12 b)) (fun b => f15 14 b (nr_X11_refreshSides_1__14 b)) (fun b => f15 16 b (nr_X11_refreshSides_1__16 b)) (fun b => f15 18 b (nr_X11_refreshSides_1__18 b)) (fun b => f15 193 b (nr_X11_refreshSides_1__193 b)) (fun b => f15 195 b (nr_X11_refreshSides_1__195 b)) (fun b => f15 197 b (nr_X11_refreshSides_1__197 b)) (fun b => f15 199 b (nr_X11_refreshSides_1__199 b)) (fun b => f15 201 b (nr_X11_refreshSides_1__201 b)) (fun b => f15 203 b (nr_X11_refreshSides_1__203 b)) (fun b => f15 205 b (nr_X11_refreshSides_1__205 b)) (fun b => f15 207 b (nr_X11_refreshSides_1__207 b)) (fun b => f15 209 b (nr_X11_refreshSides_1__209 b)) (fun b => f15 211 b (nr_X11_refreshSides_1__211 b)) (fun b => f15 213 b (nr_X11_refreshSides_1__213 b)) (fun b => f15 215 b (nr_X11_refreshSides_1__215 b)) (fun b => f15 217 b (nr_X11_refreshSides_1__217 b)) (fun b => f15 219 b (nr_X11_refreshSides_1__219 b)) (fun b => f15 222 b (nr_X11_refreshSides_1__222 b))
  have r23 := y_SA.fr o10 (f15 191 16 (by decide)) (f15 6 6 (by decide)) (f15 191 17 (by decide)) (f15 191 18 (by decide)) (fun b => f15 3 b (nr_X11_refreshSides_1__3 b)) (fun b => f15 8 b (nr_X11_refreshSides_1__8 b)) (fun b => f15 12 b (nr_X11_refreshSides_1__12 b)) (fun b => f15 14 b (nr_X11_refreshSides_1__14 b)) (fun b => f15 16 b (nr_X11_refreshSides_1__16 b)) (fun b => f15 18 b (nr_X11_refreshSides_1__18 b)) (fun b => f15 193 b (nr_X11_refreshSides_1__193 b)) (fun b => f15 195 b (nr_X11_refreshSides_1__195 b)) (fun b => f15 197 b (nr_X11_refreshSides_1__197 b)) (fun b => f15 199 b (nr_X11_refreshSides_1__199 b)) (fun b => f15 201 b (nr_X11_refreshSides_1__201 b)) (fun b => f15 203 b (nr_X11_refreshSides_1__203 b)) (fun b => f15 205 b (nr_X11_refreshSides_1__205 b)) (fun b => f15 207 b (nr_X11_refreshSides_1__207 b)) (fun b => f15 209 b (nr_X11_refreshSides_1__209 b)) (fun b => f15 211 b (nr_X11_refreshSides_1__211 b)) (fun b => f15 213 b (nr_X11_refreshSides_1__213 b)) (fun b => f15 215 b (nr_X11_refreshSides_1__215 b)) (fun b => f15 217 b (nr_X11_refreshSides_1__217 b)) (fun b => f15 219 b (nr_X11_refreshSides_1__219 b)) (f15 240 6 (by decide)) (fun b => f15 248 b (nr_X11_refreshSides_1__248 b))
  have r24 := y_B0.fr o9.1.1 (f15 211 0 (by decide)) (f15 213 0 (by decide))
  refine T_if1 (by decide +kernel) ?_
  refine T_let 296 (by decide +kernel) ?_
  refine T_if1 (by decide +kernel) ?_
  refine T_useI (sf_X8_pageCount_296 hfu s13 c14 a1 (by omega)) (fun v30 s25 hq => ?_)
  obtain ⟨c26, f27, ⟨x29, rfl, b31, b32⟩⟩ := hq
  refine T_vI ?_
  have f28 := z_Fr.tr (R := R_X11_pages_1) f16 f27 (fun a b h => absurd h not_false)
  have r33 := y_U3.fr r22 (f27 191 16 (by decide)) (f27 6 6 (by decide)) (f27 191 17 (by decide)) (f27 191 18 (by decide)) (fun b => f27 3 b (nr_X8_pageCount_296__3 b)) (fun b => f27 8 b (nr_X8_pageCount_296__8 b)) (fun b => f27 12 b (nr_X8_pageCount_296__12 b)) (fun b => f27 14 b (nr_X8_pageCount_296__14 b)) (fun b => f27 16 b (nr_X8_pageCount_296__16 b)) (fun b => f27 18 b (nr_X8_pageCount_296__18 b)) (fun b => f27 193 b (nr_X8_pageCount_296__193 b)) (fun b => f27 195 b (nr_X8_pageCount_296__195 b)) (fun b => f27 197 b (nr_X8_pageCount_296__197 b)) (fun b => f27 199 b (nr_X8_pageCount_296__199 b)) (fun b => f27 201 b (nr_X8_pageCount_296__201 b)) (fun b => f27 203 b (nr_X8_pageCount_296__203 b)) (fun b => f27 205 b (nr_X8_pageCount_296__205 b)) (fun b => f27 207 b (nr_X8_pageCount_296__207 b)) (fun b => f27 209 b (nr_X8_pageCount_296__209 b)) (fun b => f27 211 b (nr_X8_pageCount_296__211 b)) (fun b => f27 213 b (nr_X8_pageCount_296__213 b)) (fun b => f27 215 b (nr_X8_pageCount_296__215 b)) (fun b => f27 217 b (nr_X8_pageCount_296__217 b)) (fun b => f27 219 b (nr_X8_pageCount_296__219 b)) (fun b => f27 222 b (nr_X8_pageCount_296__222 b))
  have r34 := y_SA.fr r23 (f27 191 16 (by decide)) (f27 6 6 (by decide)) (f27 191 17 (by decide)) (f27 191 18 (by decide)) (fun b => f27 3 b (nr_X8_pageCount_296__3 b)) (fun b => f27 8 b (nr_X8_pageCount_296__8 b)) (fun b => f27 12 b (nr_X8_pageCount_296__12 b)) (fun b => f27 14 b (nr_X8_pageCount_296__14 b)) (fun b => f27 16 b (nr_X8_pageCount_296__16 b)) (fun b => f27 18 b (nr_X8_pageCount_296__18 b)) (fun b => f27 193 b (nr_X8_pageCount_296__193 b)) (fun b => f27 195 b (nr_X8_pageCount_296__195 b)) (fun b => f27 197 b (nr_X8_pageCount_296__197 b)) (fun b => f27 199 b (nr_X8_pageCount_296__199 b)) (fun b => f27 201 b (nr_X8_pageCount_296__201 b)) (fun b => f27 203 b (nr_X8_pageCount_296__203 b)) (fun b => f27 205 b (nr_X8_pageCount_296__205 b)) (fun b => f27 207 b (nr_X8_pageCount_296__207 b)) (fun b => f27 209 b (nr_X8_pageCount_296__209 b)) (fun b => f27 211 b (nr_X8_pageCount_296__211 b)) (fun b => f27 213 b (nr_X8_pageCount_296__213 b)) (fun b => f27 215 b (nr_X8_pageCount_296__215 b)) (fun b => f27 217 b (nr_X8_pageCount_296__217 b)) (fun b => f27 219 b (nr_X8_pageCount_296__219 b)) (f27 240 6 (by decide)) (fun b => f27 248 b (nr_X8_pageCount_296__248 b))
  have r35 := y_B0.fr o19.1.1 (f27 211 0 (by decide)) (f27 213 0 (by decide))
  have r36 := y_V3.fr o19 (f27 1 16 (by decide)) (f27 1 17 (by decide)) (f27 191 16 (by decide)) (f27 6 6 (by decide)) (f27 191 17 (by decide)) (f27 191 18 (by decide)) (fun b => f27 3 b (nr_X8_pageCount_296__3 b)) (fun b => f27 8 b (nr_X8_pageCount_296__8 b)) (fun b => f27 12 b (nr_X8_pageCount_296__12 b)) (fun b => f27 14 b (nr_X8_pageCount_296__14 b)) (fun b => f27 16 b (nr_X8_pageCount_296__16 b)) (fun b => f27 18 b (nr_X8_pageCount_296__18 b)) (fun b => f27 193 b (nr_X8_pageCount_296__193 b)) (fun b => f27 195 b (nr_X8_pageCount_296__195 b)) (fun b => f27 197 b (nr_X8_pageCount_296__197 b)) (fun b => f27 199 b (nr_X8_pageCount_296__199 b)) (fun b => f27 201 b (nr_X8_pageCount_296__201 b)) (fun b => f27 203 b (nr_X8_pageCount_296__203 b)) (fun b => f27 205 b (nr_X8_pageCount_296__205 b)) (fun b => f27 207 b (nr_X8_pageCount_296__207 b)) (fun b => f27 209 b (nr_X8_pageCount_296__209 b)) (fun b => f27 211 b (nr_X8_pageCount_296__211 b)) (fun b => f27 213 b (nr_X8_pageCount_296__213 b)) (fun b => f27 215 b (nr_X8_pageCount_296__215 b)) (fun b => f27 217 b (nr_X8_pageCount_296__217 b)) (fun b => f27 219 b (nr_X8_pageCount_296__219 b)) (fun b => f27 222 b (nr_X8_pageCount_296__222 b)) (f27 240 6 (by decide)) (fun b => f27 248 b (nr_X8_pageCount_296__248 b))
  exact T_ret ⟨c26, f28, r36, Or.inl (⟨x29, rfl, by omega, by omega⟩)⟩
abbrev P_X11_page_1K (r0 : z_M) : z_V → z_M → Prop := fun v s' => z_CI s' ∧ z_Fr R_X11_page_1 r0 s' ∧ (y_V3 s') ∧ ((∃ x, v = vI x ∧ -2147483648 ≤ x ∧ x ≤ 2147483647) ∨ v = vX 1)
theorem nr_X8_pageEnd_296__222 (b : Int) : ¬ R_X8_pageEnd_296 222 b := not_false
theorem nr_X8_pageEnd_296__248 (b : Int) : ¬ R_X8_pageEnd_296 248 b := not_false
theorem sl_X11_page_1K_L45 {fu : Nat} (hfu : 8589934592 ≤ fu) (r0 : z_M) (a1 : Int) (a2 : Int) (a3 : Int) (b1 : -2147483648 ≤ a1 ∧ a1 ≤ 2147483647) (b2 : -2147483648 ≤ a2 ∧ a2 ≤ 2147483647) (b3 : -2147483648 ≤ a3 ∧ a3 ≤ 2147483647) {k : z_M → Int → z_O} (hk : ∀ (s' : z_M) (v4 : Int), z_CI s' → z_Fr R_X11_page_1 r0 s' → (0 ≤ v4 ∧ v4 ≤ 201) → (y_V3 s') → z_T (k s' v4) (P_X11_page_1K r0)) : ∀ (F : Nat) (s : z_M) (a4 : Int) (a5 : Int), z_CI s → z_Fr R_X11_page_1 r0 s → (0 ≤ a4 ∧ a4 ≤ 201) → (-2147483648 ≤ a5 ∧ a5 ≤ 2147483647) → (y_V3 s) → (2147483647 - a5 < (F : Int)) → z_T (fX11_page_L45 fu 1 a1 a2 a3 F s a4 a5 k) (P_X11_page_1K r0) := by
  intro F
  induction F with
  | zero =>
    intro s a4 a5 c f b4 b5 i0 hm
    have u24 := CI_b c (k := 240) (j := 6) bd_240_6
    exfalso; omega
  | succ F ih =>
    intro s a4 a5 c f b4 b5 i0 hm
    refine T_of (fX11_page_L45.eq_2 ..) ?_
    have u1 := CI_b c (k := 240) (j := 6) bd_240_6
    refine T_ite (fun h2 => ?_) (fun h2 => ?_)
    · exact hk s a4 c f (by omega) i0
    · refine T_if1 (by decide +kernel) ?_
      refine T_let 240 (by decide +kernel) ?_
      refine T_if1 (by decide +kernel) ?_
      refine T_leq (fun x3 e4 => ?_)
      have u5 := CI_b c (k := 240) (j := 6) bd_240_6
      refine T_ite (fun h6 => ?_) (fun h6 => ?_)
      · exact hk s a4 c f (by omega) i0
      · refine T_if1 (by decide +kernel) ?_
        refine T_let 296 (by decide +kernel) ?_
        refine T_if1 (by decide +kernel) ?_
        refine T_useI (sf_X8_pageEnd_296 hfu s c a4 a1 (by omega) (by omega)) (fun v12 s7 hq => ?_)
        obtain ⟨c8, f9, ⟨x11, rfl, b13, b14⟩⟩ := hq
        refine T_vI ?_
        have f10 := z_Fr.tr (R := R_X11_page_1) f f9 (fun a b h => absurd h not_false)
        have t15 : s7 240 6 = s 240 6 := f9 240 6 (by decide)
        have r16 := y_V3.fr i0 (f9 1 16 (by decide)) (f9 1 17 (by decide)) (f9 191 16 (by decide)) (f9 6 6 (by decide)) (f9 191 17 (by decide)) (f9 191 18 (by decide)) (fun b => f9 3 b (nr_X8_pageEnd_296__3 b)) (fun b => f9 8 b (nr_X8_pageEnd_296__8 b)) (fun b => f9 12 b (nr_X8_pageEnd_296__12 b)) (fun b => f9 14 b (nr_X8_pageEnd_296__14 b)) (fun b => f9 16 b (nr_X8_pageEnd_296__16 b)) (fun b => f9 18 b (nr_X8_pageEnd_296__18 b)) (fun b => f9 193 b (nr_X8_pageEnd_296__193 b)) (fun b => f9 195 b (nr_X8_pageEnd_296__195 b)) (fun b => f9 197 b (nr_X8_pageEnd_296__197 b)) (fun b => f9 199 b (nr_X8_pageEnd_296__199 b)) (fun b => f9 201 b (nr_X8_pageEnd_296__201 b)) (fun b => f9 203 b (nr_X8_pageEnd_296__203 b)) (fun b => f9 205 b (nr_X8_pageEnd_296__205 b)) (fun b => f9 207 b (nr_X8_pageEnd_296__207 b)) (fun b => f9 209 b (nr_X8_pageEnd_296__209 b)) (fun b => f9 211 b (nr_X8_pageEnd_296__211 b)) (fun b => f9 213 b (nr_X8_pageEnd_296__213 b)) (fun b => f9 215 b (nr_X8_pageEnd_296__215 b)) (fun b => f9 217 b (nr_X8_pageEnd_296__217 b)) (fun b => f9 219 b (nr_X8_pageEnd_296__219 b)) (fun b => f9 222 b (nr_X8_pageEnd_296__222 b)) (f9 240 6 (by decide)) (fun b => f9 248 b (nr_X8_pageEnd_296__248 b))
        have r17 := y_B0.fr i0.1.1 (f9 211 0 (by decide)) (f9 213 0 (by decide))
        refine T_leq (fun x18 e19 => ?_)
        have w20 := z_wb e19
        refine T_leq (fun x21 e22 => ?_)
        have w23 := z_wb e22
        exact ih s7 x18 x21 c8 f10 (by omega) (by omega) r16 (by omega)
theorem sj_X11_page_1K_J144 {fu : Nat} (hfu : 8589934592 ≤ fu) (r0 s : z_M) (c : z_CI s) (f : z_Fr R_X11_page_1 r0 s) (t0 : Int) (d0 : -2147483648 ≤ t0 ∧ t0 ≤ 2147483647) (p0 : y_V3 s) : z_T (fX11_page_J144 fu s t0) (P_X11_page_1K r0) := by
  refine T_of (fX11_page_J144.eq_1 ..) ?_
  have u1 := CI_b c (k := 240) (j := 6) bd_240_6
  exact T_ret ⟨c, f, p0, Or.inl (⟨t0, rfl, by omega, by omega⟩)⟩
theorem sj_X11_page_1K_J83 {fu : Nat} (hfu : 8589934592 ≤ fu) (r0 s : z_M) (c : z_CI s) (f : z_Fr R_X11_page_1 r0 s) (a1 : Int) (a3 : Int) (a4 : Int) (b1 : -2147483648 ≤ a1 ∧ a1 ≤ 2147483647) (b3 : -2147483648 ≤ a3 ∧ a3 ≤ 2147483647) (b4 : 0 ≤ a4 ∧ a4 ≤ 201) (p0 : y_V3 s) : z_T (fX11_page_J83 fu s 1 a1 a3 a4) (P_X11_page_1K r0) := by
  refine T_of (fX11_page_J83.eq_1 ..) ?_
  have u1 := CI_b c (k := 240) (j := 6) bd_240_6
  refine T_if1 (by decide +kernel) ?_
  refine T_let 240 (by decide +kernel) ?_
  refine T_if1 (by decide +kernel) ?_
  refine T_leq (fun x2 e3 => ?_)
  have u4 := CI_b c (k := 240) (j := 6) bd_240_6
  refine T_ite (fun h5 => ?_) (fun h5 => ?_)
  · refine T_if1 (by decide +kernel) ?_
    refine T_let 296 (by decide +kernel) ?_
    refine T_if1 (by decide +kernel) ?_
    refine T_useI (sf_X8_pageEnd_296 hfu s c a4 a1 (by omega) (by omega)) (fun v11 s6 hq => ?_)
    obtain ⟨c7, f8, ⟨x10, rfl, b12, b13⟩⟩ := hq
    refine T_vI ?_
    have f9 := z_Fr.tr (R := R_X11_page_1) f f8 (fun a b h => absurd h not_false)
    have t14 : s6 240 6 = s 240 6 := f8 240 6 (by decide)
    have r15 := y_V3.fr p0 (f8 1 16 (by decide)) (f8 1 17 (by decide)) (f8 191 16 (by decide)) (f8 6 6 (by decide)) (f8 191 17 (by decide)) (f8 191 18 (by decide)) (fun b => f8 3 b (nr_X8_pageEnd_296__3 b)) (fun b => f8 8 b (nr_X8_pageEnd_296__8 b)) (fun b => f8 12 b (nr_X8_pageEnd_296__12 b)) (fun b => f8 14 b (nr_X8_pageEnd_296__14 b)) (fun b => f8 16 b (nr_X8_pageEnd_296__16 b)) (fun b => f8 18 b (nr_X8_pageEnd_296__18 b)) (fun b => f8 193 b (nr_X8_pageEnd_296__193 b)) (fun b => f8 195 b (nr_X8_pageEnd_296__195 b)) (fun b => f8 197 b (nr_X8_pageEnd_296__197 b)) (fun b => f8 199 b (nr_X8_pageEnd_296__199 b)) (fun b => f8 201 b (nr_X8_pageEnd_296__201 b)) (fun b => f8 203 b (nr_X8_pageEnd_296__203 b)) (fun b => f8 205 b (nr_X8_pageEnd_296__205 b)) (fun b => f8 207 b (nr_X8_pageEnd_296__207 b)) (fun b => f8 209 b (nr_X8_pageEnd_296__209 b)) (fun b => f8 211 b (nr_X8_pageEnd_296__211 b)) (fun b => f8 213 b (nr_X8_pageEnd_296__213 b)) (fun b => f8 215 b (nr_X8_pageEnd_296__215 b)) (fun b => f8 217 b (nr_X8_pageEnd_296__217 b)) (fun b => f8 219 b (nr_X8_pageEnd_296__219 b)) (fun b => f8 222 b (nr_X8_pageEnd_296__222 b)) (f8 240 6 (by decide)) (fun b => f8 248 b (nr_X8_pageEnd_296__248 b))
    have r16 := y_B0.fr p0.1.1 (f8 211 0 (by decide)) (f8 213 0 (by decide))
    refine T_ite (fun h17 => ?_) (fun h17 => ?_)
    · refine T_ite (fun h18 => ?_) (fun h18 => ?_)
      · refine T_if1 (by decide +kernel) ?_
        refine T_let 296 (by decide +kernel) ?_
        refine T_if1 (by decide +kernel) ?_
        refine T_useI (sf_X8_thickOf_296 hfu s6 c7 a4 x10 (by omega) (by omega)) (fun v24 s19 hq => ?_)
        obtain ⟨c20, f21, ⟨x23, rfl, b25, b26⟩⟩ := hq
        refine T_vI ?_
        have f22 := z_Fr.tr (R := R_X11_page_1) f9 f21 (fun a b h => absurd h not_false)
        have t27 : s19 240 6 = s6 240 6 := f21 240 6 (by decide)
        have r28 := y_V3.fr r15 (f21 1 16 (by decide)) (f21 1 17 (by decide)) (f21 191 16 (by decide)) (f21 6 6 (by decide)) (f21 191 17 (by decide)) (f21 191 18 (by decide)) (fun b => f21 3 b (nr_X8_thickOf_296__3 b)) (fun b => f21 8 b (nr_X8_thickOf_296__8 b)) (fun b => f21 12 b (nr_X8_thickOf_296__12 b)) (fun b => f21 14 b (nr_X8_thickOf_296__14 b)) (fun b => f21 16 b (nr_X8_thickOf_296__16 b)) (fun b => f21 18 b (nr_X8_thickOf_296__18 b)) (fun b => f21 193 b (nr_X8_thickOf_296__193 b)) (fun b => f21 195 b (nr_X8_thickOf_296__195 b)) (fun b => f21 197 b (nr_X8_thickOf_296__197 b)) (fun b => f21 199 b (nr_X8_thickOf_296__199 b)) (fun b => f21 201 b (nr_X8_thickOf_296__201 b)) (fun b => f21 203 b (nr_X8_thickOf_296__203 b)) (fun b => f21 205 b (nr_X8_thickOf_296__205 b)) (fun b => f21 207 b (nr_X8_thickOf_296__207 b)) (fun b => f21 209 b (nr_X8_thickOf_296__209 b)) (fun b => f21 211 b (nr_X8_thickOf_296__211 b)) (fun b => f21 213 b (nr_X8_thickOf_296__213 b)) (fun b => f21 215 b (nr_X8_thickOf_296__215 b)) (fun b => f21 217 b (nr_X8_thickOf_296__217 b)) (fun b => f21 219 b (nr_X8_thickOf_296__219 b)) (fun b => f21 222 b (nr_X8_thickOf_296__222 b)) (f21 240 6 (by decide)) (fun b => f21 248 b (nr_X8_thickOf_296__248 b))
        have r29 := y_B0.fr r16 (f21 211 0 (by decide)) (f21 213 0 (by decide))
        exact sj_X11_page_1K_J144 hfu r0 s19 c20 f22 x23 (by omega) r28
      · refine T_leq (fun x30 e31 => ?_)
        have w32 := z_wb e31
        refine T_leq (fun x33 e34 => ?_)
        have w35 := z_wb e34
        exact sj_X11_page_1K_J144 hfu r0 s6 c7 f9 x33 (by omega) r15
    · exact sj_X11_page_1K_J144 hfu r0 s6 c7 f9 a4 (by omega) r15
  · exact T_ret ⟨c, f, p0, Or.inl (⟨(-1), rfl, by omega, by omega⟩)⟩
theorem sj_X11_page_1K_J40 {fu : Nat} (hfu : 8589934592 ≤ fu) (r0 s : z_M) (c : z_CI s) (f : z_Fr R_X11_page_1 r0 s) (a1 : Int) (a2 : Int) (a3 : Int) (t0 : Int) (b1 : -2147483648 ≤ a1 ∧ a1 ≤ 2147483647) (b2 : -2147483648 ≤ a2 ∧ a2 ≤ 2147483647) (b3 : -2147483648 ≤ a3 ∧ a3 ≤ 2147483647) (d0 : 0 ≤ t0 ∧ t0 ≤ 200) (p0 : y_V3 s) : z_T (fX11_page_J40 fu s 1 a1 a2 a3 t0) (P_X11_page_1K r0) := by
  refine T_of (fX11_page_J40.eq_1 ..) ?_
  have u1 := CI_b c (k := 240) (j := 6) bd_240_6
  refine sl_X11_page_1K_L45 hfu r0 a1 a2 a3 (by omega) (by omega) (by omega) (fun s2 y5 c3 f4 b6 g7 => ?_) fu s t0 0 c f (by omega) (by omega) p0 (by omega)
  have u8 := CI_b c3 (k := 240) (j := 6) bd_240_6
  exact sj_X11_page_1K_J83 hfu r0 s2 c3 f4 a1 a3 y5 (by omega) (by omega) (by omega) g7
theorem sf_X11_page_1K {fu : Nat} (hfu : 8589934592 ≤ fu) (r0 : z_M) (c0 : z_CI r0) (a1 : Int) (a2 : Int) (a3 : Int) (b1 : -2147483648 ≤ a1 ∧ a1 ≤ 2147483647) (b2 : -2147483648 ≤ a2 ∧ a2 ≤ 2147483647) (b3 : -2147483648 ≤ a3 ∧ a3 ≤ 2147483647) (p0 : y_V3 r0) : z_T (fX11_page fu r0 1 a1 a2 a3) (P_X11_page_1K r0) := by
  refine T_of (fX11_page.eq_1 ..) ?_
  refine T_if1 (by decide +kernel) ?_
  refine T_nw ?_ (fun h1 h2 => ?_)
  · exact T_ret ⟨CI_up c0 bd_1_15 (z_wb rfl).1, z_Fr.upf (R := R_X11_page_1) z_Fr.rf (fun a b h => z_up_k h) (fun b h => z_up_j h) (Or.inr (Or.inr (Or.inr (Or.inr (Or.inr (Or.inr (Or.inr (Or.inr (Or.inl (⟨rfl, by decide⟩)))))))))), y_V3.fr p0 (z_up_j (by decide)) (z_up_j (by decide)) (z_up_k (by decide)) (z_up_k (by decide)) (z_up_k (by decide)) (z_up_k (by decide)) (fun _ => z_up_k (by decide)) (fun _ => z_up_k (by decide)) (fun _ => z_up_k (by decide)) (fun _ => z_up_k (by decide)) (fun _ => z_up_k (by decide)) (fun _ => z_up_k (by decide)) (fun _ => z_up_k (by decide)) (fun _ => z_up_k (by decide)) (fun _ => z_up_k (by decide)) (fun _ => z_up_k (by decide)) (fun _ => z_up_k (by decide)) (fun _ => z_up_k (by decide)) (fun _ => z_up_k (by decide)) (fun _ => z_up_k (by decide)) (fun _ => z_up_k (by decide)) (fun _ => z_up_k (by decide)) (fun _ => z_up_k (by decide)) (fun _ => z_up_k (by decide)) (fun _ => z_up_k (by decide)) (fun _ => z_up_k (by decide)) (fun _ => z_up_k (by decide)) (z_up_k (by decide)) (fun _ => z_up_k (by decide)), Or.inr rfl⟩
  refine T_if1 (by decide +kernel) ?_
  refine T_nw ?_ (fun h3 h4 => ?_)
  · exact T_ret ⟨CI_up c0 bd_1_15 (z_wb rfl).1, z_Fr.upf (R := R_X11_page_1) z_Fr.rf (fun a b h => z_up_k h) (fun b h => z_up_j h) (Or.inr (Or.inr (Or.inr (Or.inr (Or.inr (Or.inr (Or.inr (Or.inr (Or.inl (⟨rfl, by decide⟩)))))))))), y_V3.fr p0 (z_up_j (by decide)) (z_up_j (by decide)) (z_up_k (by decide)) (z_up_k (by decide)) (z_up_k (by decide)) (z_up_k (by decide)) (fun _ => z_up_k (by decide)) (fun _ => z_up_k (by decide)) (fun _ => z_up_k (by decide)) (fun _ => z_up_k (by decide)) (fun _ => z_up_k (by decide)) (fun _ => z_up_k (by decide)) (fun _ => z_up_k (by decide)) (fun _ => z_up_k (by decide)) (fun _ => z_up_k (by decide)) (fun _ => z_up_k (by decide)) (fun _ => z_up_k (by decide)) (fun _ => z_up_k (by decide)) (fun _ => z_up_k (by decide)) (fun _ => z_up_k (by decide)) (fun _ => z_up_k (by decide)) (fun _ => z_up_k (by decide)) (fun _ => z_up_k (by decide)) (fun _ => z_up_k (by decide)) (fun _ => z_up_k (by decide)) (fun _ => z_up_k (by decide)) (fun _ => z_up_k (by decide)) (z_up_k (by decide)) (fun _ => z_up_k (by decide)), Or.inr rfl⟩
  refine T_if1 (by decide +kernel) ?_
  refine T_useN (sf_X11_refresh_1K hfu r0 c0 p0) (fun v10 s5 hq => ?_)
  obtain ⟨c6, f7, o11, o12, rfl⟩ := hq
  refine T_vN ?_
  have f8 := z_Fr.tr (R := R_X11_page_1) z_Fr.rf f7 rs_X11_refresh_1__X11_page_1
  have u15 := CI_b c6 (k := 240) (j := 6) bd_240_6
  refine T_if1 (by decide +kernel) ?_
  refine T_useN (sf_X11_refreshSides_1K hfu s5 c6 (y_V3.u o11 (Or.inr o12))) (fun v21 s16 hq => ?_)
  obtain ⟨c17, f18, o22, rfl⟩ := hq
  refine T_vN ?_
  have f19 := z_Fr.tr (R := R_X11_page_1) f8 f18 rs_X11_refreshSides_1__X11_page_1
  have t25 : s16 240 6 = s5 240 6 := f18 240 6 (by decide)
  have r26 := y_U3.fr o11 (f18 191 16 (by decide)) (f18 6 6 (by decide)) (f18 191 17 (by decide)) (f18 191 18 (by decide)) (fun b => f18 3 b (nr_X11_refreshSides_1__3 b)) (fun b => f18 8 b (nr_X11_refreshSides_1__8 b)) (fun b => f18 12 b (nr_X11_refreshSides_1__12 b)) (fun b => f18 14 b (nr_X11_refreshSides_1__14 b)) (fun b => f18 16 b (nr_X11_refreshSides_1__16 b)) (fun b => f18 18 b (nr_X11_refreshSides_1__18 b)) (fun b => f18 193 b (nr_X11_refreshSides_1__193 b)) (fun b => f18 195 b (nr_X11_refreshSides_1__195 b)) (fun b => f18 197 b (nr_X11_refreshSides_1__197 b)) (fun b => f18 199 b (nr_X11_refreshSides_1__199 b)) (fun b => f18 201 b (nr_X11_refreshSides_1__201 b)) (fun b => f18 203 b (nr_X11_refreshSides_1__203 b)) (fun b => f18 205 b (nr_X11_refreshSides_1__205 b)) (fun b => f18 207 b (nr_X11_refreshSides_1__207 b)) (fun b => f18 209 b (nr_X11_refreshSides_1__209 b)) (fun b => f18 211 b (nr_X11_refreshSides_1__211 b)) (fun b => f18 213 b (nr_X11_refreshSides_1__213 b)) (fun b => f18 215 b (nr_X11_refreshSides_1__215 b)) (fun b => f18 217 b (nr_X11_refreshSides_1__217 b)) (fun b => f18 219 b (nr_X11_refreshSides_1__219 b)) (fun b => f18 222 b (nr_X11_refreshSides_1__222 b))
  have r27 := y_SA.fr o12 (f18 191 16 (by decide)) (f18 6 6 (by decide)) (f18 191 17 (by decide)) (f18 191 18 (by decide)) (fun b => f18 3 b (nr_X11_refreshSides_1__3 b)) (fun b => f18 8 b (nr_X11_refreshSides_1__8 b)) (fun b => f18 12 b (nr_X11_refreshSides_1__12 b)) (fun b => f18 14 b (nr_X11_refreshSides_1__14 b)) (fun b => f18 16 b (nr_X11_refreshSides_1__16 b)) (fun b => f18 18 b (nr_X11_refreshSides_1__18 b)) (fun b => f18 193 b (nr_X11_refreshSides_1__193 b)) (fun b => f18 195 b (nr_X11_refreshSides_1__195 b)) (fun b => f18 197 b (nr_X11_refreshSides_1__197 b)) (fun b => f18 199 b (nr_X11_refreshSides_1__199 b)) (fun b => f18 201 b (nr_X11_refreshSides_1__201 b)) (fun b => f18 203 b (nr_X11_refreshSides_1__203 b)) (fun b => f18 205 b (nr_X11_refreshSides_1__205 b)) (fun b => f18 207 b (nr_X11_refreshSides_1__207 b)) (fun b => f18 209 b (nr_X11_refreshSides_1__209 b)) (fun b => f18 211 b (nr_X11_refreshSides_1__211 b)) (fun b => f18 213 b (nr_X11_refreshSides_1__213 b)) (fun b => f18 215 b (nr_X11_refreshSides_1__215 b)) (fun b => f18 217 b (nr_X11_refreshSides_1__217 b)) (fun b => f18 219 b (nr_X11_refreshSides_1__219 b)) (f18 240 6 (by decide)) (fun b => f18 248 b (nr_X11_refreshSides_1__248 b))
  have r28 := y_B0.fr o11.1.1 (f18 211 0 (by decide)) (f18 213 0 (by decide))
  refine T_ite (fun h29 => ?_) (fun h29 => ?_)
  · exact sj_X11_page_1K_J40 hfu r0 s16 c17 f19 a1 a2 a3 0 (by omega) (by omega) (by omega) (by omega) o22
  · refine T_if1 (by decide +kernel) ?_
    refine T_let 240 (by decide +kernel) ?_
    refine T_if1 (by decide +kernel) ?_
    refine T_leq (fun x30 e31 => ?_)
    have u32 := CI_b c17 (k := 240) (j := 6) bd_240_6
    exact sj_X11_page_1K_J40 hfu r0 s16 c17 f19 a1 a2 a3 x30 (by omega) (by omega) (by omega) (by omega) o22
abbrev P_X11_narrow_1K (r0 : z_M) : z_V → z_M → Prop := fun v s' => z_CI s' ∧ z_Fr R_X11_narrow_1 r0 s' ∧ (y_V3 s') ∧ ((∃ x, v = vI x ∧ -2147483648 ≤ x ∧ x ≤ 2147483647) ∨ v = vX 1)
theorem sj_X11_narrow_1K_J60 {fu : Nat} (hfu : 8589934592 ≤ fu) (r0 s : z_M) (c : z_CI s) (f : z_Fr R_X11_narrow_1 r0 s) (a1 : Int) (a2 : Int) (a3 : Int) (b1 : -2147483648 ≤ a1 ∧ a1 ≤ 2147483647) (b2 : 12 ≤ a2 ∧ a2 ≤ 10000) (b3 : 12 ≤ a3 ∧ a3 ≤ 10000) (p0 : a2 ≤ a3) (p1 : y_V3 s) (M : Int) (pm : a3 - a2 < M) {r : z_M → Int → Int → z_O} {k : z_M → Int → z_O} (hr : ∀ (s' : z_M) (v2 : Int) (v3 : Int), z_CI s' → z_Fr R_X11_narrow_1 r0 s' → (12 ≤ v2 ∧ v2 ≤ 10000) → (12 ≤ v3 ∧ v3 ≤ 10000) → (v2 ≤ v3) → (y_V3 s') → (v3 - v2 < M) → z_T (r s' v2 v3) (P_X11_narrow_1K r0)) (hk : ∀ (s' : z_M) (v2 : Int), z_CI s' → z_Fr R_X11_narrow_1 r0 s' → (12 ≤ v2 ∧ v2 ≤ 10000) → (y_V3 s') → z_T (k s' v2) (P_X11_narrow_1K r0)) : z_T (fX11_narrow_J60 fu s 1 a1 a2 a3 r k) (P_X11_narrow_1K r0) := by
  refine T_of (fX11_narrow_J60.eq_1 ..) ?_
  exact hr s a2 a3 c f (by omega) (by omega) (by omega) p1 (by omega)
theorem sl_X11_narrow_1K_L24 {fu : Nat} (hfu : 8589934592 ≤ fu) (r0 : z_M) (a1 : Int) (b1 : -2147483648 ≤ a1 ∧ a1 ≤ 2147483647) {k : z_M → Int → z_O} (hk : ∀ (s' : z_M) (v2 : Int), z_CI s' → z_Fr R_X11_narrow_1 r0 s' → (12 ≤ v2 ∧ v2 ≤ 10000) → (y_V3 s') → z_T (k s' v2) (P_X11_narrow_1K r0)) : ∀ (F : Nat) (s : z_M) (a2 : Int) (a3 : Int), z_CI s → z_Fr R_X11_narrow_1 r0 s → (12 ≤ a2 ∧ a2 ≤ 10000) → (12 ≤ a3 ∧ a3 ≤ 10000) → (a2 ≤ a3) → (y_V3 s) → (a3 - a2 < (F : Int)) → z_T (fX11_narrow_L24 fu 1 a1 F s a2 a3 k) (P_X11_narrow_1K r0) := by
  intro F
  induction F with
  | zero =>
    intro s a2 a3 c f b2 b3 i0 i1 hm
    exfalso; omega
  | succ F ih =>
    intro s a2 a3 c f b2 b3 i0 i1 hm
    refine T_of (fX11_narrow_L24.eq_2 ..) ?_
    refine T_ite (fun h1 => ?_) (fun h1 => ?_)
    · exact hk s a2 c f (by omega) i1
    · refine T_leq (fun x2 e3 => ?_)
      have w4 := z_wb e3
      refine T_if1 (by omega) ?_
      refine T_leq (fun x5 e6 => ?_)
      have w7 := z_wb e6
      have w8 := z_td2 (e := x2)
      refine T_if1 (by decide +kernel) ?_
      refine T_let 296 (by decide +kernel) ?_
      refine T_if1 (by decide +kernel) ?_
      refine T_useI (sf_X8_pageCount_296 hfu s c x5 (by omega)) (fun v14 s9 hq => ?_)
      obtain ⟨c10, f11, ⟨x13, rfl, b15, b16⟩⟩ := hq
      refine T_vI ?_
      have f12 := z_Fr.tr (R := R_X11_narrow_1) f f11 (fun a b h => absurd h not_false)
      have r17 := y_V3.fr i1 (f11 1 16 (by decide)) (f11 1 17 (by decide)) (f11 191 16 (by decide)) (f11 6 6 (by decide)) (f11 191 17 (by decide)) (f11 191 18 (by decide)) (fun b => f11 3 b (nr_X8_pageCount_296__3 b)) (fun b => f11 8 b (nr_X8_pageCount_296__8 b)) (fun b => f11 12 b (nr_X8_pageCount_296__12 b)) (fun b => f11 14 b (nr_X8_pageCount_296__14 b)) (fun b => f11 16 b (nr_X8_pageCount_296__16 b)) (fun b => f11 18 b (nr_X8_pageCount_296__18 b)) (fun b => f11 193 b (nr_X8_pageCount_296__193 b)) (fun b => f11 195 b (nr_X8_pageCount_296__195 b)) (fun b => f11 197 b (nr_X8_pageCount_296__197 b)) (fun b => f11 199 b (nr_X8_pageCount_296__199 b)) (fun b => f11 201 b (nr_X8_pageCount_296__201 b)) (fun b => f11 203 b (nr_X8_pageCount_296__203 b)) (fun b => f11 205 b (nr_X8_pageCount_296__205 b)) (fun b => f11 207 b (nr_X8_pageCount_296__207 b)) (fun b => f11 209 b (nr_X8_pageCount_296__209 b)) (fun b => f11 211 b (nr_X8_pageCount_296__211 b)) (fun b => f11 213 b (nr_X8_pageCount_296__213 b)) (fun b => f11 215 b (nr_X8_pageCount_296__215 b)) (fun b => f11 217 b (nr_X8_pageCount_296__217 b)) (fun b => f11 219 b (nr_X8_pageCount_296__219 b)) (fun b => f11 222 b (nr_X8_pageCount_296__222 b)) (f11 240 6 (by decide)) (fun b => f11 248 b (nr_X8_pageCount_296__248 b))
      have r18 := y_B0.fr i1.1.1 (f11 211 0 (by decide)) (f11 213 0 (by decide))
      refine T_ite (fun h19 => ?_) (fun h19 => ?_)
      · refine T_leq (fun x20 e21 => ?_)
        have w22 := z_wb e21
        exact sj_X11_narrow_1K_J60 hfu r0 s9 c10 f12 a1 x20 a3 (by omega) (by omega) (by omega) (by omega) r17 (a3 - a2) (by omega) (fun s' v2 v3 c' f' w2 w3 z0 z1 pg => ih s' v2 v3 c' f' w2 w3 z0 z1 (by omega)) hk
      · exact sj_X11_narrow_1K_J60 hfu r0 s9 c10 f12 a1 a2 x5 (by omega) (by omega) (by omega) (by omega) r17 (a3 - a2) (by omega) (fun s' v2 v3 c' f' w2 w3 z0 z1 pg => ih s' v2 v3 c' f' w2 w3 z0 z1 (by omega)) hk
theorem sj_X11_narrow_1K_J75 {fu : Nat} (hfu : 8589934592 ≤ fu) (r0 s : z_M) (c : z_CI s) (f : z_Fr R_X11_narrow_1 r0 s) (t0 : Int) (d0 : -2147483648 ≤ t0 ∧ t0 ≤ 2147483647) (p0 : y_V3 s) : z_T (fX11_narrow_J75 fu s t0) (P_X11_narrow_1K r0) := by
  refine T_of (fX11_narrow_J75.eq_1 ..) ?_
  exact T_ret ⟨c, f, p0, Or.inl (⟨t0, rfl, by omega, by omega⟩)⟩
theorem sf_X11_narrow_1K {fu : Nat} (hfu : 8589934592 ≤ fu) (r0 : z_M) (c0 : z_CI r0) (a1 : Int) (b1 : -2147483648 ≤ a1 ∧ a1 ≤ 2147483647) (p0 : y_V3 r0) : z_T (fX11_narrow fu r0 1 a1) (P_X11_narrow_1K r0) := by
  refine T_of (fX11_narrow.eq_1 ..) ?_
  refine T_if1 (by decide +kernel) ?_
  refine T_nw ?_ (fun h1 h2 => ?_)
  · exact T_ret ⟨CI_up c0 bd_1_15 (z_wb rfl).1, z_Fr.upf (R := R_X11_narrow_1) z_Fr.rf (fun a b h => z_up_k h) (fun b h => z_up_j h) (Or.inr (Or.inr (Or.inr (Or.inr (Or.inr (Or.inr (Or.inr (Or.inr (Or.inl (⟨rfl, by decide⟩)))))))))), y_V3.fr p0 (z_up_j (by decide)) (z_up_j (by decide)) (z_up_k (by decide)) (z_up_k (by decide)) (z_up_k (by decide)) (z_up_k (by decide)) (fun _ => z_up_k (by decide)) (fun _ => z_up_k (by decide)) (fun _ => z_up_k (by decide)) (fun _ => z_up_k (by decide)) (fun _ => z_up_k (by decide)) (fun _ => z_up_k (by decide)) (fun _ => z_up_k (by decide)) (fun _ => z_up_k (by decide)) (fun _ => z_up_k (by decide)) (fun _ => z_up_k (by decide)) (fun _ => z_up_k (by decide)) (fun _ => z_up_k (by decide)) (fun _ => z_up_k (by decide)) (fun _ => z_up_k (by decide)) (fun _ => z_up_k (by decide)) (fun _ => z_up_k (by decide)) (fun _ => z_up_k (by decide)) (fun _ => z_up_k (by decide)) (fun _ => z_up_k (by decide)) (fun _ => z_up_k (by decide)) (fun _ => z_up_k (by decide)) (z_up_k (by decide)) (fun _ => z_up_k (by decide)), Or.inr rfl⟩
  refine T_if1 (by decide +kernel) ?_
  refine T_useN (sf_X11_refresh_1K hfu r0 c0 p0) (fun v8 s3 hq => ?_)
  obtain ⟨c4, f5, o9, o10, rfl⟩ := hq
  refine T_vN ?_
  have f6 := z_Fr.tr (R := R_X11_narrow_1) z_Fr.rf f5 rs_X11_refresh_1__X11_narrow_1
  refine T_if1 (by decide +kernel) ?_
  refine T_useN (sf_X11_refreshSides_1K hfu s3 c4 (y_V3.u o9 (Or.inr o10))) (fun v18 s13 hq => ?_)
  obtain ⟨c14, f15, o19, rfl⟩ := hq
  refine T_vN ?_
  have f16 := z_Fr.tr (R := R_X11_narrow_1) f6 f15 rs_X11_refreshSides_1__X11_narrow_1
  have r22 := y_U3.fr o9 (f15 191 16 (by decide)) (f15 6 6 (by decide)) (f15 191 17 (by decide)) (f15 191 18 (by decide)) (fun b => f15 3 b (nr_X11_refreshSides_1__3 b)) (fun b => f15 8 b (nr_X11_refreshSides_1__8 b)) (fun b => f15 12 b (nr_X11_refreshSides_1__12 b)) (fun b => f15 14 b (nr_X11_refreshSides_1__14 b)) (fun b => f15 16 b (nr_X11_refreshSides_1__16 b)) (fun b => f15 18 b (nr_X11_refreshSides_1__18 b)) (fun b => f15 193 b (nr_X11_refreshSides_1__193 b)) (fun b => f15 195 b (nr_X11_refreshSides_1__195 b)) (fun b => f15 197 b (nr_X11_refreshSides_1__197 b)) (fun b => f15 199 b (nr_X11_refreshSides_1__199 b)) (fun b => f15 201 b (nr_X11_refreshSides_1__201 b)) (fun b => f15 203 b (nr_X11_refreshSides_1__203 b)) (fun b => f15 205 b (nr_X11_refreshSides_1__205 b)) (fun b => f15 207 b (nr_X11_refreshSides_1__207 b)) (fun b => f15 209 b (nr_X11_refreshSides_1__209 b)) (fun b => f15 211 b (nr_X11_refreshSides_1__211 b)) (fun b => f15 213 b (nr_X11_refreshSides_1__213 b)) (fun b => f15 215 b (nr_X11_refreshSides_1__215 b)) (fun b => f15 217 b (nr_X11_refreshSides_1__217 b)) (fun b => f15 219 b (nr_X11_refreshSides_1__219 b)) (fun b => f15 222 b (nr_X11_refreshSides_1__222 b))
  have r23 := y_SA.fr o10 (f15 191 16 (by decide)) (f15 6 6 (by decide)) (f15 191 17 (by decide)) (f15 191 18 (by decide)) (fun b => f15 3 b (nr_X11_refreshSides_1__3 b)) (fun b => f15 8 b (nr_X11_refreshSides_1__8 b)) (fun b => f15 12 b (nr_X11_refreshSides_1__12 b)) (fun b => f15 14 b (nr_X11_refreshSides_1__14 b)) (fun b => f15 16 b (nr_X11_refreshSides_1__16 b)) (fun b => f15 18 b (nr_X11_refreshSides_1__18 b)) (fun b => f15 193 b (nr_X11_refreshSides_1__193 b)) (fun b => f15 195 b (nr_X11_refreshSides_1__195 b)) (fun b => f15 197 b (nr_X11_refreshSides_1__197 b)) (fun b => f15 199 b (nr_X11_refreshSides_1__199 b)) (fun b => f15 201 b (nr_X11_refreshSides_1__201 b)) (fun b => f15 203 b (nr_X11_refreshSides_1__203 b)) (fun b => f15 205 b (nr_X11_refreshSides_1__205 b)) (fun b => f15 207 b (nr_X11_refreshSides_1__207 b)) (fun b => f15 209 b (nr_X11_refreshSides_1__209 b)) (fun b => f15 211 b (nr_X11_refreshSides_1__211 b)) (fun b => f15 213 b (nr_X11_refreshSides_1__213 b)) (fun b => f15 215 b (nr_X11_refreshSides_1__215 b)) (fun b => f15 217 b (nr_X11_refreshSides_1__217 b)) (fun b => f15 219 b (nr_X11_refreshSides_1__219 b)) (f15 240 6 (by decide)) (fun b => f15 248 b (nr_X11_refreshSides_1__248 b))
  have r24 := y_B0.fr o9.1.1 (f15 211 0 (by decide)) (f15 213 0 (by decide))
  refine sl_X11_narrow_1K_L24 hfu r0 a1 (by omega) (fun s25 y28 c26 f27 b29 g30 => ?_) fu s13 12 10000 c14 f16 (by omega) (by omega) (by omega) o19 (by omega)
  refine T_ite (fun h31 => ?_) (fun h31 => ?_)
  · exact sj_X11_narrow_1K_J75 hfu r0 s25 c26 f27 y28 (by omega) g30
  · exact sj_X11_narrow_1K_J75 hfu r0 s25 c26 f27 (-1) (by omega) g30
abbrev P_X11_status_1K (r0 : z_M) : z_V → z_M → Prop := fun v s' => z_CI s' ∧ z_Fr R_X11_status_1 r0 s' ∧ (y_V3 s') ∧ (∃ x, v = vI x ∧ -2147483648 ≤ x ∧ x ≤ 2147483647)
theorem sj_X11_status_1K_J24 {fu : Nat} (hfu : 8589934592 ≤ fu) (r0 s : z_M) (c : z_CI s) (f : z_Fr R_X11_status_1 r0 s) (t0 : Int) (d0 : -2147483648 ≤ t0 ∧ t0 ≤ 2147483647) (p0 : y_V3 s) : z_T (fX11_status_J24 fu s t0) (P_X11_status_1K r0) := by
  refine T_of (fX11_status_J24.eq_1 ..) ?_
  have u1 := CI_b c (k := 1) (j := 14) bd_1_14
  have u2 := CI_b c (k := 1) (j := 15) bd_1_15
  exact T_ret ⟨c, f, p0, ⟨t0, rfl, by omega, by omega⟩⟩
theorem sf_X11_status_1K {fu : Nat} (hfu : 8589934592 ≤ fu) (r0 : z_M) (c0 : z_CI r0) (a1 : Int) (b1 : -2147483648 ≤ a1 ∧ a1 ≤ 2147483647) (p0 : y_V3 r0) : z_T (fX11_status fu r0 1 a1) (P_X11_status_1K r0) := by
  refine T_of (fX11_status.eq_1 ..) ?_
  refine T_ite (fun h1 => ?_) (fun h1 => ?_)
  · refine T_ite (fun h2 => ?_) (fun h2 => ?_)
    · exact sj_X11_status_1K_J24 hfu r0 r0 c0 z_Fr.rf (-1) (by omega) p0
    · refine T_if1 (by decide +kernel) ?_
      refine T_leq (fun x3 e4 => ?_)
      have u5 := CI_b c0 (k := 1) (j := 15) bd_1_15
      exact sj_X11_status_1K_J24 hfu r0 r0 c0 z_Fr.rf x3 (by omega) p0
  · refine T_if1 (by decide +kernel) ?_
    refine T_leq (fun x6 e7 => ?_)
    have u8 := CI_b c0 (k := 1) (j := 14) bd_1_14
    exact sj_X11_status_1K_J24 hfu r0 r0 c0 z_Fr.rf x6 (by omega) p0
abbrev P_X11_cut_1K (r0 : z_M) : z_V → z_M → Prop := fun v s' => z_CI s' ∧ z_Fr R_X11_cut_1 r0 s' ∧ (y_V3 s') ∧ ((∃ x, v = vI x ∧ -2147483648 ≤ x ∧ x ≤ 2147483647) ∨ v = vX 0 ∨ v = vX 1)
theorem nr_X9_drop_6__222 (b : Int) : ¬ R_X9_drop_6 222 b := by
  unfold R_X9_drop_6; omega
theorem nr_X9_drop_6__248 (b : Int) : ¬ R_X9_drop_6 248 b := by
  unfold R_X9_drop_6; omega
set_option maxHeartbeats 4000000 in
theorem sf_X11_cut_1K {fu : Nat} (hfu : 8589934592 ≤ fu) (r0 : z_M) (c0 : z_CI r0) (a1 : Int) (a2 : Int) (b1 : -2147483648 ≤ a1 ∧ a1 ≤ 2147483647) (b2 : -2147483648 ≤ a2 ∧ a2 ≤ 2147483647) (p0 : y_V3 r0) : z_T (fX11_cut fu r0 1 a1 a2) (P_X11_cut_1K r0) := by
  refine T_of (fX11_cut.eq_1 ..) ?_
  refine T_if1 (by decide +kernel) ?_
  refine T_useN (sf_X11_refresh_1K hfu r0 c0 p0) (fun v6 s1 hq => ?_)
  obtain ⟨c2, f3, o7, o8, rfl⟩ := hq
  refine T_vN ?_
  have f4 := z_Fr.tr (R := R_X11_cut_1) z_Fr.rf f3 rs_X11_refresh_1__X11_cut_1
  have u11 := CI_b c2 (k := 191) (j := 16) bd_191_16
  refine T_if1 (by decide +kernel) ?_
  refine T_let 191 (by decide +kernel) ?_
  refine T_if1 (by decide +kernel) ?_
  refine T_leq (fun x12 e13 => ?_)
  have u14 := CI_b c2 (k := 191) (j := 16) bd_191_16
  refine T_if1 (by decide +kernel) ?_
  refine T_ne ?_ (fun h15 h16 => ?_)
  · exact T_ret ⟨CI_up c2 bd_1_14 (z_wb rfl).1, z_Fr.upf (R := R_X11_cut_1) f4 (fun a b h => z_up_k h) (fun b h => z_up_j h) (Or.inr (Or.inr (Or.inr (Or.inr (Or.inr (Or.inr (Or.inr (Or.inr (Or.inr (Or.inl (⟨rfl, by decide⟩))))))))))), y_V3.u (y_U3.fr o7 (z_up_k (by decide)) (z_up_k (by decide)) (z_up_k (by decide)) (z_up_k (by decide)) (fun _ => z_up_k (by decide)) (fun _ => z_up_k (by decide)) (fun _ => z_up_k (by decide)) (fun _ => z_up_k (by decide)) (fun _ => z_up_k (by decide)) (fun _ => z_up_k (by decide)) (fun _ => z_up_k (by decide)) (fun _ => z_up_k (by decide)) (fun _ => z_up_k (by decide)) (fun _ => z_up_k (by decide)) (fun _ => z_up_k (by decide)) (fun _ => z_up_k (by decide)) (fun _ => z_up_k (by decide)) (fun _ => z_up_k (by decide)) (fun _ => z_up_k (by decide)) (fun _ => z_up_k (by decide)) (fun _ => z_up_k (by decide)) (fun _ => z_up_k (by decide)) (fun _ => z_up_k (by decide)) (fun _ => z_up_k (by decide)) (fun _ => z_up_k (by decide))) (y_L3.fr (show y_L3 s1 from (Or.inr o8)) (z_up_j (by decide)) (z_up_k (by decide)) (z_up_k (by decide)) (z_up_k (by decide)) (z_up_k (by decide)) (fun _ => z_up_k (by decide)) (fun _ => z_up_k (by decide)) (fun _ => z_up_k (by decide)) (fun _ => z_up_k (by decide)) (fun _ => z_up_k (by decide)) (fun _ => z_up_k (by decide)) (fun _ => z_up_k (by decide)) (fun _ => z_up_k (by decide)) (fun _ => z_up_k (by decide)) (fun _ => z_up_k (by decide)) (fun _ => z_up_k (by decide)) (fun _ => z_up_k (by decide)) (fun _ => z_up_k (by decide)) (fun _ => z_up_k (by decide)) (fun _ => z_up_k (by decide)) (fun _ => z_up_k (by decide)) (fun _ => z_up_k (by decide)) (fun _ => z_up_k (by decide)) (fun _ => z_up_k (by decide)) (fun _ => z_up_k (by decide)) (z_up_k (by decide)) (fun _ => z_up_k (by decide))), Or.inr (Or.inl rfl)⟩
  refine T_if1 (by decide +kernel) ?_
  refine T_let 191 (by decide +kernel) ?_
  refine T_if1 (by decide +kernel) ?_
  refine T_leq (fun x17 e18 => ?_)
  have u19 := CI_b c2 (k := 191) (j := 16) bd_191_16
  refine T_if1 (by decide +kernel) ?_
  refine T_ne ?_ (fun h20 h21 => ?_)
  · exact T_ret ⟨CI_up c2 bd_1_14 (z_wb rfl).1, z_Fr.upf (R := R_X11_cut_1) f4 (fun a b h => z_up_k h) (fun b h => z_up_j h) (Or.inr (Or.inr (Or.inr (Or.inr (Or.inr (Or.inr (Or.inr (Or.inr (Or.inr (Or.inl (⟨rfl, by decide⟩))))))))))), y_V3.u (y_U3.fr o7 (z_up_k (by decide)) (z_up_k (by decide)) (z_up_k (by decide)) (z_up_k (by decide)) (fun _ => z_up_k (by decide)) (fun _ => z_up_k (by decide)) (fun _ => z_up_k (by decide)) (fun _ => z_up_k (by decide)) (fun _ => z_up_k (by decide)) (fun _ => z_up_k (by decide)) (fun _ => z_up_k (by decide)) (fun _ => z_up_k (by decide)) (fun _ => z_up_k (by decide)) (fun _ => z_up_k (by decide)) (fun _ => z_up_k (by decide)) (fun _ => z_up_k (by decide)) (fun _ => z_up_k (by decide)) (fun _ => z_up_k (by decide)) (fun _ => z_up_k (by decide)) (fun _ => z_up_k (by decide)) (fun _ => z_up_k (by decide)) (fun _ => z_up_k (by decide)) (fun _ => z_up_k (by decide)) (fun _ => z_up_k (by decide)) (fun _ => z_up_k (by decide))) (y_L3.fr (show y_L3 s1 from (Or.inr o8)) (z_up_j (by decide)) (z_up_k (by decide)) (z_up_k (by decide)) (z_up_k (by decide)) (z_up_k (by decide)) (fun _ => z_up_k (by decide)) (fun _ => z_up_k (by decide)) (fun _ => z_up_k (by decide)) (fun _ => z_up_k (by decide)) (fun _ => z_up_k (by decide)) (fun _ => z_up_k (by decide)) (fun _ => z_up_k (by decide)) (fun _ => z_up_k (by decide)) (fun _ => z_up_k (by decide)) (fun _ => z_up_k (by decide)) (fun _ => z_up_k (by decide)) (fun _ => z_up_k (by decide)) (fun _ => z_up_k (by decide)) (fun _ => z_up_k (by decide)) (fun _ => z_up_k (by decide)) (fun _ => z_up_k (by decide)) (fun _ => z_up_k (by decide)) (fun _ => z_up_k (by decide)) (fun _ => z_up_k (by decide)) (fun _ => z_up_k (by decide)) (z_up_k (by decide)) (fun _ => z_up_k (by decide))), Or.inr (Or.inl rfl)⟩
  refine T_if1 (by decide +kernel) ?_
  refine T_let 191 (by decide +kernel) ?_
  refine T_if1 (by decide +kernel) ?_
  refine T_leq (fun x22 e23 => ?_)
  have u24 := CI_b c2 (k := 191) (j := 16) bd_191_16
  refine T_if1 (by decide +kernel) ?_
  refine T_nw ?_ (fun h25 h26 => ?_)
  · exact T_ret ⟨CI_up c2 bd_1_15 (z_wb rfl).1, z_Fr.upf (R := R_X11_cut_1) f4 (fun a b h => z_up_k h) (fun b h => z_up_j h) (Or.inr (Or.inr (Or.inr (Or.inr (Or.inr (Or.inr (Or.inr (Or.inr (Or.inr (Or.inl (⟨rfl, by decide⟩))))))))))), y_V3.u (y_U3.fr o7 (z_up_k (by decide)) (z_up_k (by decide)) (z_up_k (by decide)) (z_up_k (by decide)) (fun _ => z_up_k (by decide)) (fun _ => z_up_k (by decide)) (fun _ => z_up_k (by decide)) (fun _ => z_up_k (by decide)) (fun _ => z_up_k (by decide)) (fun _ => z_up_k (by decide)) (fun _ => z_up_k (by decide)) (fun _ => z_up_k (by decide)) (fun _ => z_up_k (by decide)) (fun _ => z_up_k (by decide)) (fun _ => z_up_k (by decide)) (fun _ => z_up_k (by decide)) (fun _ => z_up_k (by decide)) (fun _ => z_up_k (by decide)) (fun _ => z_up_k (by decide)) (fun _ => z_up_k (by decide)) (fun _ => z_up_k (by decide)) (fun _ => z_up_k (by decide)) (fun _ => z_up_k (by decide)) (fun _ => z_up_k (by decide)) (fun _ => z_up_k (by decide))) (y_L3.fr (show y_L3 s1 from (Or.inr o8)) (z_up_j (by decide)) (z_up_k (by decide)) (z_up_k (by decide)) (z_up_k (by decide)) (z_up_k (by decide)) (fun _ => z_up_k (by decide)) (fun _ => z_up_k (by decide)) (fun _ => z_up_k (by decide)) (fun _ => z_up_k (by decide)) (fun _ => z_up_k (by decide)) (fun _ => z_up_k (by decide)) (fun _ => z_up_k (by decide)) (fun _ => z_up_k (by decide)) (fun _ => z_up_k (by decide)) (fun _ => z_up_k (by decide)) (fun _ => z_up_k (by decide)) (fun _ => z_up_k (by decide)) (fun _ => z_up_k (by decide)) (fun _ => z_up_k (by decide)) (fun _ => z_up_k (by decide)) (fun _ => z_up_k (by decide)) (fun _ => z_up_k (by decide)) (fun _ => z_up_k (by decide)) (fun _ => z_up_k (by decide)) (fun _ => z_up_k (by decide)) (z_up_k (by decide)) (fun _ => z_up_k (by decide))), Or.inr (Or.inr rfl)⟩
  refine T_if1 (by decide +kernel) ?_
  refine T_let 33 (by decide +kernel) ?_
  refine T_if1 (by decide +kernel) ?_
  refine T_let 6 (by decide +kernel) ?_
  refine T_if1 (by decide +kernel) ?_
  refine T_useN (sf_X2_keep_33_6 hfu s1 c2) (fun v32 s27 hq => ?_)
  obtain ⟨c28, f29, rfl⟩ := hq
  refine T_vN ?_
  have f30 := z_Fr.tr (R := R_X11_cut_1) f4 f29 rs_X2_keep_33_6__X11_cut_1
  have t35 : s27 191 16 = s1 191 16 := f29 191 16 (by decide)
  have r36 := y_U3.fr o7 (f29 191 16 (by decide)) (f29 6 6 (by decide)) (f29 191 17 (by decide)) (f29 191 18 (by decide)) (fun b => f29 3 b (nr_X2_keep_33_6__3 b)) (fun b => f29 8 b (nr_X2_keep_33_6__8 b)) (fun b => f29 12 b (nr_X2_keep_33_6__12 b)) (fun b => f29 14 b (nr_X2_keep_33_6__14 b)) (fun b => f29 16 b (nr_X2_keep_33_6__16 b)) (fun b => f29 18 b (nr_X2_keep_33_6__18 b)) (fun b => f29 193 b (nr_X2_keep_33_6__193 b)) (fun b => f29 195 b (nr_X2_keep_33_6__195 b)) (fun b => f29 197 b (nr_X2_keep_33_6__197 b)) (fun b => f29 199 b (nr_X2_keep_33_6__199 b)) (fun b => f29 201 b (nr_X2_keep_33_6__201 b)) (fun b => f29 203 b (nr_X2_keep_33_6__203 b)) (fun b => f29 205 b (nr_X2_keep_33_6__205 b)) (fun b => f29 207 b (nr_X2_keep_33_6__207 b)) (fun b => f29 209 b (nr_X2_keep_33_6__209 b)) (fun b => f29 211 b (nr_X2_keep_33_6__211 b)) (fun b => f29 213 b (nr_X2_keep_33_6__213 b)) (fun b => f29 215 b (nr_X2_keep_33_6__215 b)) (fun b => f29 217 b (nr_X2_keep_33_6__217 b)) (fun b => f29 219 b (nr_X2_keep_33_6__219 b)) (fun b => f29 222 b (nr_X2_keep_33_6__222 b))
  have r37 := y_SA.fr o8 (f29 191 16 (by decide)) (f29 6 6 (by decide)) (f29 191 17 (by decide)) (f29 191 18 (by decide)) (fun b => f29 3 b (nr_X2_keep_33_6__3 b)) (fun b => f29 8 b (nr_X2_keep_33_6__8 b)) (fun b => f29 12 b (nr_X2_keep_33_6__12 b)) (fun b => f29 14 b (nr_X2_keep_33_6__14 b)) (fun b => f29 16 b (nr_X2_keep_33_6__16 b)) (fun b => f29 18 b (nr_X2_keep_33_6__18 b)) (fun b => f29 193 b (nr_X2_keep_33_6__193 b)) (fun b => f29 195 b (nr_X2_keep_33_6__195 b)) (fun b => f29 197 b (nr_X2_keep_33_6__197 b)) (fun b => f29 199 b (nr_X2_keep_33_6__199 b)) (fun b => f29 201 b (nr_X2_keep_33_6__201 b)) (fun b => f29 203 b (nr_X2_keep_33_6__203 b)) (fun b => f29 205 b (nr_X2_keep_33_6__205 b)) (fun b => f29 207 b (nr_X2_keep_33_6__207 b)) (fun b => f29 209 b (nr_X2_keep_33_6__209 b)) (fun b => f29 211 b (nr_X2_keep_33_6__211 b)) (fun b => f29 213 b (nr_X2_keep_33_6__213 b)) (fun b => f29 215 b (nr_X2_keep_33_6__215 b)) (fun b => f29 217 b (nr_X2_keep_33_6__217 b)) (fun b => f29 219 b (nr_X2_keep_33_6__219 b)) (f29 240 6 (by decide)) (fun b => f29 248 b (nr_X2_keep_33_6__248 b))
  have r38 := y_B0.fr o7.1.1 (f29 211 0 (by decide)) (f29 213 0 (by decide))
  refine T_if1 (by decide +kernel) ?_
  refine T_let 6 (by decide +kernel) ?_
  refine T_if1 (by decide +kernel) ?_
  refine T_let 191 (by decide +kernel) ?_
  refine T_if1 (by decide +kernel) ?_
  refine T_let 194 (by decide +kernel) ?_
  refine T_if1 (by decide +kernel) ?_
  refine T_get (by decide +kernel) (c := 195) (by decide +kernel) bdr_195 (by decide) c28 (fun x39 e40 b41 w42 => ?_)
  have l43 : z_ln 194 = 200 := by decide +kernel
  refine T_if1 (by decide +kernel) ?_
  refine T_let 191 (by decide +kernel) ?_
  refine T_if1 (by decide +kernel) ?_
  refine T_let 194 (by decide +kernel) ?_
  refine T_if1 (by decide +kernel) ?_
  refine T_get (by decide +kernel) (c := 195) (by decide +kernel) bdr_195 (by decide) c28 (fun x44 e45 b46 w47 => ?_)
  have l48 : z_ln 194 = 200 := by decide +kernel
  refine T_if1 (by decide +kernel) ?_
  refine T_let 191 (by decide +kernel) ?_
  refine T_if1 (by decide +kernel) ?_
  refine T_let 196 (by decide +kernel) ?_
  refine T_if1 (by decide +kernel) ?_
  refine T_get (by decide +kernel) (c := 197) (by decide +kernel) bdr_197 (by decide) c28 (fun x49 e50 b51 w52 => ?_)
  have l53 : z_ln 196 = 200 := by decide +kernel
  refine T_leq (fun x54 e55 => ?_)
  have w56 := z_wb e55
  refine T_if1 (by decide +kernel) ?_
  have gd := CI_b c28 (k := 6) (j := 6) bd_6_6
  have ga := r36.1.2.1.1.1 a1 (by omega) (by omega)
  have gb := r36.1.2.1.1.1 a2 (by omega) (by omega)
  have gc := r36.1.2.1.1.2 a1 a2 (by omega) (by omega) (by omega)
  have qa : x39 = s27 195 a1 := by rw [← e40, z_rg_in ⟨by omega, by rw [l43]; omega⟩, show z_gr 194 0 = 195 by decide +kernel]
  have qb : x44 = s27 195 a2 := by rw [← e45, z_rg_in ⟨by omega, by rw [l48]; omega⟩, show z_gr 194 0 = 195 by decide +kernel]
  have qc : x49 = s27 197 a2 := by rw [← e50, z_rg_in ⟨by omega, by rw [l53]; omega⟩, show z_gr 196 0 = 197 by decide +kernel]
  refine T_useN (sf_X9_drop_6 hfu s27 c28 x39 x54 (by omega) (by omega) (by omega) (by omega) (by omega)) (fun v62 s57 hq => ?_)
  obtain ⟨c58, f59, rfl⟩ := hq
  refine T_vN ?_
  have f60 := z_Fr.tr (R := R_X11_cut_1) f30 f59 rs_X9_drop_6__X11_cut_1
  have t65 : s57 191 16 = s27 191 16 := f59 191 16 (by decide)
  have r66 := y_B0.fr r38 (f59 211 0 (by decide)) (f59 213 0 (by decide))
  refine T_if1 ⟨(by decide +kernel), by unfold z_bl; omega⟩ ?_
  refine T_upg c58 bd_1_16 (by omega) (fun s67 c68 g70 g71 e72 => ?_)
  have f69 := z_Fr.upf (R := R_X11_cut_1) f60 g70 g71 (Or.inr (Or.inr (Or.inr (Or.inr (Or.inr (Or.inr (Or.inr (Or.inr (Or.inr (Or.inl (⟨rfl, by decide⟩)))))))))))
  have t73 : s67 191 16 = s57 191 16 := g70 191 16 (by decide)
  have r74 := y_B0.fr r66 (g70 211 0 (by decide)) (g70 213 0 (by decide))
  refine T_if1 (by decide +kernel) ?_
  refine T_useN (sf_X11_refresh_1K hfu s67 c68 (y_V3.z r74 (by omega))) (fun v80 s75 hq => ?_)
  obtain ⟨c76, f77, o81, o82, rfl⟩ := hq
  refine T_vN ?_
  have f78 := z_Fr.tr (R := R_X11_cut_1) f69 f77 rs_X11_refresh_1__X11_cut_1
  have u85 := CI_b c76 (k := 191) (j := 16) bd_191_16
  refine T_if1 (by decide +kernel) ?_
  refine T_let 191 (by decide +kernel) ?_
  refine T_if1 (by decide +kernel) ?_
  refine T_leq (fun x86 e87 => ?_)
  have u88 := CI_b c76 (k := 191) (j := 16) bd_191_16
  exact T_ret ⟨c76, f78, (y_V3.u o81 (Or.inr o82)), Or.inl (⟨x86, rfl, by omega, by omega⟩)⟩
