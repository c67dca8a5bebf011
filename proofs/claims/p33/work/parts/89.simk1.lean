/-! the class's functions once more: what is kept of LONG stays right (by program, wip/tool/mksimk.py) -/
abbrev P_X10_build_191K (r0 : z_M) : z_V → z_M → Prop := fun v s' => z_CI s' ∧ z_Fr R_X10_build_191 r0 s' ∧ (y_U2 s') ∧ (v = vN)
theorem sf_X10_build_191K {fu : Nat} (hfu : 8589934592 ≤ fu) (r0 : z_M) (c0 : z_CI r0) (p0 : y_B0 r0) : z_T (fX10_build fu r0 191) (P_X10_build_191K r0) := sf_X10_build_191D hfu r0 c0 p0
abbrev P_X5_lengthOf_220K (r0 : z_M) : z_V → z_M → Prop := fun v s' => z_CI s' ∧ z_Fr R_X5_lengthOf_220 r0 s' ∧ (y_U3 s') ∧ (∃ x, v = vI x ∧ -2147483648 ≤ x ∧ x ≤ 2147483647)
theorem sf_X5_lengthOf_220K {fu : Nat} (hfu : 8589934592 ≤ fu) (r0 : z_M) (c0 : z_CI r0) (a1 : Int) (a2 : Int) (b1 : 0 ≤ a1 ∧ a1 ≤ 200) (b2 : (-1) ≤ a2 ∧ a2 ≤ 200) (p0 : y_U3 r0) (p1 : y_AR r0 a1 a2) : z_T (fX5_lengthOf fu r0 220 a1 a2) (P_X5_lengthOf_220K r0) := by
  have o := sf_X5_lengthOf_220 hfu r0 c0 a1 a2 b1 b2
  by_cases ok : y_OKc r0
  · have r := p1 ok
    refine T_mono (T_and o (e_lengthOf hfu ok.CU (p0.2 ok) ok.2.2.2.2.1 ⟨r.1, r.2.1⟩ r.2.2)) (fun v s h => ?_)
    obtain ⟨⟨c, fr, e⟩, _, kn, _⟩ := h
    exact ⟨c, fr, p0.of (fun x b q => fr x b (by unfold R_X5_lengthOf_220; omega)) (fun _ => kn), e⟩
  · refine T_mono o (fun v s h => ?_)
    obtain ⟨c, fr, e⟩ := h
    exact ⟨c, fr, p0.of (fun x b q => fr x b (by unfold R_X5_lengthOf_220; omega)) (fun w => absurd w ok), e⟩
abbrev P_X5_forget_220K (r0 : z_M) : z_V → z_M → Prop := fun v s' => z_CI s' ∧ z_Fr R_X5_forget_220 r0 s' ∧ (y_U3 s') ∧ (v = vN)
theorem sf_X5_forget_220K {fu : Nat} (hfu : 8589934592 ≤ fu) (r0 : z_M) (c0 : z_CI r0) (p0 : y_U2 r0) : z_T (fX5_forget fu r0 220) (P_X5_forget_220K r0) := by
  have o := sf_X5_forget_220 hfu r0 c0
  refine T_mono (T_and o (e_forget hfu (D := y_dc r0) (CI_b c0 (k := 191) (j := 16) bd_191_16q))) (fun v s h => ?_)
  obtain ⟨⟨c, fr, e⟩, _, kn, f⟩ := h
  refine ⟨c, fr, ⟨p0.lo (fun x b q => f x b (by omega)), fun _ => ?_⟩, e⟩
  rw [y_dc.fr (f _ _ (by decide)) (f _ _ (by decide)) (fun x b q => f x b (by omega))]
  exact kn
abbrev P_X1_go_240K (r0 : z_M) : z_V → z_M → Prop := fun v s' => z_CI s' ∧ z_Fr R_X1_go_240 r0 s' ∧ (y_U3 s') ∧ (y_SV 240 s') ∧ (v = vN)
theorem sf_X1_go_240K {fu : Nat} (hfu : 8589934592 ≤ fu) (r0 : z_M) (c0 : z_CI r0) (a1 : Int) (a2 : Int) (b1 : -2147483648 ≤ a1 ∧ a1 ≤ 2147483647) (b2 : -2147483648 ≤ a2 ∧ a2 ≤ 2147483647) (p0 : y_U3 r0) (p1 : y_LNr r0 a1) : z_T (fX1_go fu r0 240 a1 a2) (P_X1_go_240K r0) := by
  have o := sf_X1_go_240 hfu r0 c0 a1 a2 b1 b2
  refine T_mono (T_and o (e_goK hfu (Or.inl rfl) p0 p1 (T_mono o (fun v s h x b q => h.2.1 x b (by unfold R_X1_go_240; omega))))) (fun v s h => ?_)
  obtain ⟨⟨c, fr, e⟩, u, sv⟩ := h
  exact ⟨c, fr, u, sv, e⟩
abbrev P_X1_go_249K (r0 : z_M) : z_V → z_M → Prop := fun v s' => z_CI s' ∧ z_Fr R_X1_go_249 r0 s' ∧ (y_U3 s') ∧ (y_SV 249 s') ∧ (v = vN)
theorem sf_X1_go_249K {fu : Nat} (hfu : 8589934592 ≤ fu) (r0 : z_M) (c0 : z_CI r0) (a1 : Int) (a2 : Int) (b1 : -2147483648 ≤ a1 ∧ a1 ≤ 2147483647) (b2 : -2147483648 ≤ a2 ∧ a2 ≤ 2147483647) (p0 : y_U3 r0) (p1 : y_LNr r0 a1) : z_T (fX1_go fu r0 249 a1 a2) (P_X1_go_249K r0) := by
  have o := sf_X1_go_249 hfu r0 c0 a1 a2 b1 b2
  refine T_mono (T_and o (e_goK hfu (Or.inr rfl) p0 p1 (T_mono o (fun v s h x b q => h.2.1 x b (by unfold R_X1_go_249; omega))))) (fun v s h => ?_)
  obtain ⟨⟨c, fr, e⟩, u, sv⟩ := h
  exact ⟨c, fr, u, sv, e⟩
abbrev P_X3_measureLine_258K (r0 : z_M) : z_V → z_M → Prop := fun v s' => z_CI s' ∧ z_Fr R_X3_measureLine_258 r0 s' ∧ (y_U3 s') ∧ (v = vN)
theorem nr_X5_lengthOf_220__248 (b : Int) : ¬ R_X5_lengthOf_220 248 b := by
  unfold R_X5_lengthOf_220; omega
theorem nr_X5_trim_220__3 (b : Int) : ¬ R_X5_trim_220 3 b := by
  unfold R_X5_trim_220; omega
theorem nr_X5_trim_220__8 (b : Int) : ¬ R_X5_trim_220 8 b := by
  unfold R_X5_trim_220; omega
theorem nr_X5_trim_220__12 (b : Int) : ¬ R_X5_trim_220 12 b := by
  unfold R_X5_trim_220; omega
theorem nr_X5_trim_220__14 (b : Int) : ¬ R_X5_trim_220 14 b := by
  unfold R_X5_trim_220; omega
theorem nr_X5_trim_220__16 (b : Int) : ¬ R_X5_trim_220 16 b := by
  unfold R_X5_trim_220; omega
theorem nr_X5_trim_220__18 (b : Int) : ¬ R_X5_trim_220 18 b := by
  unfold R_X5_trim_220; omega
theorem nr_X5_trim_220__193 (b : Int) : ¬ R_X5_trim_220 193 b := by
  unfold R_X5_trim_220; omega
theorem nr_X5_trim_220__195 (b : Int) : ¬ R_X5_trim_220 195 b := by
  unfold R_X5_trim_220; omega
theorem nr_X5_trim_220__197 (b : Int) : ¬ R_X5_trim_220 197 b := by
  unfold R_X5_trim_220; omega
theorem nr_X5_trim_220__199 (b : Int) : ¬ R_X5_trim_220 199 b := by
  unfold R_X5_trim_220; omega
theorem nr_X5_trim_220__201 (b : Int) : ¬ R_X5_trim_220 201 b := by
  unfold R_X5_trim_220; omega
theorem nr_X5_trim_220__203 (b : Int) : ¬ R_X5_trim_220 203 b := by
  unfold R_X5_trim_220; omega
theorem nr_X5_trim_220__205 (b : Int) : ¬ R_X5_trim_220 205 b := by
  unfold R_X5_trim_220; omega
theorem nr_X5_trim_220__207 (b : Int) : ¬ R_X5_trim_220 207 b := by
  unfold R_X5_trim_220; omega
theorem nr_X5_trim_220__209 (b : Int) : ¬ R_X5_trim_220 209 b := by
  unfold R_X5_trim_220; omega
theorem nr_X5_trim_220__211 (b : Int) : ¬ R_X5_trim_220 211 b := by
  unfold R_X5_trim_220; omega
theorem nr_X5_trim_220__213 (b : Int) : ¬ R_X5_trim_220 213 b := by
  unfold R_X5_trim_220; omega
theorem nr_X5_trim_220__215 (b : Int) : ¬ R_X5_trim_220 215 b := by
  unfold R_X5_trim_220; omega
theorem nr_X5_trim_220__217 (b : Int) : ¬ R_X5_trim_220 217 b := by
  unfold R_X5_trim_220; omega
theorem nr_X5_trim_220__219 (b : Int) : ¬ R_X5_trim_220 219 b := by
  unfold R_X5_trim_220; omega
theorem nr_X5_trim_220__248 (b : Int) : ¬ R_X5_trim_220 248 b := by
  unfold R_X5_trim_220; omega
theorem nr_X5_trim_220__222 (b : Int) : ¬ R_X5_trim_220 222 b := by
  unfold R_X5_trim_220; omega
theorem nr_X5_hangsOut_220__3 (b : Int) : ¬ R_X5_hangsOut_220 3 b := not_false
theorem nr_X5_hangsOut_220__8 (b : Int) : ¬ R_X5_hangsOut_220 8 b := not_false
theorem nr_X5_hangsOut_220__12 (b : Int) : ¬ R_X5_hangsOut_220 12 b := not_false
theorem nr_X5_hangsOut_220__14 (b : Int) : ¬ R_X5_hangsOut_220 14 b := not_false
theorem nr_X5_hangsOut_220__16 (b : Int) : ¬ R_X5_hangsOut_220 16 b := not_false
theorem nr_X5_hangsOut_220__18 (b : Int) : ¬ R_X5_hangsOut_220 18 b := not_false
theorem nr_X5_hangsOut_220__193 (b : Int) : ¬ R_X5_hangsOut_220 193 b := not_false
theorem nr_X5_hangsOut_220__195 (b : Int) : ¬ R_X5_hangsOut_220 195 b := not_false
theorem nr_X5_hangsOut_220__197 (b : Int) : ¬ R_X5_hangsOut_220 197 b := not_false
theorem nr_X5_hangsOut_220__199 (b : Int) : ¬ R_X5_hangsOut_220 199 b := not_false
theorem nr_X5_hangsOut_220__201 (b : Int) : ¬ R_X5_hangsOut_220 201 b := not_false
theorem nr_X5_hangsOut_220__203 (b : Int) : ¬ R_X5_hangsOut_220 203 b := not_false
theorem nr_X5_hangsOut_220__205 (b : Int) : ¬ R_X5_hangsOut_220 205 b := not_false
theorem nr_X5_hangsOut_220__207 (b : Int) : ¬ R_X5_hangsOut_220 207 b := not_false
theorem nr_X5_hangsOut_220__209 (b : Int) : ¬ R_X5_hangsOut_220 209 b := not_false
theorem nr_X5_hangsOut_220__211 (b : Int) : ¬ R_X5_hangsOut_220 211 b := not_false
theorem nr_X5_hangsOut_220__213 (b : Int) : ¬ R_X5_hangsOut_220 213 b := not_false
theorem nr_X5_hangsOut_220__215 (b : Int) : ¬ R_X5_hangsOut_220 215 b := not_false
theorem nr_X5_hangsOut_220__217 (b : Int) : ¬ R_X5_hangsOut_220 217 b := not_false
theorem nr_X5_hangsOut_220__219 (b : Int) : ¬ R_X5_hangsOut_220 219 b := not_false
theorem nr_X5_hangsOut_220__248 (b : Int) : ¬ R_X5_hangsOut_220 248 b := not_false
theorem nr_X5_hangsOut_220__222 (b : Int) : ¬ R_X5_hangsOut_220 222 b := not_false
theorem nr_X0_gather_279__3 (b : Int) : ¬ R_X0_gather_279 3 b := by
  unfold R_X0_gather_279; omega
theorem nr_X0_gather_279__8 (b : Int) : ¬ R_X0_gather_279 8 b := by
  unfold R_X0_gather_279; omega
theorem nr_X0_gather_279__12 (b : Int) : ¬ R_X0_gather_279 12 b := by
  unfold R_X0_gather_279; omega
theorem nr_X0_gather_279__14 (b : Int) : ¬ R_X0_gather_279 14 b := by
  unfold R_X0_gather_279; omega
theorem nr_X0_gather_279__16 (b : Int) : ¬ R_X0_gather_279 16 b := by
  unfold R_X0_gather_279; omega
theorem nr_X0_gather_279__18 (b : Int) : ¬ R_X0_gather_279 18 b := by
  unfold R_X0_gather_279; omega
theorem nr_X0_gather_279__193 (b : Int) : ¬ R_X0_gather_279 193 b := by
  unfold R_X0_gather_279; omega
theorem nr_X0_gather_279__195 (b : Int) : ¬ R_X0_gather_279 195 b := by
  unfold R_X0_gather_279; omega
theorem nr_X0_gather_279__197 (b : Int) : ¬ R_X0_gather_279 197 b := by
  unfold R_X0_gather_279; omega
theorem nr_X0_gather_279__199 (b : Int) : ¬ R_X0_gather_279 199 b := by
  unfold R_X0_gather_279; omega
theorem nr_X0_gather_279__201 (b : Int) : ¬ R_X0_gather_279 201 b := by
  unfold R_X0_gather_279; omega
theorem nr_X0_gather_279__203 (b : Int) : ¬ R_X0_gather_279 203 b := by
  unfold R_X0_gather_279; omega
theorem nr_X0_gather_279__205 (b : Int) : ¬ R_X0_gather_279 205 b := by
  unfold R_X0_gather_279; omega
theorem nr_X0_gather_279__207 (b : Int) : ¬ R_X0_gather_279 207 b := by
  unfold R_X0_gather_279; omega
theorem nr_X0_gather_279__209 (b : Int) : ¬ R_X0_gather_279 209 b := by
  unfold R_X0_gather_279; omega
theorem nr_X0_gather_279__211 (b : Int) : ¬ R_X0_gather_279 211 b := by
  unfold R_X0_gather_279; omega
theorem nr_X0_gather_279__213 (b : Int) : ¬ R_X0_gather_279 213 b := by
  unfold R_X0_gather_279; omega
theorem nr_X0_gather_279__215 (b : Int) : ¬ R_X0_gather_279 215 b := by
  unfold R_X0_gather_279; omega
theorem nr_X0_gather_279__217 (b : Int) : ¬ R_X0_gather_279 217 b := by
  unfold R_X0_gather_279; omega
theorem nr_X0_gather_279__219 (b : Int) : ¬ R_X0_gather_279 219 b := by
  unfold R_X0_gather_279; omega
theorem nr_X0_gather_279__222 (b : Int) : ¬ R_X0_gather_279 222 b := by
  unfold R_X0_gather_279; omega
theorem nr_X0_hang_279__3 (b : Int) : ¬ R_X0_hang_279 3 b := by
  unfold R_X0_hang_279; omega
theorem nr_X0_hang_279__8 (b : Int) : ¬ R_X0_hang_279 8 b := by
  unfold R_X0_hang_279; omega
theorem nr_X0_hang_279__12 (b : Int) : ¬ R_X0_hang_279 12 b := by
  unfold R_X0_hang_279; omega
theorem nr_X0_hang_279__14 (b : Int) : ¬ R_X0_hang_279 14 b := by
  unfold R_X0_hang_279; omega
theorem nr_X0_hang_279__16 (b : Int) : ¬ R_X0_hang_279 16 b := by
  unfold R_X0_hang_279; omega
theorem nr_X0_hang_279__18 (b : Int) : ¬ R_X0_hang_279 18 b := by
  unfold R_X0_hang_279; omega
theorem nr_X0_hang_279__193 (b : Int) : ¬ R_X0_hang_279 193 b := by
  unfold R_X0_hang_279; omega
theorem nr_X0_hang_279__195 (b : Int) : ¬ R_X0_hang_279 195 b := by
  unfold R_X0_hang_279; omega
theorem nr_X0_hang_279__197 (b : Int) : ¬ R_X0_hang_279 197 b := by
  unfold R_X0_hang_279; omega
theorem nr_X0_hang_279__199 (b : Int) : ¬ R_X0_hang_279 199 b := by
  unfold R_X0_hang_279; omega
theorem nr_X0_hang_279__201 (b : Int) : ¬ R_X0_hang_279 201 b := by
  unfold R_X0_hang_279; omega
theorem nr_X0_hang_279__203 (b : Int) : ¬ R_X0_hang_279 203 b := by
  unfold R_X0_hang_279; omega
theorem nr_X0_hang_279__205 (b : Int) : ¬ R_X0_hang_279 205 b := by
  unfold R_X0_hang_279; omega
theorem nr_X0_hang_279__207 (b : Int) : ¬ R_X0_hang_279 207 b := by
  unfold R_X0_hang_279; omega
theorem nr_X0_hang_279__209 (b : Int) : ¬ R_X0_hang_279 209 b := by
  unfold R_X0_hang_279; omega
theorem nr_X0_hang_279__211 (b : Int) : ¬ R_X0_hang_279 211 b := by
  unfold R_X0_hang_279; omega
theorem nr_X0_hang_279__213 (b : Int) : ¬ R_X0_hang_279 213 b := by
  unfold R_X0_hang_279; omega
theorem nr_X0_hang_279__215 (b : Int) : ¬ R_X0_hang_279 215 b := by
  unfold R_X0_hang_279; omega
theorem nr_X0_hang_279__217 (b : Int) : ¬ R_X0_hang_279 217 b := by
  unfold R_X0_hang_279; omega
theorem nr_X0_hang_279__219 (b : Int) : ¬ R_X0_hang_279 219 b := by
  unfold R_X0_hang_279; omega
theorem nr_X0_hang_279__222 (b : Int) : ¬ R_X0_hang_279 222 b := by
  unfold R_X0_hang_279; omega
theorem nr_X3_hasGapBehind_258__3 (b : Int) : ¬ R_X3_hasGapBehind_258 3 b := not_false
theorem nr_X3_hasGapBehind_258__8 (b : Int) : ¬ R_X3_hasGapBehind_258 8 b := not_false
theorem nr_X3_hasGapBehind_258__12 (b : Int) : ¬ R_X3_hasGapBehind_258 12 b := not_false
theorem nr_X3_hasGapBehind_258__14 (b : Int) : ¬ R_X3_hasGapBehind_258 14 b := not_false
theorem nr_X3_hasGapBehind_258__16 (b : Int) : ¬ R_X3_hasGapBehind_258 16 b := not_false
theorem nr_X3_hasGapBehind_258__18 (b : Int) : ¬ R_X3_hasGapBehind_258 18 b := not_false
theorem nr_X3_hasGapBehind_258__193 (b : Int) : ¬ R_X3_hasGapBehind_258 193 b := not_false
theorem nr_X3_hasGapBehind_258__195 (b : Int) : ¬ R_X3_hasGapBehind_258 195 b := not_false
theorem nr_X3_hasGapBehind_258__197 (b : Int) : ¬ R_X3_hasGapBehind_258 197 b := not_false
theorem nr_X3_hasGapBehind_258__199 (b : Int) : ¬ R_X3_hasGapBehind_258 199 b := not_false
theorem nr_X3_hasGapBehind_258__201 (b : Int) : ¬ R_X3_hasGapBehind_258 201 b := not_false
theorem nr_X3_hasGapBehind_258__203 (b : Int) : ¬ R_X3_hasGapBehind_258 203 b := not_false
theorem nr_X3_hasGapBehind_258__205 (b : Int) : ¬ R_X3_hasGapBehind_258 205 b := not_false
theorem nr_X3_hasGapBehind_258__207 (b : Int) : ¬ R_X3_hasGapBehind_258 207 b := not_false
theorem nr_X3_hasGapBehind_258__209 (b : Int) : ¬ R_X3_hasGapBehind_258 209 b := not_false
theorem nr_X3_hasGapBehind_258__211 (b : Int) : ¬ R_X3_hasGapBehind_258 211 b := not_false
theorem nr_X3_hasGapBehind_258__213 (b : Int) : ¬ R_X3_hasGapBehind_258 213 b := not_false
theorem nr_X3_hasGapBehind_258__215 (b : Int) : ¬ R_X3_hasGapBehind_258 215 b := not_false
theorem nr_X3_hasGapBehind_258__217 (b : Int) : ¬ R_X3_hasGapBehind_258 217 b := not_false
theorem nr_X3_hasGapBehind_258__219 (b : Int) : ¬ R_X3_hasGapBehind_258 219 b := not_false
theorem nr_X3_hasGapBehind_258__222 (b : Int) : ¬ R_X3_hasGapBehind_258 222 b := not_false
theorem sj_X3_measureLine_258K_J193 {fu : Nat} (hfu : 8589934592 ≤ fu) (r0 s : z_M) (c : z_CI s) (f : z_Fr R_X3_measureLine_258 r0 s) (a1 : Int) (a3 : Int) (a5 : Int) (t0 : Int) (t1 : Int) (b1 : -2147483648 ≤ a1 ∧ a1 ≤ 2147483647) (b3 : (-1) ≤ a3 ∧ a3 ≤ 200) (b5 : 0 ≤ a5 ∧ a5 ≤ 2147483646) (d0 : -2147483648 ≤ t0 ∧ t0 ≤ 2147483647) (d1 : 0 ≤ t1 ∧ t1 ≤ 1) (p0 : y_U3 s) (M : Int) (pm : 2147483647 - a5 ≤ M) {r : z_M → Int → Int → z_O} {k : z_M → Int → z_O} (hr : ∀ (s' : z_M) (v4 : Int) (v5 : Int), z_CI s' → z_Fr R_X3_measureLine_258 r0 s' → (-2147483648 ≤ v4 ∧ v4 ≤ 2147483647) → (0 ≤ v5 ∧ v5 ≤ 2147483647) → (y_U3 s') → (2147483647 - v5 < M) → z_T (r s' v4 v5) (P_X3_measureLine_258K r0)) (hk : ∀ (s' : z_M) (v4 : Int), z_CI s' → z_Fr R_X3_measureLine_258 r0 s' → (-2147483648 ≤ v4 ∧ v4 ≤ 2147483647) → (y_U3 s') → z_T (k s' v4) (P_X3_measureLine_258K r0)) : z_T (fX3_measureLine_J193 fu s 258 a1 a3 a5 t0 t1 r k) (P_X3_measureLine_258K r0) := by
  refine T_of (fX3_measureLine_J193.eq_1 ..) ?_
  have u1 := CI_b c (k := 220) (j := 4) bd_220_4
  have u2 := CI_b c (k := 220) (j := 5) bd_220_5
  have u3 := CI_b c (k := 240) (j := 6) bd_240_6
  have u4 := CI_b c (k := 279) (j := 9) bd_279_9
  refine T_leq (fun x5 e6 => ?_)
  have w7 := z_wb e6
  refine T_leq (fun x8 e9 => ?_)
  have w10 := z_wb e9
  exact hr s x5 x8 c f (by omega) (by omega) p0 (by omega)
theorem sl_X3_measureLine_258K_L171 {fu : Nat} (hfu : 8589934592 ≤ fu) (r0 : z_M) (a1 : Int) (a3 : Int) (b1 : -2147483648 ≤ a1 ∧ a1 ≤ 2147483647) (b3 : (-1) ≤ a3 ∧ a3 ≤ 200) {k : z_M → Int → z_O} (hk : ∀ (s' : z_M) (v4 : Int), z_CI s' → z_Fr R_X3_measureLine_258 r0 s' → (-2147483648 ≤ v4 ∧ v4 ≤ 2147483647) → (y_U3 s') → z_T (k s' v4) (P_X3_measureLine_258K r0)) : ∀ (F : Nat) (s : z_M) (a4 : Int) (a5 : Int), z_CI s → z_Fr R_X3_measureLine_258 r0 s → (-2147483648 ≤ a4 ∧ a4 ≤ 2147483647) → (0 ≤ a5 ∧ a5 ≤ 2147483647) → (y_U3 s) → (2147483647 - a5 < (F : Int)) → z_T (fX3_measureLine_L171 fu 258 a1 a3 F s a4 a5 k) (P_X3_measureLine_258K r0) := by
  intro F
  induction F with
  | zero =>
    intro s a4 a5 c f b4 b5 i0 hm
    have u21 := CI_b c (k := 220) (j := 4) bd_220_4
    have u22 := CI_b c (k := 220) (j := 5) bd_220_5
    have u23 := CI_b c (k := 240) (j := 6) bd_240_6
    have u24 := CI_b c (k := 279) (j := 9) bd_279_9
    exfalso; omega
  | succ F ih =>
    intro s a4 a5 c f b4 b5 i0 hm
    refine T_of (fX3_measureLine_L171.eq_2 ..) ?_
    have u1 := CI_b c (k := 220) (j := 4) bd_220_4
    have u2 := CI_b c (k := 220) (j := 5) bd_220_5
    have u3 := CI_b c (k := 240) (j := 6) bd_240_6
    have u4 := CI_b c (k := 279) (j := 9) bd_279_9
    refine T_ite (fun h5 => ?_) (fun h5 => ?_)
    · exact hk s a4 c f (by omega) i0
    · refine T_if1 (by decide +kernel) ?_
      refine T_useI (sf_X3_hasGapBehind_258 hfu s c a5 (by omega)) (fun v11 s6 hq => ?_)
      obtain ⟨c7, f8, ⟨x10, rfl, b12, b13⟩⟩ := hq
      refine T_vI ?_
      have f9 := z_Fr.tr (R := R_X3_measureLine_258) f f8 (fun a b h => absurd h not_false)
      have t14 : s6 220 4 = s 220 4 := f8 220 4 (by decide)
      have t15 : s6 220 5 = s 220 5 := f8 220 5 (by decide)
      have t16 : s6 240 6 = s 240 6 := f8 240 6 (by decide)
      have t17 : s6 279 9 = s 279 9 := f8 279 9 (by decide)
      have r18 := y_U3.fr i0 (f8 191 16 (by decide)) (f8 6 6 (by decide)) (f8 191 17 (by decide)) (f8 191 18 (by decide)) (fun b => f8 3 b (nr_X3_hasGapBehind_258__3 b)) (fun b => f8 8 b (nr_X3_hasGapBehind_258__8 b)) (fun b => f8 12 b (nr_X3_hasGapBehind_258__12 b)) (fun b => f8 14 b (nr_X3_hasGapBehind_258__14 b)) (fun b => f8 16 b (nr_X3_hasGapBehind_258__16 b)) (fun b => f8 18 b (nr_X3_hasGapBehind_258__18 b)) (fun b => f8 193 b (nr_X3_hasGapBehind_258__193 b)) (fun b => f8 195 b (nr_X3_hasGapBehind_258__195 b)) (fun b => f8 197 b (nr_X3_hasGapBehind_258__197 b)) (fun b => f8 199 b (nr_X3_hasGapBehind_258__199 b)) (fun b => f8 201 b (nr_X3_hasGapBehind_258__201 b)) (fun b => f8 203 b (nr_X3_hasGapBehind_258__203 b)) (fun b => f8 205 b (nr_X3_hasGapBehind_258__205 b)) (fun b => f8 207 b (nr_X3_hasGapBehind_258__207 b)) (fun b => f8 209 b (nr_X3_hasGapBehind_258__209 b)) (fun b => f8 211 b (nr_X3_hasGapBehind_258__211 b)) (fun b => f8 213 b (nr_X3_hasGapBehind_258__213 b)) (fun b => f8 215 b (nr_X3_hasGapBehind_258__215 b)) (fun b => f8 217 b (nr_X3_hasGapBehind_258__217 b)) (fun b => f8 219 b (nr_X3_hasGapBehind_258__219 b)) (fun b => f8 222 b (nr_X3_hasGapBehind_258__222 b))
      have r19 := y_B0.fr i0.1.1 (f8 211 0 (by decide)) (f8 213 0 (by decide))
      refine T_ite (fun h20 => ?_) (fun h20 => ?_)
      · exact sj_X3_measureLine_258K_J193 hfu r0 s6 c7 f9 a1 a3 a5 a4 0 (by omega) (by omega) (by omega) (by omega) (by omega) r18 (2147483647 - a5) (by omega) (fun s' v4 v5 c' f' w4 w5 z0 pg => ih s' v4 v5 c' f' w4 w5 z0 (by omega)) hk
      · exact sj_X3_measureLine_258K_J193 hfu r0 s6 c7 f9 a1 a3 a5 a4 1 (by omega) (by omega) (by omega) (by omega) (by omega) r18 (2147483647 - a5) (by omega) (fun s' v4 v5 c' f' w4 w5 z0 pg => ih s' v4 v5 c' f' w4 w5 z0 (by omega)) hk
set_option maxHeartbeats 4000000 in
theorem sj_X3_measureLine_258K_J81 {fu : Nat} (hfu : 8589934592 ≤ fu) (r0 s : z_M) (c : z_CI s) (f : z_Fr R_X3_measureLine_258 r0 s) (a1 : Int) (a2 : Int) (a3 : Int) (t1 : Int) (t2 : Int) (b1 : -2147483648 ≤ a1 ∧ a1 ≤ 2147483647) (b2 : 0 ≤ a2 ∧ a2 ≤ 200) (b3 : (-1) ≤ a3 ∧ a3 ≤ 200) (d1 : -2147483648 ≤ t1 ∧ t1 ≤ 2147483647) (d2 : 0 ≤ t2 ∧ t2 ≤ 1) (p0 : y_U3 s) : z_T (fX3_measureLine_J81 fu s 258 a1 a2 a3 275 t1 t2) (P_X3_measureLine_258K r0) := by
  refine T_of (fX3_measureLine_J81.eq_1 ..) ?_
  have u1 := CI_b c (k := 220) (j := 4) bd_220_4
  have u2 := CI_b c (k := 220) (j := 5) bd_220_5
  have u3 := CI_b c (k := 240) (j := 6) bd_240_6
  have u4 := CI_b c (k := 279) (j := 9) bd_279_9
  refine T_if1 (by decide +kernel) ?_
  refine T_put (by decide +kernel) (c := 276) (by decide +kernel) bdr_276 (by omega) c (fun s5 e8 c6 g9 => ?_)
  have f7 := z_Fr.up (R := R_X3_measureLine_258) f g9 (fun _ => (Or.inr (Or.inr (Or.inl (⟨by decide, by decide⟩)))))
  have t10 : s5 220 4 = s 220 4 := g9 220 4 (by decide)
  have t11 : s5 220 5 = s 220 5 := g9 220 5 (by decide)
  have t12 : s5 240 6 = s 240 6 := g9 240 6 (by decide)
  have t13 : s5 279 9 = s 279 9 := g9 279 9 (by decide)
  have r14 := y_U3.fr p0 (g9 191 16 (by decide)) (g9 6 6 (by decide)) (g9 191 17 (by decide)) (g9 191 18 (by decide)) (fun b => g9 3 b (by decide)) (fun b => g9 8 b (by decide)) (fun b => g9 12 b (by decide)) (fun b => g9 14 b (by decide)) (fun b => g9 16 b (by decide)) (fun b => g9 18 b (by decide)) (fun b => g9 193 b (by decide)) (fun b => g9 195 b (by decide)) (fun b => g9 197 b (by decide)) (fun b => g9 199 b (by decide)) (fun b => g9 201 b (by decide)) (fun b => g9 203 b (by decide)) (fun b => g9 205 b (by decide)) (fun b => g9 207 b (by decide)) (fun b => g9 209 b (by decide)) (fun b => g9 211 b (by decide)) (fun b => g9 213 b (by decide)) (fun b => g9 215 b (by decide)) (fun b => g9 217 b (by decide)) (fun b => g9 219 b (by decide)) (fun b => g9 222 b (by decide))
  have r15 := y_B0.fr p0.1.1 (g9 211 0 (by decide)) (g9 213 0 (by decide))
  refine T_if1 (by decide +kernel) ?_
  refine T_let 277 (by decide +kernel) ?_
  refine T_if1 (by decide +kernel) ?_
  refine T_let 279 (by decide +kernel) ?_
  refine T_if1 (by decide +kernel) ?_
  refine T_leq (fun x16 e17 => ?_)
  have u18 := CI_b c6 (k := 279) (j := 9) bd_279_9
  refine T_if1 (by decide +kernel) ?_
  refine T_put (by decide +kernel) (c := 278) (by decide +kernel) bdr_278 (by omega) c6 (fun s19 e22 c20 g23 => ?_)
  have f21 := z_Fr.up (R := R_X3_measureLine_258) f7 g23 (fun _ => (Or.inr (Or.inr (Or.inl (⟨by decide, by decide⟩)))))
  have t24 : s19 220 4 = s5 220 4 := g23 220 4 (by decide)
  have t25 : s19 220 5 = s5 220 5 := g23 220 5 (by decide)
  have t26 : s19 240 6 = s5 240 6 := g23 240 6 (by decide)
  have t27 : s19 279 9 = s5 279 9 := g23 279 9 (by decide)
  have r28 := y_U3.fr r14 (g23 191 16 (by decide)) (g23 6 6 (by decide)) (g23 191 17 (by decide)) (g23 191 18 (by decide)) (fun b => g23 3 b (by decide)) (fun b => g23 8 b (by decide)) (fun b => g23 12 b (by decide)) (fun b => g23 14 b (by decide)) (fun b => g23 16 b (by decide)) (fun b => g23 18 b (by decide)) (fun b => g23 193 b (by decide)) (fun b => g23 195 b (by decide)) (fun b => g23 197 b (by decide)) (fun b => g23 199 b (by decide)) (fun b => g23 201 b (by decide)) (fun b => g23 203 b (by decide)) (fun b => g23 205 b (by decide)) (fun b => g23 207 b (by decide)) (fun b => g23 209 b (by decide)) (fun b => g23 211 b (by decide)) (fun b => g23 213 b (by decide)) (fun b => g23 215 b (by decide)) (fun b => g23 217 b (by decide)) (fun b => g23 219 b (by decide)) (fun b => g23 222 b (by decide))
  have r29 := y_B0.fr r15 (g23 211 0 (by decide)) (g23 213 0 (by decide))
  refine T_if1 (by decide +kernel) ?_
  refine T_let 279 (by decide +kernel) ?_
  refine T_if1 (by decide +kernel) ?_
  refine T_let 220 (by decide +kernel) ?_
  refine T_if1 (by decide +kernel) ?_
  refine T_leq (fun x30 e31 => ?_)
  have u32 := CI_b c20 (k := 220) (j := 4) bd_220_4
  refine T_if1 (by decide +kernel) ?_
  refine T_let 220 (by decide +kernel) ?_
  refine T_if1 (by decide +kernel) ?_
  refine T_leq (fun x33 e34 => ?_)
  have u35 := CI_b c20 (k := 220) (j := 5) bd_220_5
  refine T_if1 (by decide +kernel) ?_
  refine T_useN (sf_X0_gather_279 hfu s19 c20 x30 x33 (by omega) (by omega)) (fun v41 s36 hq => ?_)
  obtain ⟨c37, f38, rfl⟩ := hq
  refine T_vN ?_
  have f39 := z_Fr.tr (R := R_X3_measureLine_258) f21 f38 rs_X0_gather_279__X3_measureLine_258
  have t44 : s36 220 4 = s19 220 4 := f38 220 4 (by decide)
  have t45 : s36 220 5 = s19 220 5 := f38 220 5 (by decide)
  have t46 : s36 240 6 = s19 240 6 := f38 240 6 (by decide)
  have u47 := CI_b c37 (k := 279) (j := 9) bd_279_9
  have r48 := y_U3.fr r28 (f38 191 16 (by decide)) (f38 6 6 (by decide)) (f38 191 17 (by decide)) (f38 191 18 (by decide)) (fun b => f38 3 b (nr_X0_gather_279__3 b)) (fun b => f38 8 b (nr_X0_gather_279__8 b)) (fun b => f38 12 b (nr_X0_gather_279__12 b)) (fun b => f38 14 b (nr_X0_gather_279__14 b)) (fun b => f38 16 b (nr_X0_gather_279__16 b)) (fun b => f38 18 b (nr_X0_gather_279__18 b)) (fun b => f38 193 b (nr_X0_gather_279__193 b)) (fun b => f38 195 b (nr_X0_gather_279__195 b)) (fun b => f38 197 b (nr_X0_gather_279__197 b)) (fun b => f38 199 b (nr_X0_gather_279__199 b)) (fun b => f38 201 b (nr_X0_gather_279__201 b)) (fun b => f38 203 b (nr_X0_gather_279__203 b)) (fun b => f38 205 b (nr_X0_gather_279__205 b)) (fun b => f38 207 b (nr_X0_gather_279__207 b)) (fun b => f38 209 b (nr_X0_gather_279__209 b)) (fun b => f38 211 b (nr_X0_gather_279__211 b)) (fun b => f38 213 b (nr_X0_gather_279__213 b)) (fun b => f38 215 b (nr_X0_gather_279__215 b)) (fun b => f38 217 b (nr_X0_gather_279__217 b)) (fun b => f38 219 b (nr_X0_gather_279__219 b)) (fun b => f38 222 b (nr_X0_gather_279__222 b))
  have r49 := y_B0.fr r29 (f38 211 0 (by decide)) (f38 213 0 (by decide))
  refine T_if1 (by decide +kernel) ?_
  refine T_let 273 (by decide +kernel) ?_
  refine T_if1 (by decide +kernel) ?_
  refine T_let 279 (by decide +kernel) ?_
  refine T_if1 (by decide +kernel) ?_
  refine T_let 277 (by decide +kernel) ?_
  refine T_if1 (by decide +kernel) ?_
  refine T_get (by decide +kernel) (c := 278) (by decide +kernel) bdr_278 (by decide) c37 (fun x50 e51 b52 w53 => ?_)
  have l54 : z_ln 277 = 201 := by decide +kernel
  refine T_if1 (by decide +kernel) ?_
  refine T_let 220 (by decide +kernel) ?_
  refine T_if1 (by decide +kernel) ?_
  refine T_leq (fun x55 e56 => ?_)
  have u57 := CI_b c37 (k := 220) (j := 4) bd_220_4
  refine T_if1 (by decide +kernel) ?_
  refine T_let 220 (by decide +kernel) ?_
  refine T_if1 (by decide +kernel) ?_
  refine T_leq (fun x58 e59 => ?_)
  have u60 := CI_b c37 (k := 220) (j := 5) bd_220_5
  refine T_if1 (by decide +kernel) ?_
  refine T_let 2 (by decide +kernel) ?_
  refine T_if1 (by decide +kernel) ?_
  refine T_get (by decide +kernel) (c := 3) (by decide +kernel) bdr_3 (by decide) c37 (fun x61 e62 b63 w64 => ?_)
  have l65 : z_ln 2 = 9 := by decide +kernel
  refine T_if1 (by decide +kernel) ?_
  refine T_useI (sf_X0_hang_279 hfu s36 c37 x50 x55 x58 x61 (by omega) (by omega) (by omega) (by omega)) (fun v71 s66 hq => ?_)
  obtain ⟨c67, f68, ⟨x70, rfl, b72, b73⟩⟩ := hq
  refine T_vI ?_
  have f69 := z_Fr.tr (R := R_X3_measureLine_258) f39 f68 rs_X0_hang_279__X3_measureLine_258
  have t74 : s66 220 4 = s36 220 4 := f68 220 4 (by decide)
  have t75 : s66 220 5 = s36 220 5 := f68 220 5 (by decide)
  have t76 : s66 240 6 = s36 240 6 := f68 240 6 (by decide)
  have t77 : s66 279 9 = s36 279 9 := f68 279 9 (by decide)
  have r78 := y_U3.fr r48 (f68 191 16 (by decide)) (f68 6 6 (by decide)) (f68 191 17 (by decide)) (f68 191 18 (by decide)) (fun b => f68 3 b (nr_X0_hang_279__3 b)) (fun b => f68 8 b (nr_X0_hang_279__8 b)) (fun b => f68 12 b (nr_X0_hang_279__12 b)) (fun b => f68 14 b (nr_X0_hang_279__14 b)) (fun b => f68 16 b (nr_X0_hang_279__16 b)) (fun b => f68 18 b (nr_X0_hang_279__18 b)) (fun b => f68 193 b (nr_X0_hang_279__193 b)) (fun b => f68 195 b (nr_X0_hang_279__195 b)) (fun b => f68 197 b (nr_X0_hang_279__197 b)) (fun b => f68 199 b (nr_X0_hang_279__199 b)) (fun b => f68 201 b (nr_X0_hang_279__201 b)) (fun b => f68 203 b (nr_X0_hang_279__203 b)) (fun b => f68 205 b (nr_X0_hang_279__205 b)) (fun b => f68 207 b (nr_X0_hang_279__207 b)) (fun b => f68 209 b (nr_X0_hang_279__209 b)) (fun b => f68 211 b (nr_X0_hang_279__211 b)) (fun b => f68 213 b (nr_X0_hang_279__213 b)) (fun b => f68 215 b (nr_X0_hang_279__215 b)) (fun b => f68 217 b (nr_X0_hang_279__217 b)) (fun b => f68 219 b (nr_X0_hang_279__219 b)) (fun b => f68 222 b (nr_X0_hang_279__222 b))
  have r79 := y_B0.fr r49 (f68 211 0 (by decide)) (f68 213 0 (by decide))
  refine T_if1 (by decide +kernel) ?_
  refine T_put (by decide +kernel) (c := 274) (by decide +kernel) bdr_274 (by omega) c67 (fun s80 e83 c81 g84 => ?_)
  have f82 := z_Fr.up (R := R_X3_measureLine_258) f69 g84 (fun _ => (Or.inr (Or.inr (Or.inl (⟨by decide, by decide⟩)))))
  have t85 : s80 220 4 = s66 220 4 := g84 220 4 (by decide)
  have t86 : s80 220 5 = s66 220 5 := g84 220 5 (by decide)
  have t87 : s80 240 6 = s66 240 6 := g84 240 6 (by decide)
  have t88 : s80 279 9 = s66 279 9 := g84 279 9 (by decide)
  have r89 := y_U3.fr r78 (g84 191 16 (by decide)) (g84 6 6 (by decide)) (g84 191 17 (by decide)) (g84 191 18 (by decide)) (fun b => g84 3 b (by decide)) (fun b => g84 8 b (by decide)) (fun b => g84 12 b (by decide)) (fun b => g84 14 b (by decide)) (fun b => g84 16 b (by decide)) (fun b => g84 18 b (by decide)) (fun b => g84 193 b (by decide)) (fun b => g84 195 b (by decide)) (fun b => g84 197 b (by decide)) (fun b => g84 199 b (by decide)) (fun b => g84 201 b (by decide)) (fun b => g84 203 b (by decide)) (fun b => g84 205 b (by decide)) (fun b => g84 207 b (by decide)) (fun b => g84 209 b (by decide)) (fun b => g84 211 b (by decide)) (fun b => g84 213 b (by decide)) (fun b => g84 215 b (by decide)) (fun b => g84 217 b (by decide)) (fun b => g84 219 b (by decide)) (fun b => g84 222 b (by decide))
  have r90 := y_B0.fr r79 (g84 211 0 (by decide)) (g84 213 0 (by decide))
  refine sl_X3_measureLine_258K_L171 hfu r0 a1 a3 (by omega) (by omega) (fun s91 y94 c92 f93 b95 g96 => ?_) fu s80 0 a2 c81 f82 (by omega) (by omega) r89 (by omega)
  have u97 := CI_b c92 (k := 220) (j := 4) bd_220_4
  have u98 := CI_b c92 (k := 220) (j := 5) bd_220_5
  have u99 := CI_b c92 (k := 240) (j := 6) bd_240_6
  have u100 := CI_b c92 (k := 279) (j := 9) bd_279_9
  refine T_if1 (by decide +kernel) ?_
  refine T_let 271 (by decide +kernel) ?_
  refine T_if1 (by decide +kernel) ?_
  refine T_put (by decide +kernel) (c := 272) (by decide +kernel) bdr_272 (by omega) c92 (fun s101 e104 c102 g105 => ?_)
  have f103 := z_Fr.up (R := R_X3_measureLine_258) f93 g105 (fun _ => (Or.inr (Or.inr (Or.inl (⟨by decide, by decide⟩)))))
  have t106 : s101 220 4 = s91 220 4 := g105 220 4 (by decide)
  have t107 : s101 220 5 = s91 220 5 := g105 220 5 (by decide)
  have t108 : s101 240 6 = s91 240 6 := g105 240 6 (by decide)
  have t109 : s101 279 9 = s91 279 9 := g105 279 9 (by decide)
  have r110 := y_U3.fr g96 (g105 191 16 (by decide)) (g105 6 6 (by decide)) (g105 191 17 (by decide)) (g105 191 18 (by decide)) (fun b => g105 3 b (by decide)) (fun b => g105 8 b (by decide)) (fun b => g105 12 b (by decide)) (fun b => g105 14 b (by decide)) (fun b => g105 16 b (by decide)) (fun b => g105 18 b (by decide)) (fun b => g105 193 b (by decide)) (fun b => g105 195 b (by decide)) (fun b => g105 197 b (by decide)) (fun b => g105 199 b (by decide)) (fun b => g105 201 b (by decide)) (fun b => g105 203 b (by decide)) (fun b => g105 205 b (by decide)) (fun b => g105 207 b (by decide)) (fun b => g105 209 b (by decide)) (fun b => g105 211 b (by decide)) (fun b => g105 213 b (by decide)) (fun b => g105 215 b (by decide)) (fun b => g105 217 b (by decide)) (fun b => g105 219 b (by decide)) (fun b => g105 222 b (by decide))
  have r111 := y_B0.fr g96.1.1 (g105 211 0 (by decide)) (g105 213 0 (by decide))
  exact T_ret ⟨c102, f103, r110, rfl⟩
set_option maxHeartbeats 4000000 in
theorem sf_X3_measureLine_258K {fu : Nat} (hfu : 8589934592 ≤ fu) (r0 : z_M) (c0 : z_CI r0) (a1 : Int) (b1 : -2147483648 ≤ a1 ∧ a1 ≤ 2147483647) (p0 : y_U3 r0) (p1 : y_SV 240 r0) (p2 : 0 ≤ a1) (p3 : a1 < r0 240 6) : z_T (fX3_measureLine fu r0 258 a1) (P_X3_measureLine_258K r0) := by
  refine T_of (fX3_measureLine.eq_1 ..) ?_
  refine T_if1 (by decide +kernel) ?_
  refine T_let 240 (by decide +kernel) ?_
  refine T_if1 (by decide +kernel) ?_
  refine T_let 247 (by decide +kernel) ?_
  refine T_if1 (by decide +kernel) ?_
  refine T_get (by decide +kernel) (c := 248) (by decide +kernel) bdr_248 (by decide) c0 (fun x1 e2 b3 w4 => ?_)
  have l5 : z_ln 247 = 201 := by decide +kernel
  refine T_if1 (by decide +kernel) ?_
  refine T_let 240 (by decide +kernel) ?_
  refine T_if1 (by decide +kernel) ?_
  refine T_let 247 (by decide +kernel) ?_
  refine T_leq (fun x6 e7 => ?_)
  have w8 := z_wb e7
  refine T_if1 (by decide +kernel) ?_
  refine T_get (by decide +kernel) (c := 248) (by decide +kernel) bdr_248 (by decide) c0 (fun x9 e10 b11 w12 => ?_)
  have l13 : z_ln 247 = 201 := by decide +kernel
  refine T_leq (fun x14 e15 => ?_)
  have w16 := z_wb e15
  refine T_if1 (by decide +kernel) ?_
  refine T_let 269 (by decide +kernel) ?_
  refine T_if1 (by decide +kernel) ?_
  refine T_let 220 (by decide +kernel) ?_
  refine T_if1 (by decide +kernel) ?_
  refine T_useI (sf_X5_lengthOf_220K hfu r0 c0 x1 x14 (by omega) (by omega) p0 (by have q8 := CI_b ‹z_CI r0› (k := 240) (j := 6) bd_240_6; have q9 := CI_b ‹z_CI r0› (k := 249) (j := 6) bd_249_6; have q7 := CI_b ‹z_CI r0› (k := 191) (j := 16) bd_191_16; first | exact y_AR.i (by omega) (by omega) (by omega) | exact y_SV.ar p1 (by assumption) (by assumption) rfl (by omega) (by omega) (by omega) (by omega) (by omega))) (fun v22 s17 hq => ?_)
  obtain ⟨c18, f19, o23, ⟨x21, rfl, b24, b25⟩⟩ := hq
  refine T_vI ?_
  have f20 := z_Fr.tr (R := R_X3_measureLine_258) z_Fr.rf f19 rs_X5_lengthOf_220__X3_measureLine_258
  have t26 : s17 240 6 = r0 240 6 := f19 240 6 (by decide)
  have t27 : s17 279 9 = r0 279 9 := f19 279 9 (by decide)
  have u28 := CI_b c18 (k := 220) (j := 4) bd_220_4
  have u29 := CI_b c18 (k := 220) (j := 5) bd_220_5
  have r30 := y_SA.fr p1 (f19 191 16 (by decide)) (f19 6 6 (by decide)) (f19 191 17 (by decide)) (f19 191 18 (by decide)) (fun b => f19 3 b (nr_X5_lengthOf_220__3 b)) (fun b => f19 8 b (nr_X5_lengthOf_220__8 b)) (fun b => f19 12 b (nr_X5_lengthOf_220__12 b)) (fun b => f19 14 b (nr_X5_lengthOf_220__14 b)) (fun b => f19 16 b (nr_X5_lengthOf_220__16 b)) (fun b => f19 18 b (nr_X5_lengthOf_220__18 b)) (fun b => f19 193 b (nr_X5_lengthOf_220__193 b)) (fun b => f19 195 b (nr_X5_lengthOf_220__195 b)) (fun b => f19 197 b (nr_X5_lengthOf_220__197 b)) (fun b => f19 199 b (nr_X5_lengthOf_220__199 b)) (fun b => f19 201 b (nr_X5_lengthOf_220__201 b)) (fun b => f19 203 b (nr_X5_lengthOf_220__203 b)) (fun b => f19 205 b (nr_X5_lengthOf_220__205 b)) (fun b => f19 207 b (nr_X5_lengthOf_220__207 b)) (fun b => f19 209 b (nr_X5_lengthOf_220__209 b)) (fun b => f19 211 b (nr_X5_lengthOf_220__211 b)) (fun b => f19 213 b (nr_X5_lengthOf_220__213 b)) (fun b => f19 215 b (nr_X5_lengthOf_220__215 b)) (fun b => f19 217 b (nr_X5_lengthOf_220__217 b)) (fun b => f19 219 b (nr_X5_lengthOf_220__219 b)) (f19 240 6 (by decide)) (fun b => f19 248 b (nr_X5_lengthOf_220__248 b))
  have r31 := y_B0.fr p0.1.1 (f19 211 0 (by decide)) (f19 213 0 (by decide))
  refine T_if1 (by decide +kernel) ?_
  refine T_put (by decide +kernel) (c := 270) (by decide +kernel) bdr_270 (by omega) c18 (fun s32 e35 c33 g36 => ?_)
  have f34 := z_Fr.up (R := R_X3_measureLine_258) f20 g36 (fun _ => (Or.inr (Or.inr (Or.inl (⟨by decide, by decide⟩)))))
  have t37 : s32 220 4 = s17 220 4 := g36 220 4 (by decide)
  have t38 : s32 220 5 = s17 220 5 := g36 220 5 (by decide)
  have t39 : s32 240 6 = s17 240 6 := g36 240 6 (by decide)
  have t40 : s32 279 9 = s17 279 9 := g36 279 9 (by decide)
  have r41 := y_SA.fr r30 (g36 191 16 (by decide)) (g36 6 6 (by decide)) (g36 191 17 (by decide)) (g36 191 18 (by decide)) (fun b => g36 3 b (by decide)) (fun b => g36 8 b (by decide)) (fun b => g36 12 b (by decide)) (fun b => g36 14 b (by decide)) (fun b => g36 16 b (by decide)) (fun b => g36 18 b (by decide)) (fun b => g36 193 b (by decide)) (fun b => g36 195 b (by decide)) (fun b => g36 197 b (by decide)) (fun b => g36 199 b (by decide)) (fun b => g36 201 b (by decide)) (fun b => g36 203 b (by decide)) (fun b => g36 205 b (by decide)) (fun b => g36 207 b (by decide)) (fun b => g36 209 b (by decide)) (fun b => g36 211 b (by decide)) (fun b => g36 213 b (by decide)) (fun b => g36 215 b (by decide)) (fun b => g36 217 b (by decide)) (fun b => g36 219 b (by decide)) (g36 240 6 (by decide)) (fun b => g36 248 b (by decide))
  have r42 := y_B0.fr o23.1.1 (g36 211 0 (by decide)) (g36 213 0 (by decide))
  have r43 := y_U3.fr o23 (g36 191 16 (by decide)) (g36 6 6 (by decide)) (g36 191 17 (by decide)) (g36 191 18 (by decide)) (fun b => g36 3 b (by decide)) (fun b => g36 8 b (by decide)) (fun b => g36 12 b (by decide)) (fun b => g36 14 b (by decide)) (fun b => g36 16 b (by decide)) (fun b => g36 18 b (by decide)) (fun b => g36 193 b (by decide)) (fun b => g36 195 b (by decide)) (fun b => g36 197 b (by decide)) (fun b => g36 199 b (by decide)) (fun b => g36 201 b (by decide)) (fun b => g36 203 b (by decide)) (fun b => g36 205 b (by decide)) (fun b => g36 207 b (by decide)) (fun b => g36 209 b (by decide)) (fun b => g36 211 b (by decide)) (fun b => g36 213 b (by decide)) (fun b => g36 215 b (by decide)) (fun b => g36 217 b (by decide)) (fun b => g36 219 b (by decide)) (fun b => g36 222 b (by decide))
  refine T_if1 (by decide +kernel) ?_
  refine T_let 220 (by decide +kernel) ?_
  refine T_if1 (by decide +kernel) ?_
  refine T_useN (sf_X5_trim_220 hfu s32 c33 x1 x14 (by omega) (by omega)) (fun v49 s44 hq => ?_)
  obtain ⟨c45, f46, rfl⟩ := hq
  refine T_vN ?_
  have f47 := z_Fr.tr (R := R_X3_measureLine_258) f34 f46 rs_X5_trim_220__X3_measureLine_258
  have t52 : s44 240 6 = s32 240 6 := f46 240 6 (by decide)
  have t53 : s44 279 9 = s32 279 9 := f46 279 9 (by decide)
  have u54 := CI_b c45 (k := 220) (j := 4) bd_220_4
  have u55 := CI_b c45 (k := 220) (j := 5) bd_220_5
  have r56 := y_SA.fr r41 (f46 191 16 (by decide)) (f46 6 6 (by decide)) (f46 191 17 (by decide)) (f46 191 18 (by decide)) (fun b => f46 3 b (nr_X5_trim_220__3 b)) (fun b => f46 8 b (nr_X5_trim_220__8 b)) (fun b => f46 12 b (nr_X5_trim_220__12 b)) (fun b => f46 14 b (nr_X5_trim_220__14 b)) (fun b => f46 16 b (nr_X5_trim_220__16 b)) (fun b => f46 18 b (nr_X5_trim_220__18 b)) (fun b => f46 193 b (nr_X5_trim_220__193 b)) (fun b => f46 195 b (nr_X5_trim_220__195 b)) (fun b => f46 197 b (nr_X5_trim_220__197 b)) (fun b => f46 199 b (nr_X5_trim_220__199 b)) (fun b => f46 201 b (nr_X5_trim_220__201 b)) (fun b => f46 203 b (nr_X5_trim_220__203 b)) (fun b => f46 205 b (nr_X5_trim_220__205 b)) (fun b => f46 207 b (nr_X5_trim_220__207 b)) (fun b => f46 209 b (nr_X5_trim_220__209 b)) (fun b => f46 211 b (nr_X5_trim_220__211 b)) (fun b => f46 213 b (nr_X5_trim_220__213 b)) (fun b => f46 215 b (nr_X5_trim_220__215 b)) (fun b => f46 217 b (nr_X5_trim_220__217 b)) (fun b => f46 219 b (nr_X5_trim_220__219 b)) (f46 240 6 (by decide)) (fun b => f46 248 b (nr_X5_trim_220__248 b))
  have r57 := y_B0.fr r42 (f46 211 0 (by decide)) (f46 213 0 (by decide))
  have r58 := y_U3.fr r43 (f46 191 16 (by decide)) (f46 6 6 (by decide)) (f46 191 17 (by decide)) (f46 191 18 (by decide)) (fun b => f46 3 b (nr_X5_trim_220__3 b)) (fun b => f46 8 b (nr_X5_trim_220__8 b)) (fun b => f46 12 b (nr_X5_trim_220__12 b)) (fun b => f46 14 b (nr_X5_trim_220__14 b)) (fun b => f46 16 b (nr_X5_trim_220__16 b)) (fun b => f46 18 b (nr_X5_trim_220__18 b)) (fun b => f46 193 b (nr_X5_trim_220__193 b)) (fun b => f46 195 b (nr_X5_trim_220__195 b)) (fun b => f46 197 b (nr_X5_trim_220__197 b)) (fun b => f46 199 b (nr_X5_trim_220__199 b)) (fun b => f46 201 b (nr_X5_trim_220__201 b)) (fun b => f46 203 b (nr_X5_trim_220__203 b)) (fun b => f46 205 b (nr_X5_trim_220__205 b)) (fun b => f46 207 b (nr_X5_trim_220__207 b)) (fun b => f46 209 b (nr_X5_trim_220__209 b)) (fun b => f46 211 b (nr_X5_trim_220__211 b)) (fun b => f46 213 b (nr_X5_trim_220__213 b)) (fun b => f46 215 b (nr_X5_trim_220__215 b)) (fun b => f46 217 b (nr_X5_trim_220__217 b)) (fun b => f46 219 b (nr_X5_trim_220__219 b)) (fun b => f46 222 b (nr_X5_trim_220__222 b))
  refine T_if1 (by decide +kernel) ?_
  refine T_let 275 (by decide +kernel) ?_
  refine T_if1 (by decide +kernel) ?_
  refine T_let 220 (by decide +kernel) ?_
  refine T_if1 (by decide +kernel) ?_
  refine T_let 220 (by decide +kernel) ?_
  refine T_if1 (by decide +kernel) ?_
  refine T_leq (fun x59 e60 => ?_)
  have u61 := CI_b c45 (k := 220) (j := 5) bd_220_5
  refine T_if1 (by decide +kernel) ?_
  refine T_useI (sf_X5_hangsOut_220 hfu s44 c45 x59 (by omega)) (fun v67 s62 hq => ?_)
  obtain ⟨c63, f64, ⟨x66, rfl, b68, b69⟩⟩ := hq
  refine T_vI ?_
  have f65 := z_Fr.tr (R := R_X3_measureLine_258) f47 f64 (fun a b h => absurd h not_false)
  have t70 : s62 220 4 = s44 220 4 := f64 220 4 (by decide)
  have t71 : s62 220 5 = s44 220 5 := f64 220 5 (by decide)
  have t72 : s62 240 6 = s44 240 6 := f64 240 6 (by decide)
  have t73 : s62 279 9 = s44 279 9 := f64 279 9 (by decide)
  have r74 := y_SA.fr r56 (f64 191 16 (by decide)) (f64 6 6 (by decide)) (f64 191 17 (by decide)) (f64 191 18 (by decide)) (fun b => f64 3 b (nr_X5_hangsOut_220__3 b)) (fun b => f64 8 b (nr_X5_hangsOut_220__8 b)) (fun b => f64 12 b (nr_X5_hangsOut_220__12 b)) (fun b => f64 14 b (nr_X5_hangsOut_220__14 b)) (fun b => f64 16 b (nr_X5_hangsOut_220__16 b)) (fun b => f64 18 b (nr_X5_hangsOut_220__18 b)) (fun b => f64 193 b (nr_X5_hangsOut_220__193 b)) (fun b => f64 195 b (nr_X5_hangsOut_220__195 b)) (fun b => f64 197 b (nr_X5_hangsOut_220__197 b)) (fun b => f64 199 b (nr_X5_hangsOut_220__199 b)) (fun b => f64 201 b (nr_X5_hangsOut_220__201 b)) (fun b => f64 203 b (nr_X5_hangsOut_220__203 b)) (fun b => f64 205 b (nr_X5_hangsOut_220__205 b)) (fun b => f64 207 b (nr_X5_hangsOut_220__207 b)) (fun b => f64 209 b (nr_X5_hangsOut_220__209 b)) (fun b => f64 211 b (nr_X5_hangsOut_220__211 b)) (fun b => f64 213 b (nr_X5_hangsOut_220__213 b)) (fun b => f64 215 b (nr_X5_hangsOut_220__215 b)) (fun b => f64 217 b (nr_X5_hangsOut_220__217 b)) (fun b => f64 219 b (nr_X5_hangsOut_220__219 b)) (f64 240 6 (by decide)) (fun b => f64 248 b (nr_X5_hangsOut_220__248 b))
  have r75 := y_B0.fr r57 (f64 211 0 (by decide)) (f64 213 0 (by decide))
  have r76 := y_U3.fr r58 (f64 191 16 (by decide)) (f64 6 6 (by decide)) (f64 191 17 (by decide)) (f64 191 18 (by decide)) (fun b => f64 3 b (nr_X5_hangsOut_220__3 b)) (fun b => f64 8 b (nr_X5_hangsOut_220__8 b)) (fun b => f64 12 b (nr_X5_hangsOut_220__12 b)) (fun b => f64 14 b (nr_X5_hangsOut_220__14 b)) (fun b => f64 16 b (nr_X5_hangsOut_220__16 b)) (fun b => f64 18 b (nr_X5_hangsOut_220__18 b)) (fun b => f64 193 b (nr_X5_hangsOut_220__193 b)) (fun b => f64 195 b (nr_X5_hangsOut_220__195 b)) (fun b => f64 197 b (nr_X5_hangsOut_220__197 b)) (fun b => f64 199 b (nr_X5_hangsOut_220__199 b)) (fun b => f64 201 b (nr_X5_hangsOut_220__201 b)) (fun b => f64 203 b (nr_X5_hangsOut_220__203 b)) (fun b => f64 205 b (nr_X5_hangsOut_220__205 b)) (fun b => f64 207 b (nr_X5_hangsOut_220__207 b)) (fun b => f64 209 b (nr_X5_hangsOut_220__209 b)) (fun b => f64 211 b (nr_X5_hangsOut_220__211 b)) (fun b => f64 213 b (nr_X5_hangsOut_220__213 b)) (fun b => f64 215 b (nr_X5_hangsOut_220__215 b)) (fun b => f64 217 b (nr_X5_hangsOut_220__217 b)) (fun b => f64 219 b (nr_X5_hangsOut_220__219 b)) (fun b => f64 222 b (nr_X5_hangsOut_220__222 b))
  refine T_ite (fun h77 => ?_) (fun h77 => ?_)
  · exact sj_X3_measureLine_258K_J81 hfu r0 s62 c63 f65 a1 x1 x14 a1 0 (by omega) (by omega) (by omega) (by omega) (by omega) r76
  · exact sj_X3_measureLine_258K_J81 hfu r0 s62 c63 f65 a1 x1 x14 a1 1 (by omega) (by omega) (by omega) (by omega) (by omega) r76
abbrev P_X3_build_258K (r0 : z_M) : z_V → z_M → Prop := fun v s' => z_CI s' ∧ z_Fr R_X3_build_258 r0 s' ∧ (y_U3 s') ∧ (v = vN)
theorem nr_X0_clear_279__3 (b : Int) : ¬ R_X0_clear_279 3 b := by
  unfold R_X0_clear_279; omega
theorem nr_X0_clear_279__8 (b : Int) : ¬ R_X0_clear_279 8 b := by
  unfold R_X0_clear_279; omega
theorem nr_X0_clear_279__12 (b : Int) : ¬ R_X0_clear_279 12 b := by
  unfold R_X0_clear_279; omega
theorem nr_X0_clear_279__14 (b : Int) : ¬ R_X0_clear_279 14 b := by
  unfold R_X0_clear_279; omega
theorem nr_X0_clear_279__16 (b : Int) : ¬ R_X0_clear_279 16 b := by
  unfold R_X0_clear_279; omega
theorem nr_X0_clear_279__18 (b : Int) : ¬ R_X0_clear_279 18 b := by
  unfold R_X0_clear_279; omega
theorem nr_X0_clear_279__193 (b : Int) : ¬ R_X0_clear_279 193 b := by
  unfold R_X0_clear_279; omega
theorem nr_X0_clear_279__195 (b : Int) : ¬ R_X0_clear_279 195 b := by
  unfold R_X0_clear_279; omega
theorem nr_X0_clear_279__197 (b : Int) : ¬ R_X0_clear_279 197 b := by
  unfold R_X0_clear_279; omega
theorem nr_X0_clear_279__199 (b : Int) : ¬ R_X0_clear_279 199 b := by
  unfold R_X0_clear_279; omega
theorem nr_X0_clear_279__201 (b : Int) : ¬ R_X0_clear_279 201 b := by
  unfold R_X0_clear_279; omega
theorem nr_X0_clear_279__203 (b : Int) : ¬ R_X0_clear_279 203 b := by
  unfold R_X0_clear_279; omega
theorem nr_X0_clear_279__205 (b : Int) : ¬ R_X0_clear_279 205 b := by
  unfold R_X0_clear_279; omega
theorem nr_X0_clear_279__207 (b : Int) : ¬ R_X0_clear_279 207 b := by
  unfold R_X0_clear_279; omega
theorem nr_X0_clear_279__209 (b : Int) : ¬ R_X0_clear_279 209 b := by
  unfold R_X0_clear_279; omega
theorem nr_X0_clear_279__211 (b : Int) : ¬ R_X0_clear_279 211 b := by
  unfold R_X0_clear_279; omega
theorem nr_X0_clear_279__213 (b : Int) : ¬ R_X0_clear_279 213 b := by
  unfold R_X0_clear_279; omega
theorem nr_X0_clear_279__215 (b : Int) : ¬ R_X0_clear_279 215 b := by
  unfold R_X0_clear_279; omega
theorem nr_X0_clear_279__217 (b : Int) : ¬ R_X0_clear_279 217 b := by
  unfold R_X0_clear_279; omega
theorem nr_X0_clear_279__219 (b : Int) : ¬ R_X0_clear_279 219 b := by
  unfold R_X0_clear_279; omega
theorem nr_X0_clear_279__222 (b : Int) : ¬ R_X0_clear_279 222 b := by
  unfold R_X0_clear_279; omega
theorem nr_X0_clear_279__248 (b : Int) : ¬ R_X0_clear_279 248 b := by
  unfold R_X0_clear_279; omega
theorem nr_X3_measureLine_258__3 (b : Int) : ¬ R_X3_measureLine_258 3 b := by
  unfold R_X3_measureLine_258; omega
theorem nr_X3_measureLine_258__8 (b : Int) : ¬ R_X3_measureLine_258 8 b := by
  unfold R_X3_measureLine_258; omega
theorem nr_X3_measureLine_258__12 (b : Int) : ¬ R_X3_measureLine_258 12 b := by
  unfold R_X3_measureLine_258; omega
theorem nr_X3_measureLine_258__14 (b : Int) : ¬ R_X3_measureLine_258 14 b := by
  unfold R_X3_measureLine_258; omega
theorem nr_X3_measureLine_258__16 (b : Int) : ¬ R_X3_measureLine_258 16 b := by
  unfold R_X3_measureLine_258; omega
theorem nr_X3_measureLine_258__18 (b : Int) : ¬ R_X3_measureLine_258 18 b := by
  unfold R_X3_measureLine_258; omega
theorem nr_X3_measureLine_258__193 (b : Int) : ¬ R_X3_measureLine_258 193 b := by
  unfold R_X3_measureLine_258; omega
theorem nr_X3_measureLine_258__195 (b : Int) : ¬ R_X3_measureLine_258 195 b := by
  unfold R_X3_measureLine_258; omega
theorem nr_X3_measureLine_258__197 (b : Int) : ¬ R_X3_measureLine_258 197 b := by
  unfold R_X3_measureLine_258; omega
theorem nr_X3_measureLine_258__199 (b : Int) : ¬ R_X3_measureLine_258 199 b := by
  unfold R_X3_measureLine_258; omega
theorem nr_X3_measureLine_258__201 (b : Int) : ¬ R_X3_measureLine_258 201 b := by
  unfold R_X3_measureLine_258; omega
theorem nr_X3_measureLine_258__203 (b : Int) : ¬ R_X3_measureLine_258 203 b := by
  unfold R_X3_measureLine_258; omega
theorem nr_X3_measureLine_258__205 (b : Int) : ¬ R_X3_measureLine_258 205 b := by
  unfold R_X3_measureLine_258; omega
theorem nr_X3_measureLine_258__207 (b : Int) : ¬ R_X3_measureLine_258 207 b := by
  unfold R_X3_measureLine_258; omega
theorem nr_X3_measureLine_258__209 (b : Int) : ¬ R_X3_measureLine_258 209 b := by
  unfold R_X3_measureLine_258; omega
theorem nr_X3_measureLine_258__211 (b : Int) : ¬ R_X3_measureLine_258 211 b := by
  unfold R_X3_measureLine_258; omega
theorem nr_X3_measureLine_258__213 (b : Int) : ¬ R_X3_measureLine_258 213 b := by
  unfold R_X3_measureLine_258; omega
theorem nr_X3_measureLine_258__215 (b : Int) : ¬ R_X3_measureLine_258 215 b := by
  unfold R_X3_measureLine_258; omega
theorem nr_X3_measureLine_258__217 (b : Int) : ¬ R_X3_measureLine_258 217 b := by
  unfold R_X3_measureLine_258; omega
theorem nr_X3_measureLine_258__219 (b : Int) : ¬ R_X3_measureLine_258 219 b := by
  unfold R_X3_measureLine_258; omega
theorem nr_X3_measureLine_258__248 (b : Int) : ¬ R_X3_measureLine_258 248 b := by
  unfold R_X3_measureLine_258; omega
theorem nr_X3_placeUnits_258__3 (b : Int) : ¬ R_X3_placeUnits_258 3 b := by
  unfold R_X3_placeUnits_258; omega
theorem nr_X3_placeUnits_258__8 (b : Int) : ¬ R_X3_placeUnits_258 8 b := by
  unfold R_X3_placeUnits_258; omega
theorem nr_X3_placeUnits_258__12 (b : Int) : ¬ R_X3_placeUnits_258 12 b := by
  unfold R_X3_placeUnits_258; omega
theorem nr_X3_placeUnits_258__14 (b : Int) : ¬ R_X3_placeUnits_258 14 b := by
  unfold R_X3_placeUnits_258; omega
theorem nr_X3_placeUnits_258__16 (b : Int) : ¬ R_X3_placeUnits_258 16 b := by
  unfold R_X3_placeUnits_258; omega
theorem nr_X3_placeUnits_258__18 (b : Int) : ¬ R_X3_placeUnits_258 18 b := by
  unfold R_X3_placeUnits_258; omega
theorem nr_X3_placeUnits_258__193 (b : Int) : ¬ R_X3_placeUnits_258 193 b := by
  unfold R_X3_placeUnits_258; omega
theorem nr_X3_placeUnits_258__195 (b : Int) : ¬ R_X3_placeUnits_258 195 b := by
  unfold R_X3_placeUnits_258; omega
theorem nr_X3_placeUnits_258__197 (b : Int) : ¬ R_X3_placeUnits_258 197 b := by
  unfold R_X3_placeUnits_258; omega
theorem nr_X3_placeUnits_258__199 (b : Int) : ¬ R_X3_placeUnits_258 199 b := by
  unfold R_X3_placeUnits_258; omega
theorem nr_X3_placeUnits_258__201 (b : Int) : ¬ R_X3_placeUnits_258 201 b := by
  unfold R_X3_placeUnits_258; omega
theorem nr_X3_placeUnits_258__203 (b : Int) : ¬ R_X3_placeUnits_258 203 b := by
  unfold R_X3_placeUnits_258; omega
theorem nr_X3_placeUnits_258__205 (b : Int) : ¬ R_X3_placeUnits_258 205 b := by
  unfold R_X3_placeUnits_258; omega
theorem nr_X3_placeUnits_258__207 (b : Int) : ¬ R_X3_placeUnits_258 207 b := by
  unfold R_X3_placeUnits_258; omega
theorem nr_X3_placeUnits_258__209 (b : Int) : ¬ R_X3_placeUnits_258 209 b := by
  unfold R_X3_placeUnits_258; omega
theorem nr_X3_placeUnits_258__211 (b : Int) : ¬ R_X3_placeUnits_258 211 b := by
  unfold R_X3_placeUnits_258; omega
theorem nr_X3_placeUnits_258__213 (b : Int) : ¬ R_X3_placeUnits_258 213 b := by
  unfold R_X3_placeUnits_258; omega
theorem nr_X3_placeUnits_258__215 (b : Int) : ¬ R_X3_placeUnits_258 215 b := by
  unfold R_X3_placeUnits_258; omega
theorem nr_X3_placeUnits_258__217 (b : Int) : ¬ R_X3_placeUnits_258 217 b := by
  unfold R_X3_placeUnits_258; omega
theorem nr_X3_placeUnits_258__219 (b : Int) : ¬ R_X3_placeUnits_258 219 b := by
  unfold R_X3_placeUnits_258; omega
theorem nr_X3_placeUnits_258__248 (b : Int) : ¬ R_X3_placeUnits_258 248 b := by
  unfold R_X3_placeUnits_258; omega
theorem nr_X3_placeUnits_258__222 (b : Int) : ¬ R_X3_placeUnits_258 222 b := by
  unfold R_X3_placeUnits_258; omega
theorem sl_X3_build_258K_L9 {fu : Nat} (hfu : 8589934592 ≤ fu) (r0 : z_M) {k : z_M → z_O} (hk : ∀ (s' : z_M), z_CI s' → z_Fr R_X3_build_258 r0 s' → (y_U3 s') → (y_SV 240 s') → z_T (k s') (P_X3_build_258K r0)) : ∀ (F : Nat) (s : z_M) (a1 : Int), z_CI s → z_Fr R_X3_build_258 r0 s → (0 ≤ a1 ∧ a1 ≤ 2147483647) → (y_U3 s) → (y_SV 240 s) → (2147483647 - a1 < (F : Int)) → z_T (fX3_build_L9 fu 258 F s a1 k) (P_X3_build_258K r0) := by
  intro F
  induction F with
  | zero =>
    intro s a1 c f b1 i0 i1 hm
    have u36 := CI_b c (k := 240) (j := 6) bd_240_6
    have u37 := CI_b c (k := 279) (j := 9) bd_279_9
    exfalso; omega
  | succ F ih =>
    intro s a1 c f b1 i0 i1 hm
    refine T_of (fX3_build_L9.eq_2 ..) ?_
    have u1 := CI_b c (k := 240) (j := 6) bd_240_6
    have u2 := CI_b c (k := 279) (j := 9) bd_279_9
    refine T_if1 (by decide +kernel) ?_
    refine T_let 240 (by decide +kernel) ?_
    refine T_if1 (by decide +kernel) ?_
    refine T_leq (fun x3 e4 => ?_)
    have u5 := CI_b c (k := 240) (j := 6) bd_240_6
    refine T_ite (fun h6 => ?_) (fun h6 => ?_)
    · exact hk s c f i0 i1
    · refine T_if1 (by decide +kernel) ?_
      refine T_useN (sf_X3_measureLine_258K hfu s c a1 (by omega) i0 i1 (by omega) (by omega)) (fun v12 s7 hq => ?_)
      obtain ⟨c8, f9, o13, rfl⟩ := hq
      refine T_vN ?_
      have f10 := z_Fr.tr (R := R_X3_build_258) f f9 rs_X3_measureLine_258__X3_build_258
      have t16 : s7 240 6 = s 240 6 := f9 240 6 (by decide)
      have u17 := CI_b c8 (k := 279) (j := 9) bd_279_9
      have r18 := y_SA.fr i1 (f9 191 16 (by decide)) (f9 6 6 (by decide)) (f9 191 17 (by decide)) (f9 191 18 (by decide)) (fun b => f9 3 b (nr_X3_measureLine_258__3 b)) (fun b => f9 8 b (nr_X3_measureLine_258__8 b)) (fun b => f9 12 b (nr_X3_measureLine_258__12 b)) (fun b => f9 14 b (nr_X3_measureLine_258__14 b)) (fun b => f9 16 b (nr_X3_measureLine_258__16 b)) (fun b => f9 18 b (nr_X3_measureLine_258__18 b)) (fun b => f9 193 b (nr_X3_measureLine_258__193 b)) (fun b => f9 195 b (nr_X3_measureLine_258__195 b)) (fun b => f9 197 b (nr_X3_measureLine_258__197 b)) (fun b => f9 199 b (nr_X3_measureLine_258__199 b)) (fun b => f9 201 b (nr_X3_measureLine_258__201 b)) (fun b => f9 203 b (nr_X3_measureLine_258__203 b)) (fun b => f9 205 b (nr_X3_measureLine_258__205 b)) (fun b => f9 207 b (nr_X3_measureLine_258__207 b)) (fun b => f9 209 b (nr_X3_measureLine_258__209 b)) (fun b => f9 211 b (nr_X3_measureLine_258__211 b)) (fun b => f9 213 b (nr_X3_measureLine_258__213 b)) (fun b => f9 215 b (nr_X3_measureLine_258__215 b)) (fun b => f9 217 b (nr_X3_measureLine_258__217 b)) (fun b => f9 219 b (nr_X3_measureLine_258__219 b)) (f9 240 6 (by decide)) (fun b => f9 248 b (nr_X3_measureLine_258__248 b))
      have r19 := y_B0.fr i0.1.1 (f9 211 0 (by decide)) (f9 213 0 (by decide))
      refine T_if1 (by decide +kernel) ?_
      refine T_useN (sf_X3_placeUnits_258 hfu s7 c8 a1 (by omega)) (fun v25 s20 hq => ?_)
      obtain ⟨c21, f22, rfl⟩ := hq
      refine T_vN ?_
      have f23 := z_Fr.tr (R := R_X3_build_258) f10 f22 rs_X3_placeUnits_258__X3_build_258
      have t28 : s20 240 6 = s7 240 6 := f22 240 6 (by decide)
      have t29 : s20 279 9 = s7 279 9 := f22 279 9 (by decide)
      have r30 := y_SA.fr r18 (f22 191 16 (by decide)) (f22 6 6 (by decide)) (f22 191 17 (by decide)) (f22 191 18 (by decide)) (fun b => f22 3 b (nr_X3_placeUnits_258__3 b)) (fun b => f22 8 b (nr_X3_placeUnits_258__8 b)) (fun b => f22 12 b (nr_X3_placeUnits_258__12 b)) (fun b => f22 14 b (nr_X3_placeUnits_258__14 b)) (fun b => f22 16 b (nr_X3_placeUnits_258__16 b)) (fun b => f22 18 b (nr_X3_placeUnits_258__18 b)) (fun b => f22 193 b (nr_X3_placeUnits_258__193 b)) (fun b => f22 195 b (nr_X3_placeUnits_258__195 b)) (fun b => f22 197 b (nr_X3_placeUnits_258__197 b)) (fun b => f22 199 b (nr_X3_placeUnits_258__199 b)) (fun b => f22 201 b (nr_X3_placeUnits_258__201 b)) (fun b => f22 203 b (nr_X3_placeUnits_258__203 b)) (fun b => f22 205 b (nr_X3_placeUnits_258__205 b)) (fun b => f22 207 b (nr_X3_placeUnits_258__207 b)) (fun b => f22 209 b (nr_X3_placeUnits_258__209 b)) (fun b => f22 211 b (nr_X3_placeUnits_258__211 b)) (fun b => f22 213 b (nr_X3_placeUnits_258__213 b)) (fun b => f22 215 b (nr_X3_placeUnits_258__215 b)) (fun b => f22 217 b (nr_X3_placeUnits_258__217 b)) (fun b => f22 219 b (nr_X3_placeUnits_258__219 b)) (f22 240 6 (by decide)) (fun b => f22 248 b (nr_X3_placeUnits_258__248 b))
      have r31 := y_B0.fr o13.1.1 (f22 211 0 (by decide)) (f22 213 0 (by decide))
      have r32 := y_U3.fr o13 (f22 191 16 (by decide)) (f22 6 6 (by decide)) (f22 191 17 (by decide)) (f22 191 18 (by decide)) (fun b => f22 3 b (nr_X3_placeUnits_258__3 b)) (fun b => f22 8 b (nr_X3_placeUnits_258__8 b)) (fun b => f22 12 b (nr_X3_placeUnits_258__12 b)) (fun b => f22 14 b (nr_X3_placeUnits_258__14 b)) (fun b => f22 16 b (nr_X3_placeUnits_258__16 b)) (fun b => f22 18 b (nr_X3_placeUnits_258__18 b)) (fun b => f22 193 b (nr_X3_placeUnits_258__193 b)) (fun b => f22 195 b (nr_X3_placeUnits_258__195 b)) (fun b => f22 197 b (nr_X3_placeUnits_258__197 b)) (fun b => f22 199 b (nr_X3_placeUnits_258__199 b)) (fun b => f22 201 b (nr_X3_placeUnits_258__201 b)) (fun b => f22 203 b (nr_X3_placeUnits_258__203 b)) (fun b => f22 205 b (nr_X3_placeUnits_258__205 b)) (fun b => f22 207 b (nr_X3_placeUnits_258__207 b)) (fun b => f22 209 b (nr_X3_placeUnits_258__209 b)) (fun b => f22 211 b (nr_X3_placeUnits_258__211 b)) (fun b => f22 213 b (nr_X3_placeUnits_258__213 b)) (fun b => f22 215 b (nr_X3_placeUnits_258__215 b)) (fun b => f22 217 b (nr_X3_placeUnits_258__217 b)) (fun b => f22 219 b (nr_X3_placeUnits_258__219 b)) (fun b => f22 222 b (nr_X3_placeUnits_258__222 b))
      refine T_leq (fun x33 e34 => ?_)
      have w35 := z_wb e34
      exact ih s20 x33 c21 f23 (by omega) r32 r30 (by omega)
theorem sf_X3_build_258K {fu : Nat} (hfu : 8589934592 ≤ fu) (r0 : z_M) (c0 : z_CI r0) (p0 : y_U3 r0) (p1 : y_SV 240 r0) : z_T (fX3_build fu r0 258) (P_X3_build_258K r0) := by
  refine T_of (fX3_build.eq_1 ..) ?_
  refine T_if1 (by decide +kernel) ?_
  refine T_let 279 (by decide +kernel) ?_
  refine T_if1 (by decide +kernel) ?_
  refine T_useN (sf_X0_clear_279 hfu r0 c0) (fun v6 s1 hq => ?_)
  obtain ⟨c2, f3, rfl⟩ := hq
  refine T_vN ?_
  have f4 := z_Fr.tr (R := R_X3_build_258) z_Fr.rf f3 rs_X0_clear_279__X3_build_258
  have t9 : s1 240 6 = r0 240 6 := f3 240 6 (by decide)
  have u10 := CI_b c2 (k := 279) (j := 9) bd_279_9
  have r11 := y_U3.fr p0 (f3 191 16 (by decide)) (f3 6 6 (by decide)) (f3 191 17 (by decide)) (f3 191 18 (by decide)) (fun b => f3 3 b (nr_X0_clear_279__3 b)) (fun b => f3 8 b (nr_X0_clear_279__8 b)) (fun b => f3 12 b (nr_X0_clear_279__12 b)) (fun b => f3 14 b (nr_X0_clear_279__14 b)) (fun b => f3 16 b (nr_X0_clear_279__16 b)) (fun b => f3 18 b (nr_X0_clear_279__18 b)) (fun b => f3 193 b (nr_X0_clear_279__193 b)) (fun b => f3 195 b (nr_X0_clear_279__195 b)) (fun b => f3 197 b (nr_X0_clear_279__197 b)) (fun b => f3 199 b (nr_X0_clear_279__199 b)) (fun b => f3 201 b (nr_X0_clear_279__201 b)) (fun b => f3 203 b (nr_X0_clear_279__203 b)) (fun b => f3 205 b (nr_X0_clear_279__205 b)) (fun b => f3 207 b (nr_X0_clear_279__207 b)) (fun b => f3 209 b (nr_X0_clear_279__209 b)) (fun b => f3 211 b (nr_X0_clear_279__211 b)) (fun b => f3 213 b (nr_X0_clear_279__213 b)) (fun b => f3 215 b (nr_X0_clear_279__215 b)) (fun b => f3 217 b (nr_X0_clear_279__217 b)) (fun b => f3 219 b (nr_X0_clear_279__219 b)) (fun b => f3 222 b (nr_X0_clear_279__222 b))
  have r12 := y_SA.fr p1 (f3 191 16 (by decide)) (f3 6 6 (by decide)) (f3 191 17 (by decide)) (f3 191 18 (by decide)) (fun b => f3 3 b (nr_X0_clear_279__3 b)) (fun b => f3 8 b (nr_X0_clear_279__8 b)) (fun b => f3 12 b (nr_X0_clear_279__12 b)) (fun b => f3 14 b (nr_X0_clear_279__14 b)) (fun b => f3 16 b (nr_X0_clear_279__16 b)) (fun b => f3 18 b (nr_X0_clear_279__18 b)) (fun b => f3 193 b (nr_X0_clear_279__193 b)) (fun b => f3 195 b (nr_X0_clear_279__195 b)) (fun b => f3 197 b (nr_X0_clear_279__197 b)) (fun b => f3 199 b (nr_X0_clear_279__199 b)) (fun b => f3 201 b (nr_X0_clear_279__201 b)) (fun b => f3 203 b (nr_X0_clear_279__203 b)) (fun b => f3 205 b (nr_X0_clear_279__205 b)) (fun b => f3 207 b (nr_X0_clear_279__207 b)) (fun b => f3 209 b (nr_X0_clear_279__209 b)) (fun b => f3 211 b (nr_X0_clear_279__211 b)) (fun b => f3 213 b (nr_X0_clear_279__213 b)) (fun b => f3 215 b (nr_X0_clear_279__215 b)) (fun b => f3 217 b (nr_X0_clear_279__217 b)) (fun b => f3 219 b (nr_X0_clear_279__219 b)) (f3 240 6 (by decide)) (fun b => f3 248 b (nr_X0_clear_279__248 b))
  have r13 := y_B0.fr p0.1.1 (f3 211 0 (by decide)) (f3 213 0 (by decide))
  refine sl_X3_build_258K_L9 hfu r0 (fun s14 c15 f16 g17 g18 => ?_) fu s1 0 c2 f4 (by omega) r11 r12 (by omega)
  have u19 := CI_b c15 (k := 240) (j := 6) bd_240_6
  have u20 := CI_b c15 (k := 279) (j := 9) bd_279_9
  refine T_if1 (by decide +kernel) ?_
  refine T_let 277 (by decide +kernel) ?_
  refine T_if1 (by decide +kernel) ?_
  refine T_let 240 (by decide +kernel) ?_
  refine T_if1 (by decide +kernel) ?_
  refine T_leq (fun x21 e22 => ?_)
  have u23 := CI_b c15 (k := 240) (j := 6) bd_240_6
  refine T_if1 (by decide +kernel) ?_
  refine T_let 279 (by decide +kernel) ?_
  refine T_if1 (by decide +kernel) ?_
  refine T_leq (fun x24 e25 => ?_)
  have u26 := CI_b c15 (k := 279) (j := 9) bd_279_9
  refine T_if1 (by decide +kernel) ?_
  refine T_put (by decide +kernel) (c := 278) (by decide +kernel) bdr_278 (by omega) c15 (fun s27 e30 c28 g31 => ?_)
  have f29 := z_Fr.up (R := R_X3_build_258) f16 g31 (fun _ => (Or.inr (Or.inr (Or.inl (⟨by decide, by decide⟩)))))
  have t32 : s27 240 6 = s14 240 6 := g31 240 6 (by decide)
  have t33 : s27 279 9 = s14 279 9 := g31 279 9 (by decide)
  have r34 := y_U3.fr g17 (g31 191 16 (by decide)) (g31 6 6 (by decide)) (g31 191 17 (by decide)) (g31 191 18 (by decide)) (fun b => g31 3 b (by decide)) (fun b => g31 8 b (by decide)) (fun b => g31 12 b (by decide)) (fun b => g31 14 b (by decide)) (fun b => g31 16 b (by decide)) (fun b => g31 18 b (by decide)) (fun b => g31 193 b (by decide)) (fun b => g31 195 b (by decide)) (fun b => g31 197 b (by decide)) (fun b => g31 199 b (by decide)) (fun b => g31 201 b (by decide)) (fun b => g31 203 b (by decide)) (fun b => g31 205 b (by decide)) (fun b => g31 207 b (by decide)) (fun b => g31 209 b (by decide)) (fun b => g31 211 b (by decide)) (fun b => g31 213 b (by decide)) (fun b => g31 215 b (by decide)) (fun b => g31 217 b (by decide)) (fun b => g31 219 b (by decide)) (fun b => g31 222 b (by decide))
  have r35 := y_SA.fr g18 (g31 191 16 (by decide)) (g31 6 6 (by decide)) (g31 191 17 (by decide)) (g31 191 18 (by decide)) (fun b => g31 3 b (by decide)) (fun b => g31 8 b (by decide)) (fun b => g31 12 b (by decide)) (fun b => g31 14 b (by decide)) (fun b => g31 16 b (by decide)) (fun b => g31 18 b (by decide)) (fun b => g31 193 b (by decide)) (fun b => g31 195 b (by decide)) (fun b => g31 197 b (by decide)) (fun b => g31 199 b (by decide)) (fun b => g31 201 b (by decide)) (fun b => g31 203 b (by decide)) (fun b => g31 205 b (by decide)) (fun b => g31 207 b (by decide)) (fun b => g31 209 b (by decide)) (fun b => g31 211 b (by decide)) (fun b => g31 213 b (by decide)) (fun b => g31 215 b (by decide)) (fun b => g31 217 b (by decide)) (fun b => g31 219 b (by decide)) (g31 240 6 (by decide)) (fun b => g31 248 b (by decide))
  have r36 := y_B0.fr g17.1.1 (g31 211 0 (by decide)) (g31 213 0 (by decide))
  exact T_ret ⟨c28, f29, r34, rfl⟩
abbrev P_X11_tapeNumber_1K (r0 : z_M) : z_V → z_M → Prop := fun v s' => z_CI s' ∧ z_Fr R_X11_tapeNumber_1 r0 s' ∧ (s' 1 12 = r0 1 12 + 4) ∧ (y_V3 s') ∧ (v = vN)
theorem sl_X11_tapeNumber_1K_L3 {fu : Nat} (hfu : 8589934592 ≤ fu) (r0 : z_M) (a1 : Int) (b1 : -2147483648 ≤ a1 ∧ a1 ≤ 2147483647) (q0 : r0 1 12 ≤ 296) {k : z_M → z_O} (hk : ∀ (s' : z_M), z_CI s' → z_Fr R_X11_tapeNumber_1 r0 s' → (8 * s' 1 12 = 8 * r0 1 12 + 32) → (y_V3 s') → z_T (k s') (P_X11_tapeNumber_1K r0)) : ∀ (F : Nat) (s : z_M) (a2 : Int), z_CI s → z_Fr R_X11_tapeNumber_1 r0 s → ((-8) ≤ a2 ∧ a2 ≤ 24) → (8 * s 1 12 + a2 = 8 * r0 1 12 + 24) → (y_V3 s) → (a2 + 2147483648 < (F : Int)) → z_T (fX11_tapeNumber_L3 fu 1 a1 F s a2 k) (P_X11_tapeNumber_1K r0) := by
  intro F
  induction F with
  | zero =>
    intro s a2 c f b2 i0 i1 hm
    have u40 := CI_b c (k := 1) (j := 12) bd_1_12
    have u41 := CI_b c (k := 1) (j := 16) bd_1_16
    exfalso; omega
  | succ F ih =>
    intro s a2 c f b2 i0 i1 hm
    refine T_of (fX11_tapeNumber_L3.eq_2 ..) ?_
    have u1 := CI_b c (k := 1) (j := 12) bd_1_12
    have u2 := CI_b c (k := 1) (j := 16) bd_1_16
    refine T_ite (fun h3 => ?_) (fun h3 => ?_)
    · exact hk s c f (by omega) i1
    · refine T_if1 (by decide +kernel) ?_
      refine T_let 4 (by decide +kernel) ?_
      refine T_if1 (by decide +kernel) ?_
      refine T_leq (fun x4 e5 => ?_)
      have u6 := CI_b c (k := 1) (j := 12) bd_1_12
      refine T_leq (fun x7 e8 => ?_)
      have w9 : -2147483648 ≤ x7 ∧ x7 ≤ 2147483647 := by rw [← e8]; exact z_i32b _
      refine T_leq (fun x10 e11 => ?_)
      have w12 : -2147483648 ≤ x10 ∧ x10 ≤ 2147483647 := by rw [← e11]; exact z_i32b _
      refine T_if1 (by decide +kernel) ?_
      refine T_put (by decide +kernel) (c := 5) (by decide +kernel) bdr_5 (by omega) c (fun s13 e16 c14 g17 => ?_)
      have f15 := z_Fr.up (R := R_X11_tapeNumber_1) f g17 (fun _ => (Or.inl (⟨by decide, by decide⟩)))
      have t18 : s13 1 12 = s 1 12 := g17 1 12 (by decide)
      have t19 : s13 1 16 = s 1 16 := g17 1 16 (by decide)
      have r20 := y_V3.fr i1 (g17 1 16 (by decide)) (g17 1 17 (by decide)) (g17 191 16 (by decide)) (g17 6 6 (by decide)) (g17 191 17 (by decide)) (g17 191 18 (by decide)) (fun b => g17 3 b (by decide)) (fun b => g17 8 b (by decide)) (fun b => g17 12 b (by decide)) (fun b => g17 14 b (by decide)) (fun b => g17 16 b (by decide)) (fun b => g17 18 b (by decide)) (fun b => g17 193 b (by decide)) (fun b => g17 195 b (by decide)) (fun b => g17 197 b (by decide)) (fun b => g17 199 b (by decide)) (fun b => g17 201 b (by decide)) (fun b => g17 203 b (by decide)) (fun b => g17 205 b (by decide)) (fun b => g17 207 b (by decide)) (fun b => g17 209 b (by decide)) (fun b => g17 211 b (by decide)) (fun b => g17 213 b (by decide)) (fun b => g17 215 b (by decide)) (fun b => g17 217 b (by decide)) (fun b => g17 219 b (by decide)) (fun b => g17 222 b (by decide)) (g17 240 6 (by decide)) (fun b => g17 248 b (by decide))
      have r21 := y_B0.fr i1.1.1 (g17 211 0 (by decide)) (g17 213 0 (by decide))
      refine T_if1 (by decide +kernel) ?_
      refine T_leq (fun x22 e23 => ?_)
      have u24 := CI_b c14 (k := 1) (j := 12) bd_1_12
      refine T_leq (fun x25 e26 => ?_)
      have w27 := z_wb e26
      refine T_if1 (by decide +kernel) ?_
      refine T_upg c14 bd_1_12 (by omega) (fun s28 c29 g31 g32 e33 => ?_)
      have f30 := z_Fr.upf (R := R_X11_tapeNumber_1) f15 g31 g32 (Or.inr (⟨rfl, by decide⟩))
      have t34 : s28 1 16 = s13 1 16 := g32 16 (by decide)
      have r35 := y_V3.fr r20 (g32 16 (by decide)) (g32 17 (by decide)) (g31 191 16 (by decide)) (g31 6 6 (by decide)) (g31 191 17 (by decide)) (g31 191 18 (by decide)) (fun b => g31 3 b (by decide)) (fun b => g31 8 b (by decide)) (fun b => g31 12 b (by decide)) (fun b => g31 14 b (by decide)) (fun b => g31 16 b (by decide)) (fun b => g31 18 b (by decide)) (fun b => g31 193 b (by decide)) (fun b => g31 195 b (by decide)) (fun b => g31 197 b (by decide)) (fun b => g31 199 b (by decide)) (fun b => g31 201 b (by decide)) (fun b => g31 203 b (by decide)) (fun b => g31 205 b (by decide)) (fun b => g31 207 b (by decide)) (fun b => g31 209 b (by decide)) (fun b => g31 211 b (by decide)) (fun b => g31 213 b (by decide)) (fun b => g31 215 b (by decide)) (fun b => g31 217 b (by decide)) (fun b => g31 219 b (by decide)) (fun b => g31 222 b (by decide)) (g31 240 6 (by decide)) (fun b => g31 248 b (by decide))
      have r36 := y_B0.fr r21 (g31 211 0 (by decide)) (g31 213 0 (by decide))
      refine T_leq (fun x37 e38 => ?_)
      have w39 := z_wb e38
      exact ih s28 x37 c29 f30 (by omega) (by omega) r35 (by omega)
theorem sf_X11_tapeNumber_1K {fu : Nat} (hfu : 8589934592 ≤ fu) (r0 : z_M) (c0 : z_CI r0) (a1 : Int) (b1 : -2147483648 ≤ a1 ∧ a1 ≤ 2147483647) (p0 : r0 1 12 ≤ 296) (p1 : y_V3 r0) : z_T (fX11_tapeNumber fu r0 1 a1) (P_X11_tapeNumber_1K r0) := by
  refine T_of (fX11_tapeNumber.eq_1 ..) ?_
  refine sl_X11_tapeNumber_1K_L3 hfu r0 a1 (by omega) (by omega) (fun s1 c2 f3 g4 g5 => ?_) fu r0 24 c0 z_Fr.rf (by omega) (by omega) p1 (by omega)
  have u6 := CI_b c2 (k := 1) (j := 12) bd_1_12
  have u7 := CI_b c2 (k := 1) (j := 16) bd_1_16
  exact T_ret ⟨c2, f3, by omega, g5, rfl⟩
abbrev P_X11_feed_1K (r0 : z_M) : z_V → z_M → Prop := fun v s' => z_CI s' ∧ z_Fr R_X11_feed_1 r0 s' ∧ (y_V3 s') ∧ (∃ x, v = vI x ∧ -2147483648 ≤ x ∧ x ≤ 2147483647 ∧ ((r0 1 12 ≤ 280 ∧ s' 1 12 = r0 1 12 + 20 ∧ x = r0 1 12 + 20) ∨ (280 < r0 1 12 ∧ x = -1 ∧ s' 1 12 = r0 1 12)))
theorem nr_X11_tapeNumber_1__222 (b : Int) : ¬ R_X11_tapeNumber_1 222 b := by
  unfold R_X11_tapeNumber_1; omega
theorem nr_X11_tapeNumber_1__248 (b : Int) : ¬ R_X11_tapeNumber_1 248 b := by
  unfold R_X11_tapeNumber_1; omega
set_option maxHeartbeats 4000000 in
theorem sf_X11_feed_1K {fu : Nat} (hfu : 8589934592 ≤ fu) (r0 : z_M) (c0 : z_CI r0) (a1 : Int) (a2 : Int) (a3 : Int) (a4 : Int) (a5 : Int) (b1 : -2147483648 ≤ a1 ∧ a1 ≤ 2147483647) (b2 : -2147483648 ≤ a2 ∧ a2 ≤ 2147483647) (b3 : -2147483648 ≤ a3 ∧ a3 ≤ 2147483647) (b4 : -2147483648 ≤ a4 ∧ a4 ≤ 2147483647) (b5 : -2147483648 ≤ a5 ∧ a5 ≤ 2147483647) (p0 : y_V3 r0) : z_T (fX11_feed fu r0 1 a1 a2 a3 a4 a5) (P_X11_feed_1K r0) := by
  refine T_of (fX11_feed.eq_1 ..) ?_
  refine T_if1 (by decide +kernel) ?_
  refine T_leq (fun x1 e2 => ?_)
  have u3 := CI_b c0 (k := 1) (j := 12) bd_1_12
  refine T_ite (fun h4 => ?_) (fun h4 => ?_)
  · refine T_if1 (by decide +kernel) ?_
    refine T_useN (sf_X11_tapeNumber_1K hfu r0 c0 a1 (by omega) (by omega) p0) (fun v10 s5 hq => ?_)
    obtain ⟨c6, f7, o11, o12, rfl⟩ := hq
    refine T_vN ?_
    have f8 := z_Fr.tr (R := R_X11_feed_1) z_Fr.rf f7 rs_X11_tapeNumber_1__X11_feed_1
    have u15 := CI_b c6 (k := 1) (j := 12) bd_1_12
    have r16 := y_V3.fr p0 (f7 1 16 (by decide)) (f7 1 17 (by decide)) (f7 191 16 (by decide)) (f7 6 6 (by decide)) (f7 191 17 (by decide)) (f7 191 18 (by decide)) (fun b => f7 3 b (nr_X11_tapeNumber_1__3 b)) (fun b => f7 8 b (nr_X11_tapeNumber_1__8 b)) (fun b => f7 12 b (nr_X11_tapeNumber_1__12 b)) (fun b => f7 14 b (nr_X11_tapeNumber_1__14 b)) (fun b => f7 16 b (nr_X11_tapeNumber_1__16 b)) (fun b => f7 18 b (nr_X11_tapeNumber_1__18 b)) (fun b => f7 193 b (nr_X11_tapeNumber_1__193 b)) (fun b => f7 195 b (nr_X11_tapeNumber_1__195 b)) (fun b => f7 197 b (nr_X11_tapeNumber_1__197 b)) (fun b => f7 199 b (nr_X11_tapeNumber_1__199 b)) (fun b => f7 201 b (nr_X11_tapeNumber_1__201 b)) (fun b => f7 203 b (nr_X11_tapeNumber_1__203 b)) (fun b => f7 205 b (nr_X11_tapeNumber_1__205 b)) (fun b => f7 207 b (nr_X11_tapeNumber_1__207 b)) (fun b => f7 209 b (nr_X11_tapeNumber_1__209 b)) (fun b => f7 211 b (nr_X11_tapeNumber_1__211 b)) (fun b => f7 213 b (nr_X11_tapeNumber_1__213 b)) (fun b => f7 215 b (nr_X11_tapeNumber_1__215 b)) (fun b => f7 217 b (nr_X11_tapeNumber_1__217 b)) (fun b => f7 219 b (nr_X11_tapeNumber_1__219 b)) (fun b => f7 222 b (nr_X11_tapeNumber_1__222 b)) (f7 240 6 (by decide)) (fun b => f7 248 b (nr_X11_tapeNumber_1__248 b))
    have r17 := y_B0.fr p0.1.1 (f7 211 0 (by decide)) (f7 213 0 (by decide))
    refine T_if1 (by decide +kernel) ?_
    refine T_useN (sf_X11_tapeNumber_1K hfu s5 c6 a2 (by omega) (by omega) o12) (fun v23 s18 hq => ?_)
    obtain ⟨c19, f20, o24, o25, rfl⟩ := hq
    refine T_vN ?_
    have f21 := z_Fr.tr (R := R_X11_feed_1) f8 f20 rs_X11_tapeNumber_1__X11_feed_1
    have u28 := CI_b c19 (k := 1) (j := 12) bd_1_12
    have r29 := y_V3.fr o12 (f20 1 16 (by decide)) (f20 1 17 (by decide)) (f20 191 16 (by decide)) (f20 6 6 (by decide)) (f20 191 17 (by decide)) (f20 191 18 (by decide)) (fun b => f20 3 b (nr_X11_tapeNumber_1__3 b)) (fun b => f20 8 b (nr_X11_tapeNumber_1__8 b)) (fun b => f20 12 b (nr_X11_tapeNumber_1__12 b)) (fun b => f20 14 b (nr_X11_tapeNumber_1__14 b)) (fun b => f20 16 b (nr_X11_tapeNumber_1__16 b)) (fun b => f20 18 b (nr_X11_tapeNumber_1__18 b)) (fun b => f20 193 b (nr_X11_tapeNumber_1__193 b)) (fun b => f20 195 b (nr_X11_tapeNumber_1__195 b)) (fun b => f20 197 b (nr_X11_tapeNumber_1__197 b)) (fun b => f20 199 b (nr_X11_tapeNumber_1__199 b)) (fun b => f20 201 b (nr_X11_tapeNumber_1__201 b)) (fun b => f20 203 b (nr_X11_tapeNumber_1__203 b)) (fun b => f20 205 b (nr_X11_tapeNumber_1__205 b)) (fun b => f20 207 b (nr_X11_tapeNumber_1__207 b)) (fun b => f20 209 b (nr_X11_tapeNumber_1__209 b)) (fun b => f20 211 b (nr_X11_tapeNumber_1__211 b)) (fun b => f20 213 b (nr_X11_tapeNumber_1__213 b)) (fun b => f20 215 b (nr_X11_tapeNumber_1__215 b)) (fun b => f20 217 b (nr_X11_tapeNumber_1__217 b)) (fun b => f20 219 b (nr_X11_tapeNumber_1__219 b)) (fun b => f20 222 b (nr_X11_tapeNumber_1__222 b)) (f20 240 6 (by decide)) (fun b => f20 248 b (nr_X11_tapeNumber_1__248 b))
    have r30 := y_B0.fr o12.1.1 (f20 211 0 (by decide)) (f20 213 0 (by decide))
    refine T_if1 (by decide +kernel) ?_
    refine T_useN (sf_X11_tapeNumber_1K hfu s18 c19 a3 (by omega) (by omega) o25) (fun v36 s31 hq => ?_)
    obtain ⟨c32, f33, o37, o38, rfl⟩ := hq
    refine T_vN ?_
    have f34 := z_Fr.tr (R := R_X11_feed_1) f21 f33 rs_X11_tapeNumber_1__X11_feed_1
    have u41 := CI_b c32 (k := 1) (j := 12) bd_1_12
    have r42 := y_V3.fr o25 (f33 1 16 (by decide)) (f33 1 17 (by decide)) (f33 191 16 (by decide)) (f33 6 6 (by decide)) (f33 191 17 (by decide)) (f33 191 18 (by decide)) (fun b => f33 3 b (nr_X11_tapeNumber_1__3 b)) (fun b => f33 8 b (nr_X11_tapeNumber_1__8 b)) (fun b => f33 12 b (nr_X11_tapeNumber_1__12 b)) (fun b => f33 14 b (nr_X11_tapeNumber_1__14 b)) (fun b => f33 16 b (nr_X11_tapeNumber_1__16 b)) (fun b => f33 18 b (nr_X11_tapeNumber_1__18 b)) (fun b => f33 193 b (nr_X11_tapeNumber_1__193 b)) (fun b => f33 195 b (nr_X11_tapeNumber_1__195 b)) (fun b => f33 197 b (nr_X11_tapeNumber_1__197 b)) (fun b => f33 199 b (nr_X11_tapeNumber_1__199 b)) (fun b => f33 201 b (nr_X11_tapeNumber_1__201 b)) (fun b => f33 203 b (nr_X11_tapeNumber_1__203 b)) (fun b => f33 205 b (nr_X11_tapeNumber_1__205 b)) (fun b => f33 207 b (nr_X11_tapeNumber_1__207 b)) (fun b => f33 209 b (nr_X11_tapeNumber_1__209 b)) (fun b => f33 211 b (nr_X11_tapeNumber_1__211 b)) (fun b => f33 213 b (nr_X11_tapeNumber_1__213 b)) (fun b => f33 215 b (nr_X11_tapeNumber_1__215 b)) (fun b => f33 217 b (nr_X11_tapeNumber_1__217 b)) (fun b => f33 219 b (nr_X11_tapeNumber_1__219 b)) (fun b => f33 222 b (nr_X11_tapeNumber_1__222 b)) (f33 240 6 (by decide)) (fun b => f33 248 b (nr_X11_tapeNumber_1__248 b))
    have r43 := y_B0.fr o25.1.1 (f33 211 0 (by decide)) (f33 213 0 (by decide))
    refine T_if1 (by decide +kernel) ?_
    refine T_useN (sf_X11_tapeNumber_1K hfu s31 c32 a4 (by omega) (by omega) o38) (fun v49 s44 hq => ?_)
    obtain ⟨c45, f46, o50, o51, rfl⟩ := hq
    refine T_vN ?_
    have f47 := z_Fr.tr (R := R_X11_feed_1) f34 f46 rs_X11_tapeNumber_1__X11_feed_1
    have u54 := CI_b c45 (k := 1) (j := 12) bd_1_12
    have r55 := y_V3.fr o38 (f46 1 16 (by decide)) (f46 1 17 (by decide)) (f46 191 16 (by decide)) (f46 6 6 (by decide)) (f46 191 17 (by decide)) (f46 191 18 (by decide)) (fun b => f46 3 b (nr_X11_tapeNumber_1__3 b)) (fun b => f46 8 b (nr_X11_tapeNumber_1__8 b)) (fun b => f46 12 b (nr_X11_tapeNumber_1__12 b)) (fun b => f46 14 b (nr_X11_tapeNumber_1__14 b)) (fun b => f46 16 b (nr_X11_tapeNumber_1__16 b)) (fun b => f46 18 b (nr_X11_tapeNumber_1__18 b)) (fun b => f46 193 b (nr_X11_tapeNumber_1__193 b)) (fun b => f46 195 b (nr_X11_tapeNumber_1__195 b)) (fun b => f46 197 b (nr_X11_tapeNumber_1__197 b)) (fun b => f46 199 b (nr_X11_tapeNumber_1__199 b)) (fun b => f46 201 b (nr_X11_tapeNumber_1__201 b)) (fun b => f46 203 b (nr_X11_tapeNumber_1__203 b)) (fun b => f46 205 b (nr_X11_tapeNumber_1__205 b)) (fun b => f46 207 b (nr_X11_tapeNumber_1__207 b)) (fun b => f46 209 b (nr_X11_tapeNumber_1__209 b)) (fun b => f46 211 b (nr_X11_tapeNumber_1__211 b)) (fun b => f46 213 b (nr_X11_tapeNumber_1__213 b)) (fun b => f46 215 b (nr_X11_tapeNumber_1__215 b)) (fun b => f46 217 b (nr_X11_tapeNumber_1__217 b)) (fun b => f46 219 b (nr_X11_tapeNumber_1__219 b)) (fun b => f46 222 b (nr_X11_tapeNumber_1__222 b)) (f46 240 6 (by decide)) (fun b => f46 248 b (nr_X11_tapeNumber_1__248 b))
    have r56 := y_B0.fr o38.1.1 (f46 211 0 (by decide)) (f46 213 0 (by decide))
    refine T_if1 (by decide +kernel) ?_
    refine T_useN (sf_X11_tapeNumber_1K hfu s44 c45 a5 (by omega) (by omega) o51) (fun v62 s57 hq => ?_)
    obtain ⟨c58, f59, o63, o64, rfl⟩ := hq
    refine T_vN ?_
    have f60 := z_Fr.tr (R := R_X11_feed_1) f47 f59 rs_X11_tapeNumber_1__X11_feed_1
    have u67 := CI_b c58 (k := 1) (j := 12) bd_1_12
    have r68 := y_V3.fr o51 (f59 1 16 (by decide)) (f59 1 17 (by decide)) (f59 191 16 (by decide)) (f59 6 6 (by decide)) (f59 191 17 (by decide)) (f59 191 18 (by decide)) (fun b => f59 3 b (nr_X11_tapeNumber_1__3 b)) (fun b => f59 8 b (nr_X11_tapeNumber_1__8 b)) (fun b => f59 12 b (nr_X11_tapeNumber_1__12 b)) (fun b => f59 14 b (nr_X11_tapeNumber_1__14 b)) (fun b => f59 16 b (nr_X11_tapeNumber_1__16 b)) (fun b => f59 18 b (nr_X11_tapeNumber_1__18 b)) (fun b => f59 193 b (nr_X11_tapeNumber_1__193 b)) (fun b => f59 195 b (nr_X11_tapeNumber_1__195 b)) (fun b => f59 197 b (nr_X11_tapeNumber_1__197 b)) (fun b => f59 199 b (nr_X11_tapeNumber_1__199 b)) (fun b => f59 201 b (nr_X11_tapeNumber_1__201 b)) (fun b => f59 203 b (nr_X11_tapeNumber_1__203 b)) (fun b => f59 205 b (nr_X11_tapeNumber_1__205 b)) (fun b => f59 207 b (nr_X11_tapeNumber_1__207 b)) (fun b => f59 209 b (nr_X11_tapeNumber_1__209 b)) (fun b => f59 211 b (nr_X11_tapeNumber_1__211 b)) (fun b => f59 213 b (nr_X11_tapeNumber_1__213 b)) (fun b => f59 215 b (nr_X11_tapeNumber_1__215 b)) (fun b => f59 217 b (nr_X11_tapeNumber_1__217 b)) (fun b => f59 219 b (nr_X11_tapeNumber_1__219 b)) (fun b => f59 222 b (nr_X11_tapeNumber_1__222 b)) (f59 240 6 (by decide)) (fun b => f59 248 b (nr_X11_tapeNumber_1__248 b))
    have r69 := y_B0.fr o51.1.1 (f59 211 0 (by decide)) (f59 213 0 (by decide))
    refine T_if1 (by decide +kernel) ?_
    refine T_leq (fun x70 e71 => ?_)
    have u72 := CI_b c58 (k := 1) (j := 12) bd_1_12
    exact T_ret ⟨c58, f60, o64, ⟨x70, rfl, by omega, by omega, by omega⟩⟩
  · exact T_ret ⟨c0, z_Fr.rf, p0, ⟨(-1), rfl, by omega, by omega, by omega⟩⟩
abbrev P_X11_readTape_1K (r0 : z_M) : z_V → z_M → Prop := fun v s' => z_CI s' ∧ z_Fr R_X11_readTape_1 r0 s' ∧ (y_V3 s') ∧ (s' 1 12 = 0) ∧ (∃ x, v = vI x ∧ -2147483648 ≤ x ∧ x ≤ 2147483647)
theorem nr_X6_read_32_4__222 (b : Int) : ¬ R_X6_read_32_4 222 b := by
  unfold R_X6_read_32_4; omega
theorem nr_X6_read_32_4__248 (b : Int) : ¬ R_X6_read_32_4 248 b := by
  unfold R_X6_read_32_4; omega
theorem sj_X11_readTape_1K_J68 {fu : Nat} (hfu : 8589934592 ≤ fu) (r0 s : z_M) (c : z_CI s) (f : z_Fr R_X11_readTape_1 r0 s) (a2 : Int) (b2 : -2147483648 ≤ a2 ∧ a2 ≤ 2147483647) (p0 : s 1 12 = 0) (p1 : y_V3 s) : z_T (fX11_readTape_J68 fu s a2) (P_X11_readTape_1K r0) := by
  refine T_of (fX11_readTape_J68.eq_1 ..) ?_
  have u1 := CI_b c (k := 1) (j := 12) bd_1_12
  have u2 := CI_b c (k := 32) (j := 7) bd_32_7
  exact T_ret ⟨c, f, p1, by omega, ⟨a2, rfl, by omega, by omega⟩⟩
theorem nr_X2_keep_33_6__222 (b : Int) : ¬ R_X2_keep_33_6 222 b := by
  unfold R_X2_keep_33_6; omega
theorem nr_X2_keep_33_6__248 (b : Int) : ¬ R_X2_keep_33_6 248 b := by
  unfold R_X2_keep_33_6; omega
theorem nr_X9_copyFrom_6_19__222 (b : Int) : ¬ R_X9_copyFrom_6_19 222 b := by
  unfold R_X9_copyFrom_6_19; omega
theorem nr_X9_copyFrom_6_19__248 (b : Int) : ¬ R_X9_copyFrom_6_19 248 b := by
  unfold R_X9_copyFrom_6_19; omega
theorem sj_X11_readTape_1K_J29 {fu : Nat} (hfu : 8589934592 ≤ fu) (r0 s : z_M) (c : z_CI s) (f : z_Fr R_X11_readTape_1 r0 s) (a2 : Int) (t1 : Int) (b2 : -2147483648 ≤ a2 ∧ a2 ≤ 2147483647) (d1 : -2147483648 ≤ t1 ∧ t1 ≤ 2147483647) (p0 : y_V3 s) : z_T (fX11_readTape_J29 fu s 1 a2 1 t1) (P_X11_readTape_1K r0) := by
  refine T_of (fX11_readTape_J29.eq_1 ..) ?_
  have u1 := CI_b c (k := 1) (j := 12) bd_1_12
  have u2 := CI_b c (k := 32) (j := 7) bd_32_7
  refine T_if1 (by decide +kernel) ?_
  refine T_upg c bd_1_13 (by omega) (fun s3 c4 g6 g7 e8 => ?_)
  have f5 := z_Fr.upf (R := R_X11_readTape_1) f g6 g7 (Or.inr (Or.inr (Or.inl (⟨rfl, by decide⟩))))
  have t9 : s3 1 12 = s 1 12 := g7 12 (by decide)
  have t10 : s3 32 7 = s 32 7 := g6 32 7 (by decide)
  have r11 := y_V3.fr p0 (g7 16 (by decide)) (g7 17 (by decide)) (g6 191 16 (by decide)) (g6 6 6 (by decide)) (g6 191 17 (by decide)) (g6 191 18 (by decide)) (fun b => g6 3 b (by decide)) (fun b => g6 8 b (by decide)) (fun b => g6 12 b (by decide)) (fun b => g6 14 b (by decide)) (fun b => g6 16 b (by decide)) (fun b => g6 18 b (by decide)) (fun b => g6 193 b (by decide)) (fun b => g6 195 b (by decide)) (fun b => g6 197 b (by decide)) (fun b => g6 199 b (by decide)) (fun b => g6 201 b (by decide)) (fun b => g6 203 b (by decide)) (fun b => g6 205 b (by decide)) (fun b => g6 207 b (by decide)) (fun b => g6 209 b (by decide)) (fun b => g6 211 b (by decide)) (fun b => g6 213 b (by decide)) (fun b => g6 215 b (by decide)) (fun b => g6 217 b (by decide)) (fun b => g6 219 b (by decide)) (fun b => g6 222 b (by decide)) (g6 240 6 (by decide)) (fun b => g6 248 b (by decide))
  have r12 := y_B0.fr p0.1.1 (g6 211 0 (by decide)) (g6 213 0 (by decide))
  refine T_if1 (by decide +kernel) ?_
  refine T_upg c4 bd_1_12 (by omega) (fun s13 c14 g16 g17 e18 => ?_)
  have f15 := z_Fr.upf (R := R_X11_readTape_1) f5 g16 g17 (Or.inr (Or.inr (Or.inl (⟨rfl, by decide⟩))))
  have t19 : s13 32 7 = s3 32 7 := g16 32 7 (by decide)
  have r20 := y_V3.fr r11 (g17 16 (by decide)) (g17 17 (by decide)) (g16 191 16 (by decide)) (g16 6 6 (by decide)) (g16 191 17 (by decide)) (g16 191 18 (by decide)) (fun b => g16 3 b (by decide)) (fun b => g16 8 b (by decide)) (fun b => g16 12 b (by decide)) (fun b => g16 14 b (by decide)) (fun b => g16 16 b (by decide)) (fun b => g16 18 b (by decide)) (fun b => g16 193 b (by decide)) (fun b => g16 195 b (by decide)) (fun b => g16 197 b (by decide)) (fun b => g16 199 b (by decide)) (fun b => g16 201 b (by decide)) (fun b => g16 203 b (by decide)) (fun b => g16 205 b (by decide)) (fun b => g16 207 b (by decide)) (fun b => g16 209 b (by decide)) (fun b => g16 211 b (by decide)) (fun b => g16 213 b (by decide)) (fun b => g16 215 b (by decide)) (fun b => g16 217 b (by decide)) (fun b => g16 219 b (by decide)) (fun b => g16 222 b (by decide)) (g16 240 6 (by decide)) (fun b => g16 248 b (by decide))
  have r21 := y_B0.fr r12 (g16 211 0 (by decide)) (g16 213 0 (by decide))
  refine T_ite (fun h22 => ?_) (fun h22 => ?_)
  · exact sj_X11_readTape_1K_J68 hfu r0 s13 c14 f15 a2 (by omega) (by omega) r20
  · refine T_if1 (by decide +kernel) ?_
    refine T_let 33 (by decide +kernel) ?_
    refine T_if1 (by decide +kernel) ?_
    refine T_let 6 (by decide +kernel) ?_
    refine T_if1 (by decide +kernel) ?_
    refine T_useN (sf_X2_keep_33_6 hfu s13 c14) (fun v28 s23 hq => ?_)
    obtain ⟨c24, f25, rfl⟩ := hq
    refine T_vN ?_
    have f26 := z_Fr.tr (R := R_X11_readTape_1) f15 f25 rs_X2_keep_33_6__X11_readTape_1
    have t31 : s23 1 12 = s13 1 12 := f25 1 12 (by decide)
    have t32 : s23 32 7 = s13 32 7 := f25 32 7 (by decide)
    have r33 := y_V3.fr r20 (f25 1 16 (by decide)) (f25 1 17 (by decide)) (f25 191 16 (by decide)) (f25 6 6 (by decide)) (f25 191 17 (by decide)) (f25 191 18 (by decide)) (fun b => f25 3 b (nr_X2_keep_33_6__3 b)) (fun b => f25 8 b (nr_X2_keep_33_6__8 b)) (fun b => f25 12 b (nr_X2_keep_33_6__12 b)) (fun b => f25 14 b (nr_X2_keep_33_6__14 b)) (fun b => f25 16 b (nr_X2_keep_33_6__16 b)) (fun b => f25 18 b (nr_X2_keep_33_6__18 b)) (fun b => f25 193 b (nr_X2_keep_33_6__193 b)) (fun b => f25 195 b (nr_X2_keep_33_6__195 b)) (fun b => f25 197 b (nr_X2_keep_33_6__197 b)) (fun b => f25 199 b (nr_X2_keep_33_6__199 b)) (fun b => f25 201 b (nr_X2_keep_33_6__201 b)) (fun b => f25 203 b (nr_X2_keep_33_6__203 b)) (fun b => f25 205 b (nr_X2_keep_33_6__205 b)) (fun b => f25 207 b (nr_X2_keep_33_6__207 b)) (fun b => f25 209 b (nr_X2_keep_33_6__209 b)) (fun b => f25 211 b (nr_X2_keep_33_6__211 b)) (fun b => f25 213 b (nr_X2_keep_33_6__213 b)) (fun b => f25 215 b (nr_X2_keep_33_6__215 b)) (fun b => f25 217 b (nr_X2_keep_33_6__217 b)) (fun b => f25 219 b (nr_X2_keep_33_6__219 b)) (fun b => f25 222 b (nr_X2_keep_33_6__222 b)) (f25 240 6 (by decide)) (fun b => f25 248 b (nr_X2_keep_33_6__248 b))
    have r34 := y_B0.fr r21 (f25 211 0 (by decide)) (f25 213 0 (by decide))
    refine T_if1 (by decide +kernel) ?_
    refine T_let 6 (by decide +kernel) ?_
    refine T_if1 (by decide +kernel) ?_
    refine T_let 19 (by decide +kernel) ?_
    refine T_if1 (by decide +kernel) ?_
    refine T_useN (sf_X9_copyFrom_6_19 hfu s23 c24) (fun v40 s35 hq => ?_)
    obtain ⟨c36, f37, rfl⟩ := hq
    refine T_vN ?_
    have f38 := z_Fr.tr (R := R_X11_readTape_1) f26 f37 rs_X9_copyFrom_6_19__X11_readTape_1
    have t43 : s35 1 12 = s23 1 12 := f37 1 12 (by decide)
    have t44 : s35 32 7 = s23 32 7 := f37 32 7 (by decide)
    have r45 := y_B0.fr r34 (f37 211 0 (by decide)) (f37 213 0 (by decide))
    refine T_if1 ⟨(by decide +kernel), by unfold z_bl; omega⟩ ?_
    refine T_upg c36 bd_1_16 (by omega) (fun s46 c47 g49 g50 e51 => ?_)
    have f48 := z_Fr.upf (R := R_X11_readTape_1) f38 g49 g50 (Or.inr (Or.inr (Or.inl (⟨rfl, by decide⟩))))
    have t52 : s46 1 12 = s35 1 12 := g50 12 (by decide)
    have t53 : s46 32 7 = s35 32 7 := g49 32 7 (by decide)
    have r54 := y_B0.fr r45 (g49 211 0 (by decide)) (g49 213 0 (by decide))
    exact sj_X11_readTape_1K_J68 hfu r0 s46 c47 f48 a2 (by omega) (by omega) (y_V3.z r54 (by omega))
theorem sf_X11_readTape_1K {fu : Nat} (hfu : 8589934592 ≤ fu) (r0 : z_M) (c0 : z_CI r0) (a1 : Int) (b1 : -2147483648 ≤ a1 ∧ a1 ≤ 2147483647) (p0 : y_V3 r0) : z_T (fX11_readTape fu r0 1 a1) (P_X11_readTape_1K r0) := by
  refine T_of (fX11_readTape.eq_1 ..) ?_
  refine T_if1 (by decide +kernel) ?_
  refine T_let 32 (by decide +kernel) ?_
  refine T_if1 (by decide +kernel) ?_
  refine T_let 4 (by decide +kernel) ?_
  refine T_if1 (by decide +kernel) ?_
  refine T_useI (sf_X6_read_32_4 hfu r0 c0 a1 (by omega)) (fun v6 s1 hq => ?_)
  obtain ⟨c2, f3, ⟨x5, rfl, b7, b8⟩⟩ := hq
  refine T_vI ?_
  have f4 := z_Fr.tr (R := R_X11_readTape_1) z_Fr.rf f3 rs_X6_read_32_4__X11_readTape_1
  have t9 : s1 1 12 = r0 1 12 := f3 1 12 (by decide)
  have u10 := CI_b c2 (k := 32) (j := 7) bd_32_7
  have r11 := y_V3.fr p0 (f3 1 16 (by decide)) (f3 1 17 (by decide)) (f3 191 16 (by decide)) (f3 6 6 (by decide)) (f3 191 17 (by decide)) (f3 191 18 (by decide)) (fun b => f3 3 b (nr_X6_read_32_4__3 b)) (fun b => f3 8 b (nr_X6_read_32_4__8 b)) (fun b => f3 12 b (nr_X6_read_32_4__12 b)) (fun b => f3 14 b (nr_X6_read_32_4__14 b)) (fun b => f3 16 b (nr_X6_read_32_4__16 b)) (fun b => f3 18 b (nr_X6_read_32_4__18 b)) (fun b => f3 193 b (nr_X6_read_32_4__193 b)) (fun b => f3 195 b (nr_X6_read_32_4__195 b)) (fun b => f3 197 b (nr_X6_read_32_4__197 b)) (fun b => f3 199 b (nr_X6_read_32_4__199 b)) (fun b => f3 201 b (nr_X6_read_32_4__201 b)) (fun b => f3 203 b (nr_X6_read_32_4__203 b)) (fun b => f3 205 b (nr_X6_read_32_4__205 b)) (fun b => f3 207 b (nr_X6_read_32_4__207 b)) (fun b => f3 209 b (nr_X6_read_32_4__209 b)) (fun b => f3 211 b (nr_X6_read_32_4__211 b)) (fun b => f3 213 b (nr_X6_read_32_4__213 b)) (fun b => f3 215 b (nr_X6_read_32_4__215 b)) (fun b => f3 217 b (nr_X6_read_32_4__217 b)) (fun b => f3 219 b (nr_X6_read_32_4__219 b)) (fun b => f3 222 b (nr_X6_read_32_4__222 b)) (f3 240 6 (by decide)) (fun b => f3 248 b (nr_X6_read_32_4__248 b))
  have r12 := y_B0.fr p0.1.1 (f3 211 0 (by decide)) (f3 213 0 (by decide))
  refine T_ite (fun h13 => ?_) (fun h13 => ?_)
  · refine T_if1 (by decide +kernel) ?_
    refine T_let 32 (by decide +kernel) ?_
    refine T_if1 (by decide +kernel) ?_
    refine T_leq (fun x14 e15 => ?_)
    have u16 := CI_b c2 (k := 32) (j := 7) bd_32_7
    exact sj_X11_readTape_1K_J29 hfu r0 s1 c2 f4 x5 x14 (by omega) (by omega) r11
  · exact sj_X11_readTape_1K_J29 hfu r0 s1 c2 f4 x5 (-1) (by omega) (by omega) r11
abbrev P_X11_refresh_1K (r0 : z_M) : z_V → z_M → Prop := fun v s' => z_CI s' ∧ z_Fr R_X11_refresh_1 r0 s' ∧ (y_U3 s') ∧ (y_SV 240 s') ∧ (v = vN)
theorem sj_X11_refresh_1K_J78 {fu : Nat} (hfu : 8589934592 ≤ fu) (r0 s : z_M) (c : z_CI s) (f : z_Fr R_X11_refresh_1 r0 s) (p0 : y_U3 s) (p1 : y_SV 240 s) : z_T (fX11_refresh_J78 fu s) (P_X11_refresh_1K r0) := by
  refine T_of (fX11_refresh_J78.eq_1 ..) ?_
  have u1 := CI_b c (k := 1) (j := 16) bd_1_16
  have u2 := CI_b c (k := 1) (j := 17) bd_1_17
  exact T_ret ⟨c, f, p0, p1, rfl⟩
theorem nr_X3_build_258__248 (b : Int) : ¬ R_X3_build_258 248 b := by
  unfold R_X3_build_258; omega
theorem nr_X3_build_258__257 (b : Int) : ¬ R_X3_build_258 257 b := by
  unfold R_X3_build_258; omega
theorem sj_X11_refresh_1K_J31 {fu : Nat} (hfu : 8589934592 ≤ fu) (r0 s : z_M) (c : z_CI s) (f : z_Fr R_X11_refresh_1 r0 s) (p0 : y_U3 s) (p1 : y_L3 s) : z_T (fX11_refresh_J31 fu s 1) (P_X11_refresh_1K r0) := by
  refine T_of (fX11_refresh_J31.eq_1 ..) ?_
  have u1 := CI_b c (k := 1) (j := 16) bd_1_16
  have u2 := CI_b c (k := 1) (j := 17) bd_1_17
  refine T_if1 (by decide +kernel) ?_
  refine T_leq (fun x3 e4 => ?_)
  have u5 := CI_b c (k := 1) (j := 17) bd_1_17
  refine T_ite (fun h6 => ?_) (fun h6 => ?_)
  · exact sj_X11_refresh_1K_J78 hfu r0 s c f p0 (y_L3.to p1 (by omega))
  · refine T_if1 (by decide +kernel) ?_
    refine T_let 240 (by decide +kernel) ?_
    refine T_if1 (by decide +kernel) ?_
    refine T_let 2 (by decide +kernel) ?_
    refine T_if1 (by decide +kernel) ?_
    refine T_get (by decide +kernel) (c := 3) (by decide +kernel) bdr_3 (by decide) c (fun x7 e8 b9 w10 => ?_)
    have l11 : z_ln 2 = 9 := by decide +kernel
    refine T_if1 (by decide +kernel) ?_
    refine T_let 2 (by decide +kernel) ?_
    refine T_if1 (by decide +kernel) ?_
    refine T_get (by decide +kernel) (c := 3) (by decide +kernel) bdr_3 (by decide) c (fun x12 e13 b14 w15 => ?_)
    have l16 : z_ln 2 = 9 := by decide +kernel
    refine T_if1 (by decide +kernel) ?_
    refine T_useN (sf_X1_go_240K hfu s c x7 x12 (by omega) (by omega) p0 (by first | exact y_LNr.i (by omega) | exact y_LNr.t (by assumption) rfl | exact y_LNr.t (by assumption) (by omega))) (fun v22 s17 hq => ?_)
    obtain ⟨c18, f19, o23, o24, rfl⟩ := hq
    refine T_vN ?_
    have f20 := z_Fr.tr (R := R_X11_refresh_1) f f19 rs_X1_go_240__X11_refresh_1
    have t27 : s17 1 16 = s 1 16 := f19 1 16 (by decide)
    have t28 : s17 1 17 = s 1 17 := f19 1 17 (by decide)
    have r29 := y_B0.fr p0.1.1 (f19 211 0 (by decide)) (f19 213 0 (by decide))
    refine T_if1 (by decide +kernel) ?_
    refine T_let 258 (by decide +kernel) ?_
    refine T_if1 (by decide +kernel) ?_
    refine T_useN (sf_X3_build_258K hfu s17 c18 o23 o24) (fun v35 s30 hq => ?_)
    obtain ⟨c31, f32, o36, rfl⟩ := hq
    refine T_vN ?_
    have f33 := z_Fr.tr (R := R_X11_refresh_1) f20 f32 rs_X3_build_258__X11_refresh_1
    have t39 : s30 1 16 = s17 1 16 := f32 1 16 (by decide)
    have t40 : s30 1 17 = s17 1 17 := f32 1 17 (by decide)
    have r41 := y_B0.fr o23.1.1 (f32 211 0 (by decide)) (f32 213 0 (by decide))
    have r42 := y_SV.fr o24 (f32 191 16 (by decide)) (f32 6 6 (by decide)) (f32 191 17 (by decide)) (f32 191 18 (by decide)) (fun b => f32 3 b (nr_X3_build_258__3 b)) (fun b => f32 8 b (nr_X3_build_258__8 b)) (fun b => f32 12 b (nr_X3_build_258__12 b)) (fun b => f32 14 b (nr_X3_build_258__14 b)) (fun b => f32 16 b (nr_X3_build_258__16 b)) (fun b => f32 18 b (nr_X3_build_258__18 b)) (fun b => f32 193 b (nr_X3_build_258__193 b)) (fun b => f32 195 b (nr_X3_build_258__195 b)) (fun b => f32 197 b (nr_X3_build_258__197 b)) (fun b => f32 199 b (nr_X3_build_258__199 b)) (fun b => f32 201 b (nr_X3_build_258__201 b)) (fun b => f32 203 b (nr_X3_build_258__203 b)) (fun b => f32 205 b (nr_X3_build_258__205 b)) (fun b => f32 207 b (nr_X3_build_258__207 b)) (fun b => f32 209 b (nr_X3_build_258__209 b)) (fun b => f32 211 b (nr_X3_build_258__211 b)) (fun b => f32 213 b (nr_X3_build_258__213 b)) (fun b => f32 215 b (nr_X3_build_258__215 b)) (fun b => f32 217 b (nr_X3_build_258__217 b)) (fun b => f32 219 b (nr_X3_build_258__219 b)) (f32 240 6 (by decide)) (fun b => f32 248 b (nr_X3_build_258__248 b)) (f32 249 6 (by decide)) (fun b => f32 257 b (nr_X3_build_258__257 b))
    refine T_if1 ⟨(by decide +kernel), by unfold z_bl; omega⟩ ?_
    refine T_upg c31 bd_1_17 (by omega) (fun s43 c44 g46 g47 e48 => ?_)
    have f45 := z_Fr.upf (R := R_X11_refresh_1) f33 g46 g47 (Or.inr (Or.inr (Or.inr (Or.inr (Or.inr (Or.inr (Or.inr (Or.inl (⟨rfl, by decide⟩)))))))))
    have t49 : s43 1 16 = s30 1 16 := g47 16 (by decide)
    have r50 := y_B0.fr o36.1.1 (g46 211 0 (by decide)) (g46 213 0 (by decide))
    have r51 := y_SV.fr r42 (g46 191 16 (by decide)) (g46 6 6 (by decide)) (g46 191 17 (by decide)) (g46 191 18 (by decide)) (fun b => g46 3 b (by decide)) (fun b => g46 8 b (by decide)) (fun b => g46 12 b (by decide)) (fun b => g46 14 b (by decide)) (fun b => g46 16 b (by decide)) (fun b => g46 18 b (by decide)) (fun b => g46 193 b (by decide)) (fun b => g46 195 b (by decide)) (fun b => g46 197 b (by decide)) (fun b => g46 199 b (by decide)) (fun b => g46 201 b (by decide)) (fun b => g46 203 b (by decide)) (fun b => g46 205 b (by decide)) (fun b => g46 207 b (by decide)) (fun b => g46 209 b (by decide)) (fun b => g46 211 b (by decide)) (fun b => g46 213 b (by decide)) (fun b => g46 215 b (by decide)) (fun b => g46 217 b (by decide)) (fun b => g46 219 b (by decide)) (g46 240 6 (by decide)) (fun b => g46 248 b (by decide)) (g46 249 6 (by decide)) (fun b => g46 257 b (by decide))
    have r52 := y_U3.fr o36 (g46 191 16 (by decide)) (g46 6 6 (by decide)) (g46 191 17 (by decide)) (g46 191 18 (by decide)) (fun b => g46 3 b (by decide)) (fun b => g46 8 b (by decide)) (fun b => g46 12 b (by decide)) (fun b => g46 14 b (by decide)) (fun b => g46 16 b (by decide)) (fun b => g46 18 b (by decide)) (fun b => g46 193 b (by decide)) (fun b => g46 195 b (by decide)) (fun b => g46 197 b (by decide)) (fun b => g46 199 b (by decide)) (fun b => g46 201 b (by decide)) (fun b => g46 203 b (by decide)) (fun b => g46 205 b (by decide)) (fun b => g46 207 b (by decide)) (fun b => g46 209 b (by decide)) (fun b => g46 211 b (by decide)) (fun b => g46 213 b (by decide)) (fun b => g46 215 b (by decide)) (fun b => g46 217 b (by decide)) (fun b => g46 219 b (by decide)) (fun b => g46 222 b (by decide))
    refine T_if1 ⟨(by decide +kernel), by unfold z_bl; omega⟩ ?_
    refine T_upg c44 bd_1_18 (by omega) (fun s53 c54 g56 g57 e58 => ?_)
    have f55 := z_Fr.upf (R := R_X11_refresh_1) f45 g56 g57 (Or.inr (Or.inr (Or.inr (Or.inr (Or.inr (Or.inr (Or.inr (Or.inl (⟨rfl, by decide⟩)))))))))
    have t59 : s53 1 16 = s43 1 16 := g57 16 (by decide)
    have t60 : s53 1 17 = s43 1 17 := g57 17 (by decide)
    have r61 := y_B0.fr r50 (g56 211 0 (by decide)) (g56 213 0 (by decide))
    have r62 := y_SV.fr r51 (g56 191 16 (by decide)) (g56 6 6 (by decide)) (g56 191 17 (by decide)) (g56 191 18 (by decide)) (fun b => g56 3 b (by decide)) (fun b => g56 8 b (by decide)) (fun b => g56 12 b (by decide)) (fun b => g56 14 b (by decide)) (fun b => g56 16 b (by decide)) (fun b => g56 18 b (by decide)) (fun b => g56 193 b (by decide)) (fun b => g56 195 b (by decide)) (fun b => g56 197 b (by decide)) (fun b => g56 199 b (by decide)) (fun b => g56 201 b (by decide)) (fun b => g56 203 b (by decide)) (fun b => g56 205 b (by decide)) (fun b => g56 207 b (by decide)) (fun b => g56 209 b (by decide)) (fun b => g56 211 b (by decide)) (fun b => g56 213 b (by decide)) (fun b => g56 215 b (by decide)) (fun b => g56 217 b (by decide)) (fun b => g56 219 b (by decide)) (g56 240 6 (by decide)) (fun b => g56 248 b (by decide)) (g56 249 6 (by decide)) (fun b => g56 257 b (by decide))
    have r63 := y_U3.fr r52 (g56 191 16 (by decide)) (g56 6 6 (by decide)) (g56 191 17 (by decide)) (g56 191 18 (by decide)) (fun b => g56 3 b (by decide)) (fun b => g56 8 b (by decide)) (fun b => g56 12 b (by decide)) (fun b => g56 14 b (by decide)) (fun b => g56 16 b (by decide)) (fun b => g56 18 b (by decide)) (fun b => g56 193 b (by decide)) (fun b => g56 195 b (by decide)) (fun b => g56 197 b (by decide)) (fun b => g56 199 b (by decide)) (fun b => g56 201 b (by decide)) (fun b => g56 203 b (by decide)) (fun b => g56 205 b (by decide)) (fun b => g56 207 b (by decide)) (fun b => g56 209 b (by decide)) (fun b => g56 211 b (by decide)) (fun b => g56 213 b (by decide)) (fun b => g56 215 b (by decide)) (fun b => g56 217 b (by decide)) (fun b => g56 219 b (by decide)) (fun b => g56 222 b (by decide))
    exact sj_X11_refresh_1K_J78 hfu r0 s53 c54 f55 r63 r62
theorem nr_X10_build_191__222 (b : Int) : ¬ R_X10_build_191 222 b := by
  unfold R_X10_build_191; omega
theorem nr_X10_build_191__248 (b : Int) : ¬ R_X10_build_191 248 b := by
  unfold R_X10_build_191; omega
theorem sf_X11_refresh_1K {fu : Nat} (hfu : 8589934592 ≤ fu) (r0 : z_M) (c0 : z_CI r0) (p0 : y_V3 r0) : z_T (fX11_refresh fu r0 1) (P_X11_refresh_1K r0) := by
  refine T_of (fX11_refresh.eq_1 ..) ?_
  refine T_if1 (by decide +kernel) ?_
  refine T_leq (fun x1 e2 => ?_)
  have u3 := CI_b c0 (k := 1) (j := 16) bd_1_16
  refine T_ite (fun h4 => ?_) (fun h4 => ?_)
  · exact sj_X11_refresh_1K_J31 hfu r0 r0 c0 z_Fr.rf (y_V3.to p0 (by omega)) (y_V3.l p0 (by omega))
  · refine T_if1 (by decide +kernel) ?_
    refine T_let 191 (by decide +kernel) ?_
    refine T_if1 (by decide +kernel) ?_
    refine T_useN (sf_X10_build_191K hfu r0 c0 p0.1.1) (fun v10 s5 hq => ?_)
    obtain ⟨c6, f7, o11, rfl⟩ := hq
    refine T_vN ?_
    have f8 := z_Fr.tr (R := R_X11_refresh_1) z_Fr.rf f7 rs_X10_build_191__X11_refresh_1
    have t14 : s5 1 16 = r0 1 16 := f7 1 16 (by decide)
    have t15 : s5 1 17 = r0 1 17 := f7 1 17 (by decide)
    refine T_if1 (by decide +kernel) ?_
    refine T_let 220 (by decide +kernel) ?_
    refine T_if1 (by decide +kernel) ?_
    refine T_useN (sf_X5_forget_220K hfu s5 c6 o11) (fun v21 s16 hq => ?_)
    obtain ⟨c17, f18, o22, rfl⟩ := hq
    refine T_vN ?_
    have f19 := z_Fr.tr (R := R_X11_refresh_1) f8 f18 rs_X5_forget_220__X11_refresh_1
    have t25 : s16 1 16 = s5 1 16 := f18 1 16 (by decide)
    have t26 : s16 1 17 = s5 1 17 := f18 1 17 (by decide)
    have r27 := y_U2.fr o11 (f18 191 16 (by decide)) (f18 6 6 (by decide)) (f18 191 17 (by decide)) (f18 191 18 (by decide)) (fun b => f18 3 b (nr_X5_forget_220__3 b)) (fun b => f18 8 b (nr_X5_forget_220__8 b)) (fun b => f18 12 b (nr_X5_forget_220__12 b)) (fun b => f18 14 b (nr_X5_forget_220__14 b)) (fun b => f18 16 b (nr_X5_forget_220__16 b)) (fun b => f18 18 b (nr_X5_forget_220__18 b)) (fun b => f18 193 b (nr_X5_forget_220__193 b)) (fun b => f18 195 b (nr_X5_forget_220__195 b)) (fun b => f18 197 b (nr_X5_forget_220__197 b)) (fun b => f18 199 b (nr_X5_forget_220__199 b)) (fun b => f18 201 b (nr_X5_forget_220__201 b)) (fun b => f18 203 b (nr_X5_forget_220__203 b)) (fun b => f18 205 b (nr_X5_forget_220__205 b)) (fun b => f18 207 b (nr_X5_forget_220__207 b)) (fun b => f18 209 b (nr_X5_forget_220__209 b)) (fun b => f18 211 b (nr_X5_forget_220__211 b)) (fun b => f18 213 b (nr_X5_forget_220__213 b)) (fun b => f18 215 b (nr_X5_forget_220__215 b)) (fun b => f18 217 b (nr_X5_forget_220__217 b)) (fun b => f18 219 b (nr_X5_forget_220__219 b))
    have r28 := y_B0.fr o11.1 (f18 211 0 (by decide)) (f18 213 0 (by decide))
    refine T_if1 ⟨(by decide +kernel), by unfold z_bl; omega⟩ ?_
    refine T_upg c17 bd_1_16 (by omega) (fun s29 c30 g32 g33 e34 => ?_)
    have f31 := z_Fr.upf (R := R_X11_refresh_1) f19 g32 g33 (Or.inr (Or.inr (Or.inr (Or.inr (Or.inr (Or.inr (Or.inr (Or.inl (⟨rfl, by decide⟩)))))))))
    have t35 : s29 1 17 = s16 1 17 := g33 17 (by decide)
    have r36 := y_U2.fr r27 (g32 191 16 (by decide)) (g32 6 6 (by decide)) (g32 191 17 (by decide)) (g32 191 18 (by decide)) (fun b => g32 3 b (by decide)) (fun b => g32 8 b (by decide)) (fun b => g32 12 b (by decide)) (fun b => g32 14 b (by decide)) (fun b => g32 16 b (by decide)) (fun b => g32 18 b (by decide)) (fun b => g32 193 b (by decide)) (fun b => g32 195 b (by decide)) (fun b => g32 197 b (by decide)) (fun b => g32 199 b (by decide)) (fun b => g32 201 b (by decide)) (fun b => g32 203 b (by decide)) (fun b => g32 205 b (by decide)) (fun b => g32 207 b (by decide)) (fun b => g32 209 b (by decide)) (fun b => g32 211 b (by decide)) (fun b => g32 213 b (by decide)) (fun b => g32 215 b (by decide)) (fun b => g32 217 b (by decide)) (fun b => g32 219 b (by decide))
    have r37 := y_B0.fr o22.1.1 (g32 211 0 (by decide)) (g32 213 0 (by decide))
    have r38 := y_U3.fr o22 (g32 191 16 (by decide)) (g32 6 6 (by decide)) (g32 191 17 (by decide)) (g32 191 18 (by decide)) (fun b => g32 3 b (by decide)) (fun b => g32 8 b (by decide)) (fun b => g32 12 b (by decide)) (fun b => g32 14 b (by decide)) (fun b => g32 16 b (by decide)) (fun b => g32 18 b (by decide)) (fun b => g32 193 b (by decide)) (fun b => g32 195 b (by decide)) (fun b => g32 197 b (by decide)) (fun b => g32 199 b (by decide)) (fun b => g32 201 b (by decide)) (fun b => g32 203 b (by decide)) (fun b => g32 205 b (by decide)) (fun b => g32 207 b (by decide)) (fun b => g32 209 b (by decide)) (fun b => g32 211 b (by decide)) (fun b => g32 213 b (by decide)) (fun b => g32 215 b (by decide)) (fun b => g32 217 b (by decide)) (fun b => g32 219 b (by decide)) (fun b => g32 222 b (by decide))
    refine T_if1 ⟨(by decide +kernel), by unfold z_bl; omega⟩ ?_
    refine T_upg c30 bd_1_17 (by omega) (fun s39 c40 g42 g43 e44 => ?_)
    have f41 := z_Fr.upf (R := R_X11_refresh_1) f31 g42 g43 (Or.inr (Or.inr (Or.inr (Or.inr (Or.inr (Or.inr (Or.inr (Or.inl (⟨rfl, by decide⟩)))))))))
    have t45 : s39 1 16 = s29 1 16 := g43 16 (by decide)
    have r46 := y_U2.fr r36 (g42 191 16 (by decide)) (g42 6 6 (by decide)) (g42 191 17 (by decide)) (g42 191 18 (by decide)) (fun b => g42 3 b (by decide)) (fun b => g42 8 b (by decide)) (fun b => g42 12 b (by decide)) (fun b => g42 14 b (by decide)) (fun b => g42 16 b (by decide)) (fun b => g42 18 b (by decide)) (fun b => g42 193 b (by decide)) (fun b => g42 195 b (by decide)) (fun b => g42 197 b (by decide)) (fun b => g42 199 b (by decide)) (fun b => g42 201 b (by decide)) (fun b => g42 203 b (by decide)) (fun b => g42 205 b (by decide)) (fun b => g42 207 b (by decide)) (fun b => g42 209 b (by decide)) (fun b => g42 211 b (by decide)) (fun b => g42 213 b (by decide)) (fun b => g42 215 b (by decide)) (fun b => g42 217 b (by decide)) (fun b => g42 219 b (by decide))
    have r47 := y_B0.fr r37 (g42 211 0 (by decide)) (g42 213 0 (by decide))
    have r48 := y_U3.fr r38 (g42 191 16 (by decide)) (g42 6 6 (by decide)) (g42 191 17 (by decide)) (g42 191 18 (by decide)) (fun b => g42 3 b (by decide)) (fun b => g42 8 b (by decide)) (fun b => g42 12 b (by decide)) (fun b => g42 14 b (by decide)) (fun b => g42 16 b (by decide)) (fun b => g42 18 b (by decide)) (fun b => g42 193 b (by decide)) (fun b => g42 195 b (by decide)) (fun b => g42 197 b (by decide)) (fun b => g42 199 b (by decide)) (fun b => g42 201 b (by decide)) (fun b => g42 203 b (by decide)) (fun b => g42 205 b (by decide)) (fun b => g42 207 b (by decide)) (fun b => g42 209 b (by decide)) (fun b => g42 211 b (by decide)) (fun b => g42 213 b (by decide)) (fun b => g42 215 b (by decide)) (fun b => g42 217 b (by decide)) (fun b => g42 219 b (by decide)) (fun b => g42 222 b (by decide))
    exact sj_X11_refresh_1K_J31 hfu r0 s39 c40 f41 r48 (Or.inl (by omega))
abbrev P_X11_text_1K (r0 : z_M) (a1 : Int) : z_V → z_M → Prop := fun v s' => z_CI s' ∧ z_Fr R_X11_text_1 r0 s' ∧ (y_V3 s') ∧ ((0 ≤ a1 ∧ a1 ≤ r0 1 12 ∧ s' 1 12 = 0) ∨ ((a1 < 0 ∨ r0 1 12 < a1) ∧ s' 1 12 = r0 1 12)) ∧ ((∃ x, v = vI x ∧ -2147483648 ≤ x ∧ x ≤ 2147483647) ∨ v = vX 1)
theorem nr_X9_clear_19__222 (b : Int) : ¬ R_X9_clear_19 222 b := by
  unfold R_X9_clear_19; omega
theorem nr_X9_clear_19__248 (b : Int) : ¬ R_X9_clear_19 248 b := by
  unfold R_X9_clear_19; omega
theorem nr_X11_readTape_1__222 (b : Int) : ¬ R_X11_readTape_1 222 b := by
  unfold R_X11_readTape_1; omega
theorem nr_X11_readTape_1__248 (b : Int) : ¬ R_X11_readTape_1 248 b := by
  unfold R_X11_readTape_1; omega
theorem sj_X11_text_1K_J45 {fu : Nat} (hfu : 8589934592 ≤ fu) (r0 s : z_M) (c : z_CI s) (f : z_Fr R_X11_text_1 r0 s) (t0 : Int) (a1 : Int) (d0 : -2147483648 ≤ t0 ∧ t0 ≤ 2147483647) (p0 : y_V3 s) (p1 : 0 ≤ a1 ∧ a1 ≤ r0 1 12 ∧ s 1 12 = 0) : z_T (fX11_text_J45 fu s t0) (P_X11_text_1K r0 a1) := by
  refine T_of (fX11_text_J45.eq_1 ..) ?_
  have u1 := CI_b c (k := 1) (j := 12) bd_1_12
  have u2 := CI_b c (k := 191) (j := 16) bd_191_16
  exact T_ret ⟨c, f, p0, by omega, Or.inl (⟨t0, rfl, by omega, by omega⟩)⟩
theorem sf_X11_text_1K {fu : Nat} (hfu : 8589934592 ≤ fu) (r0 : z_M) (c0 : z_CI r0) (a1 : Int) (b1 : -2147483648 ≤ a1 ∧ a1 ≤ 2147483647) (p0 : y_V3 r0) : z_T (fX11_text fu r0 1 a1) (P_X11_text_1K r0 a1) := by
  refine T_of (fX11_text.eq_1 ..) ?_
  refine T_if1 (by decide +kernel) ?_
  refine T_leq (fun x1 e2 => ?_)
  have u3 := CI_b c0 (k := 1) (j := 12) bd_1_12
  refine T_if1 (by decide +kernel) ?_
  refine T_nwn (fun hn => ?_) (fun h4 h5 => ?_)
  · exact T_ret ⟨CI_up c0 bd_1_15 (z_wb rfl).1, z_Fr.upf (R := R_X11_text_1) z_Fr.rf (fun a b h => z_up_k h) (fun b h => z_up_j h) (Or.inr (Or.inr (Or.inr (Or.inr (Or.inr (Or.inr (Or.inr (Or.inr (Or.inr (Or.inl (⟨rfl, by decide⟩))))))))))), y_V3.fr p0 (z_up_j (by decide)) (z_up_j (by decide)) (z_up_k (by decide)) (z_up_k (by decide)) (z_up_k (by decide)) (z_up_k (by decide)) (fun _ => z_up_k (by decide)) (fun _ => z_up_k (by decide)) (fun _ => z_up_k (by decide)) (fun _ => z_up_k (by decide)) (fun _ => z_up_k (by decide)) (fun _ => z_up_k (by decide)) (fun _ => z_up_k (by decide)) (fun _ => z_up_k (by decide)) (fun _ => z_up_k (by decide)) (fun _ => z_up_k (by decide)) (fun _ => z_up_k (by decide)) (fun _ => z_up_k (by decide)) (fun _ => z_up_k (by decide)) (fun _ => z_up_k (by decide)) (fun _ => z_up_k (by decide)) (fun _ => z_up_k (by decide)) (fun _ => z_up_k (by decide)) (fun _ => z_up_k (by decide)) (fun _ => z_up_k (by decide)) (fun _ => z_up_k (by decide)) (fun _ => z_up_k (by decide)) (z_up_k (by decide)) (fun _ => z_up_k (by decide)), by rw [show z_up r0 1 15 _ 1 12 = r0 1 12 from z_up_j (by decide)]; omega, Or.inr rfl⟩
  refine T_if1 (by decide +kernel) ?_
  refine T_let 19 (by decide +kernel) ?_
  refine T_if1 (by decide +kernel) ?_
  refine T_useN (sf_X9_clear_19 hfu r0 c0) (fun v11 s6 hq => ?_)
  obtain ⟨c7, f8, rfl⟩ := hq
  refine T_vN ?_
  have f9 := z_Fr.tr (R := R_X11_text_1) z_Fr.rf f8 rs_X9_clear_19__X11_text_1
  have t14 : s6 1 12 = r0 1 12 := f8 1 12 (by decide)
  have t15 : s6 191 16 = r0 191 16 := f8 191 16 (by decide)
  have r16 := y_V3.fr p0 (f8 1 16 (by decide)) (f8 1 17 (by decide)) (f8 191 16 (by decide)) (f8 6 6 (by decide)) (f8 191 17 (by decide)) (f8 191 18 (by decide)) (fun b => f8 3 b (nr_X9_clear_19__3 b)) (fun b => f8 8 b (nr_X9_clear_19__8 b)) (fun b => f8 12 b (nr_X9_clear_19__12 b)) (fun b => f8 14 b (nr_X9_clear_19__14 b)) (fun b => f8 16 b (nr_X9_clear_19__16 b)) (fun b => f8 18 b (nr_X9_clear_19__18 b)) (fun b => f8 193 b (nr_X9_clear_19__193 b)) (fun b => f8 195 b (nr_X9_clear_19__195 b)) (fun b => f8 197 b (nr_X9_clear_19__197 b)) (fun b => f8 199 b (nr_X9_clear_19__199 b)) (fun b => f8 201 b (nr_X9_clear_19__201 b)) (fun b => f8 203 b (nr_X9_clear_19__203 b)) (fun b => f8 205 b (nr_X9_clear_19__205 b)) (fun b => f8 207 b (nr_X9_clear_19__207 b)) (fun b => f8 209 b (nr_X9_clear_19__209 b)) (fun b => f8 211 b (nr_X9_clear_19__211 b)) (fun b => f8 213 b (nr_X9_clear_19__213 b)) (fun b => f8 215 b (nr_X9_clear_19__215 b)) (fun b => f8 217 b (nr_X9_clear_19__217 b)) (fun b => f8 219 b (nr_X9_clear_19__219 b)) (fun b => f8 222 b (nr_X9_clear_19__222 b)) (f8 240 6 (by decide)) (fun b => f8 248 b (nr_X9_clear_19__248 b))
  have r17 := y_B0.fr p0.1.1 (f8 211 0 (by decide)) (f8 213 0 (by decide))
  refine T_if1 (by decide +kernel) ?_
  refine T_useI (sf_X11_readTape_1K hfu s6 c7 a1 (by omega) r16) (fun v23 s18 hq => ?_)
  obtain ⟨c19, f20, o24, o25, ⟨x22, rfl, b26, b27⟩⟩ := hq
  refine T_vI ?_
  have f21 := z_Fr.tr (R := R_X11_text_1) f9 f20 rs_X11_readTape_1__X11_text_1
  have t28 : s18 191 16 = s6 191 16 := f20 191 16 (by decide)
  have u29 := CI_b c19 (k := 1) (j := 12) bd_1_12
  have r30 := y_B0.fr r17 (f20 211 0 (by decide)) (f20 213 0 (by decide))
  refine T_if1 (by decide +kernel) ?_
  refine T_useN (sf_X11_refresh_1K hfu s18 c19 o24) (fun v36 s31 hq => ?_)
  obtain ⟨c32, f33, o37, o38, rfl⟩ := hq
  refine T_vN ?_
  have f34 := z_Fr.tr (R := R_X11_text_1) f21 f33 rs_X11_refresh_1__X11_text_1
  have t41 : s31 1 12 = s18 1 12 := f33 1 12 (by decide)
  have u42 := CI_b c32 (k := 191) (j := 16) bd_191_16
  refine T_ite (fun h43 => ?_) (fun h43 => ?_)
  · refine T_leq (fun x44 e45 => ?_)
    have w46 := z_wr e45
    exact sj_X11_text_1K_J45 hfu r0 s31 c32 f34 x44 a1 (by omega) (y_V3.u o37 (Or.inr o38)) (by omega)
  · refine T_if1 (by decide +kernel) ?_
    refine T_let 191 (by decide +kernel) ?_
    refine T_if1 (by decide +kernel) ?_
    refine T_leq (fun x47 e48 => ?_)
    have u49 := CI_b c32 (k := 191) (j := 16) bd_191_16
    exact sj_X11_text_1K_J45 hfu r0 s31 c32 f34 x47 a1 (by omega) (y_V3.u o37 (Or.inr o38)) (by omega)
abbrev P_X11_more_1K (r0 : z_M) (a1 : Int) : z_V → z_M → Prop := fun v s' => z_CI s' ∧ z_Fr R_X11_more_1 r0 s' ∧ (y_V3 s') ∧ ((0 ≤ a1 ∧ a1 ≤ r0 1 12 ∧ s' 1 12 = 0) ∨ ((a1 < 0 ∨ r0 1 12 < a1) ∧ s' 1 12 = r0 1 12)) ∧ ((∃ x, v = vI x ∧ -2147483648 ≤ x ∧ x ≤ 2147483647) ∨ v = vX 1)
theorem nr_X9_copyFrom_19_6__222 (b : Int) : ¬ R_X9_copyFrom_19_6 222 b := by
  unfold R_X9_copyFrom_19_6; omega
theorem nr_X9_copyFrom_19_6__248 (b : Int) : ¬ R_X9_copyFrom_19_6 248 b := by
  unfold R_X9_copyFrom_19_6; omega
theorem sj_X11_more_1K_J49 {fu : Nat} (hfu : 8589934592 ≤ fu) (r0 s : z_M) (c : z_CI s) (f : z_Fr R_X11_more_1 r0 s) (t0 : Int) (a1 : Int) (d0 : -2147483648 ≤ t0 ∧ t0 ≤ 2147483647) (p0 : y_V3 s) (p1 : 0 ≤ a1 ∧ a1 ≤ r0 1 12 ∧ s 1 12 = 0) : z_T (fX11_more_J49 fu s t0) (P_X11_more_1K r0 a1) := by
  refine T_of (fX11_more_J49.eq_1 ..) ?_
  have u1 := CI_b c (k := 1) (j := 12) bd_1_12
  have u2 := CI_b c (k := 191) (j := 16) bd_191_16
  exact T_ret ⟨c, f, p0, by omega, Or.inl (⟨t0, rfl, by omega, by omega⟩)⟩
theorem sf_X11_more_1K {fu : Nat} (hfu : 8589934592 ≤ fu) (r0 : z_M) (c0 : z_CI r0) (a1 : Int) (b1 : -2147483648 ≤ a1 ∧ a1 ≤ 2147483647) (p0 : y_V3 r0) : z_T (fX11_more fu r0 1 a1) (P_X11_more_1K r0 a1) := by
  refine T_of (fX11_more.eq_1 ..) ?_
  refine T_if1 (by decide +kernel) ?_
  refine T_leq (fun x1 e2 => ?_)
  have u3 := CI_b c0 (k := 1) (j := 12) bd_1_12
  refine T_if1 (by decide +kernel) ?_
  refine T_nwn (fun hn => ?_) (fun h4 h5 => ?_)
  · exact T_ret ⟨CI_up c0 bd_1_15 (z_wb rfl).1, z_Fr.upf (R := R_X11_more_1) z_Fr.rf (fun a b h => z_up_k h) (fun b h => z_up_j h) (Or.inr (Or.inr (Or.inr (Or.inr (Or.inr (Or.inr (Or.inr (Or.inr (Or.inr (Or.inl (⟨rfl, by decide⟩))))))))))), y_V3.fr p0 (z_up_j (by decide)) (z_up_j (by decide)) (z_up_k (by decide)) (z_up_k (by decide)) (z_up_k (by decide)) (z_up_k (by decide)) (fun _ => z_up_k (by decide)) (fun _ => z_up_k (by decide)) (fun _ => z_up_k (by decide)) (fun _ => z_up_k (by decide)) (fun _ => z_up_k (by decide)) (fun _ => z_up_k (by decide)) (fun _ => z_up_k (by decide)) (fun _ => z_up_k (by decide)) (fun _ => z_up_k (by decide)) (fun _ => z_up_k (by decide)) (fun _ => z_up_k (by decide)) (fun _ => z_up_k (by decide)) (fun _ => z_up_k (by decide)) (fun _ => z_up_k (by decide)) (fun _ => z_up_k (by decide)) (fun _ => z_up_k (by decide)) (fun _ => z_up_k (by decide)) (fun _ => z_up_k (by decide)) (fun _ => z_up_k (by decide)) (fun _ => z_up_k (by decide)) (fun _ => z_up_k (by decide)) (z_up_k (by decide)) (fun _ => z_up_k (by decide)), by rw [show z_up r0 1 15 _ 1 12 = r0 1 12 from z_up_j (by decide)]; omega, Or.inr rfl⟩
  refine T_if1 (by decide +kernel) ?_
  refine T_let 19 (by decide +kernel) ?_
  refine T_if1 (by decide +kernel) ?_
  refine T_let 6 (by decide +kernel) ?_
  refine T_if1 (by decide +kernel) ?_
  refine T_useN (sf_X9_copyFrom_19_6 hfu r0 c0) (fun v11 s6 hq => ?_)
  obtain ⟨c7, f8, rfl⟩ := hq
  refine T_vN ?_
  have f9 := z_Fr.tr (R := R_X11_more_1) z_Fr.rf f8 rs_X9_copyFrom_19_6__X11_more_1
  have t14 : s6 1 12 = r0 1 12 := f8 1 12 (by decide)
  have t15 : s6 191 16 = r0 191 16 := f8 191 16 (by decide)
  have r16 := y_V3.fr p0 (f8 1 16 (by decide)) (f8 1 17 (by decide)) (f8 191 16 (by decide)) (f8 6 6 (by decide)) (f8 191 17 (by decide)) (f8 191 18 (by decide)) (fun b => f8 3 b (nr_X9_copyFrom_19_6__3 b)) (fun b => f8 8 b (nr_X9_copyFrom_19_6__8 b)) (fun b => f8 12 b (nr_X9_copyFrom_19_6__12 b)) (fun b => f8 14 b (nr_X9_copyFrom_19_6__14 b)) (fun b => f8 16 b (nr_X9_copyFrom_19_6__16 b)) (fun b => f8 18 b (nr_X9_copyFrom_19_6__18 b)) (fun b => f8 193 b (nr_X9_copyFrom_19_6__193 b)) (fun b => f8 195 b (nr_X9_copyFrom_19_6__195 b)) (fun b => f8 197 b (nr_X9_copyFrom_19_6__197 b)) (fun b => f8 199 b (nr_X9_copyFrom_19_6__199 b)) (fun b => f8 201 b (nr_X9_copyFrom_19_6__201 b)) (fun b => f8 203 b (nr_X9_copyFrom_19_6__203 b)) (fun b => f8 205 b (nr_X9_copyFrom_19_6__205 b)) (fun b => f8 207 b (nr_X9_copyFrom_19_6__207 b)) (fun b => f8 209 b (nr_X9_copyFrom_19_6__209 b)) (fun b => f8 211 b (nr_X9_copyFrom_19_6__211 b)) (fun b => f8 213 b (nr_X9_copyFrom_19_6__213 b)) (fun b => f8 215 b (nr_X9_copyFrom_19_6__215 b)) (fun b => f8 217 b (nr_X9_copyFrom_19_6__217 b)) (fun b => f8 219 b (nr_X9_copyFrom_19_6__219 b)) (fun b => f8 222 b (nr_X9_copyFrom_19_6__222 b)) (f8 240 6 (by decide)) (fun b => f8 248 b (nr_X9_copyFrom_19_6__248 b))
  have r17 := y_B0.fr p0.1.1 (f8 211 0 (by decide)) (f8 213 0 (by decide))
  refine T_if1 (by decide +kernel) ?_
  refine T_useI (sf_X11_readTape_1K hfu s6 c7 a1 (by omega) r16) (fun v23 s18 hq => ?_)
  obtain ⟨c19, f20, o24, o25, ⟨x22, rfl, b26, b27⟩⟩ := hq
  refine T_vI ?_
  have f21 := z_Fr.tr (R := R_X11_more_1) f9 f20 rs_X11_readTape_1__X11_more_1
  have t28 : s18 191 16 = s6 191 16 := f20 191 16 (by decide)
  have u29 := CI_b c19 (k := 1) (j := 12) bd_1_12
  have r30 := y_B0.fr r17 (f20 211 0 (by decide)) (f20 213 0 (by decide))
  refine T_if1 (by decide +kernel) ?_
  refine T_useN (sf_X11_refresh_1K hfu s18 c19 o24) (fun v36 s31 hq => ?_)
  obtain ⟨c32, f33, o37, o38, rfl⟩ := hq
  refine T_vN ?_
  have f34 := z_Fr.tr (R := R_X11_more_1) f21 f33 rs_X11_refresh_1__X11_more_1
  have t41 : s31 1 12 = s18 1 12 := f33 1 12 (by decide)
  have u42 := CI_b c32 (k := 191) (j := 16) bd_191_16
  refine T_ite (fun h43 => ?_) (fun h43 => ?_)
  · refine T_leq (fun x44 e45 => ?_)
    have w46 := z_wr e45
    exact sj_X11_more_1K_J49 hfu r0 s31 c32 f34 x44 a1 (by omega) (y_V3.u o37 (Or.inr o38)) (by omega)
  · refine T_if1 (by decide +kernel) ?_
    refine T_let 191 (by decide +kernel) ?_
    refine T_if1 (by decide +kernel) ?_
    refine T_leq (fun x47 e48 => ?_)
    have u49 := CI_b c32 (k := 191) (j := 16) bd_191_16
    exact sj_X11_more_1K_J49 hfu r0 s31 c32 f34 x47 a1 (by omega) (y_V3.u o37 (Or.inr o38)) (by omega)
abbrev P_X11_fault_1K (r0 : z_M) : z_V → z_M → Prop := fun v s' => z_CI s' ∧ z_Fr R_X11_fault_1 r0 s' ∧ (y_V3 s') ∧ (∃ x, v = vI x ∧ -2147483648 ≤ x ∧ x ≤ 2147483647)
theorem sf_X11_fault_1K {fu : Nat} (hfu : 8589934592 ≤ fu) (r0 : z_M) (c0 : z_CI r0) (p0 : y_V3 r0) : z_T (fX11_fault fu r0 1) (P_X11_fault_1K r0) := by
  refine T_of (fX11_fault.eq_1 ..) ?_
  refine T_if1 (by decide +kernel) ?_
  refine T_leq (fun x1 e2 => ?_)
  have u3 := CI_b c0 (k := 1) (j := 13) bd_1_13
  exact T_ret ⟨c0, z_Fr.rf, p0, ⟨x1, rfl, by omega, by omega⟩⟩
abbrev P_X11_set_1K (r0 : z_M) : z_V → z_M → Prop := fun v s' => z_CI s' ∧ z_Fr R_X11_set_1 r0 s' ∧ (y_V3 s') ∧ ((∃ x, v = vI x ∧ -2147483648 ≤ x ∧ x ≤ 2147483647) ∨ v = vX 1)
theorem sj_X11_set_1K_J79 {fu : Nat} (hfu : 8589934592 ≤ fu) (r0 s : z_M) (c : z_CI s) (f : z_Fr R_X11_set_1 r0 s) (a3 : Int) (b3 : -2147483648 ≤ a3 ∧ a3 ≤ 2147483647) (p0 : y_V3 s) : z_T (fX11_set_J79 fu s a3) (P_X11_set_1K r0) := by
  refine T_of (fX11_set_J79.eq_1 ..) ?_
  exact T_ret ⟨c, f, p0, Or.inl (⟨a3, rfl, by omega, by omega⟩)⟩
theorem sf_X11_set_1K {fu : Nat} (hfu : 8589934592 ≤ fu) (r0 : z_M) (c0 : z_CI r0) (a1 : Int) (a2 : Int) (b1 : -2147483648 ≤ a1 ∧ a1 ≤ 2147483647) (b2 : -2147483648 ≤ a2 ∧ a2 ≤ 2147483647) (p0 : y_V3 r0) (p1 : 12 ≤ r0 3 0 ∧ r0 3 0 ≤ 999) : z_T (fX11_set fu r0 1 a1 a2) (P_X11_set_1K r0) := by
  refine T_of (fX11_set.eq_1 ..) ?_
  refine T_if1 (by decide) ?_
  refine T_leq (fun x1 e2 => ?_)
  have w3 := z_wr e2
  refine T_if1 (by decide +kernel) ?_
  refine T_nw ?_ (fun h4 h5 => ?_)
  · exact T_ret ⟨CI_up c0 bd_1_15 (z_wb rfl).1, z_Fr.upf (R := R_X11_set_1) z_Fr.rf (fun a b h => z_up_k h) (fun b h => z_up_j h) (Or.inr (⟨rfl, by decide⟩)), y_V3.fr p0 (z_up_j (by decide)) (z_up_j (by decide)) (z_up_k (by decide)) (z_up_k (by decide)) (z_up_k (by decide)) (z_up_k (by decide)) (fun _ => z_up_k (by decide)) (fun _ => z_up_k (by decide)) (fun _ => z_up_k (by decide)) (fun _ => z_up_k (by decide)) (fun _ => z_up_k (by decide)) (fun _ => z_up_k (by decide)) (fun _ => z_up_k (by decide)) (fun _ => z_up_k (by decide)) (fun _ => z_up_k (by decide)) (fun _ => z_up_k (by decide)) (fun _ => z_up_k (by decide)) (fun _ => z_up_k (by decide)) (fun _ => z_up_k (by decide)) (fun _ => z_up_k (by decide)) (fun _ => z_up_k (by decide)) (fun _ => z_up_k (by decide)) (fun _ => z_up_k (by decide)) (fun _ => z_up_k (by decide)) (fun _ => z_up_k (by decide)) (fun _ => z_up_k (by decide)) (fun _ => z_up_k (by decide)) (z_up_k (by decide)) (fun _ => z_up_k (by decide)), Or.inr rfl⟩
  refine T_pick (by decide) (fun x6 e7 b8 => ?_)
  refine T_pick (by decide) (fun x9 e10 b11 => ?_)
  refine T_if1 (by decide +kernel) ?_
  refine T_nw ?_ (fun h12 h13 => ?_)
  · exact T_ret ⟨CI_up c0 bd_1_15 (z_wb rfl).1, z_Fr.upf (R := R_X11_set_1) z_Fr.rf (fun a b h => z_up_k h) (fun b h => z_up_j h) (Or.inr (⟨rfl, by decide⟩)), y_V3.fr p0 (z_up_j (by decide)) (z_up_j (by decide)) (z_up_k (by decide)) (z_up_k (by decide)) (z_up_k (by decide)) (z_up_k (by decide)) (fun _ => z_up_k (by decide)) (fun _ => z_up_k (by decide)) (fun _ => z_up_k (by decide)) (fun _ => z_up_k (by decide)) (fun _ => z_up_k (by decide)) (fun _ => z_up_k (by decide)) (fun _ => z_up_k (by decide)) (fun _ => z_up_k (by decide)) (fun _ => z_up_k (by decide)) (fun _ => z_up_k (by decide)) (fun _ => z_up_k (by decide)) (fun _ => z_up_k (by decide)) (fun _ => z_up_k (by decide)) (fun _ => z_up_k (by decide)) (fun _ => z_up_k (by decide)) (fun _ => z_up_k (by decide)) (fun _ => z_up_k (by decide)) (fun _ => z_up_k (by decide)) (fun _ => z_up_k (by decide)) (fun _ => z_up_k (by decide)) (fun _ => z_up_k (by decide)) (z_up_k (by decide)) (fun _ => z_up_k (by decide)), Or.inr rfl⟩
  refine T_if1 (by decide +kernel) ?_
  refine T_let 2 (by decide +kernel) ?_
  refine T_if1 (by decide +kernel) ?_
  refine T_get (by decide +kernel) (c := 3) (by decide +kernel) bdr_3 (by decide) c0 (fun x14 e15 b16 w17 => ?_)
  have l18 : z_ln 2 = 9 := by decide +kernel
  refine T_if1 (by decide +kernel) ?_
  refine T_let 2 (by decide +kernel) ?_
  refine T_if1 (by decide +kernel) ?_
  refine T_put (by decide +kernel) (c := 3) (by decide +kernel) bdr_3 (by omega) c0 (fun s19 e22 c20 g23 => ?_)
  have f21 := z_Fr.up (R := R_X11_set_1) z_Fr.rf g23 (fun _ => (Or.inl (⟨by decide, by decide⟩)))
  have r24 := y_B0.fr p0.1.1 (g23 211 0 (by decide)) (g23 213 0 (by decide))
  refine T_if1 ⟨(by decide +kernel), by unfold z_bl; omega⟩ ?_
  refine T_upg c20 bd_1_17 (by omega) (fun s25 c26 g28 g29 e30 => ?_)
  have f27 := z_Fr.upf (R := R_X11_set_1) f21 g28 g29 (Or.inr (⟨rfl, by decide⟩))
  have r31 := y_B0.fr r24 (g28 211 0 (by decide)) (g28 213 0 (by decide))
  refine T_ite (fun h32 => ?_) (fun h32 => ?_)
  · exact sj_X11_set_1K_J79 hfu r0 s25 c26 f27 x14 (by omega) (y_V3.st p0 (by omega) (by omega) e22 g23 g28 g29 (by omega))
  · refine T_ite (fun h33 => ?_) (fun h33 => ?_)
    · exact sj_X11_set_1K_J79 hfu r0 s25 c26 f27 x14 (by omega) (y_V3.st p0 (by omega) (by omega) e22 g23 g28 g29 (by omega))
    · refine T_ite (fun h34 => ?_) (fun h34 => ?_)
      · exact sj_X11_set_1K_J79 hfu r0 s25 c26 f27 x14 (by omega) (y_V3.st p0 (by omega) (by omega) e22 g23 g28 g29 (by omega))
      · refine T_ite (fun h35 => ?_) (fun h35 => ?_)
        · exact sj_X11_set_1K_J79 hfu r0 s25 c26 f27 x14 (by omega) (y_V3.st p0 (by omega) (by omega) e22 g23 g28 g29 (by omega))
        · refine T_if1 ⟨(by decide +kernel), by unfold z_bl; omega⟩ ?_
          refine T_upg c26 bd_1_16 (by omega) (fun s36 c37 g39 g40 e41 => ?_)
          have f38 := z_Fr.upf (R := R_X11_set_1) f27 g39 g40 (Or.inr (⟨rfl, by decide⟩))
          have r42 := y_B0.fr r31 (g39 211 0 (by decide)) (g39 213 0 (by decide))
          exact sj_X11_set_1K_J79 hfu r0 s36 c37 f38 x14 (by omega) (y_V3.z r42 (by omega))
abbrev P_X11_undo_1K (r0 : z_M) : z_V → z_M → Prop := fun v s' => z_CI s' ∧ z_Fr R_X11_undo_1 r0 s' ∧ (y_V3 s') ∧ (∃ x, v = vI x ∧ -2147483648 ≤ x ∧ x ≤ 2147483647)
theorem nr_X9_copyFrom_6_35__222 (b : Int) : ¬ R_X9_copyFrom_6_35 222 b := by
  unfold R_X9_copyFrom_6_35; omega
theorem nr_X9_copyFrom_6_35__248 (b : Int) : ¬ R_X9_copyFrom_6_35 248 b := by
  unfold R_X9_copyFrom_6_35; omega
theorem nr_X9_copyFrom_6_48__222 (b : Int) : ¬ R_X9_copyFrom_6_48 222 b := by
  unfold R_X9_copyFrom_6_48; omega
theorem nr_X9_copyFrom_6_48__248 (b : Int) : ¬ R_X9_copyFrom_6_48 248 b := by
  unfold R_X9_copyFrom_6_48; omega
theorem nr_X9_copyFrom_6_61__222 (b : Int) : ¬ R_X9_copyFrom_6_61 222 b := by
  unfold R_X9_copyFrom_6_61; omega
theorem nr_X9_copyFrom_6_61__248 (b : Int) : ¬ R_X9_copyFrom_6_61 248 b := by
  unfold R_X9_copyFrom_6_61; omega
theorem nr_X9_copyFrom_6_74__222 (b : Int) : ¬ R_X9_copyFrom_6_74 222 b := by
  unfold R_X9_copyFrom_6_74; omega
theorem nr_X9_copyFrom_6_74__248 (b : Int) : ¬ R_X9_copyFrom_6_74 248 b := by
  unfold R_X9_copyFrom_6_74; omega
theorem nr_X9_copyFrom_6_87__222 (b : Int) : ¬ R_X9_copyFrom_6_87 222 b := by
  unfold R_X9_copyFrom_6_87; omega
theorem nr_X9_copyFrom_6_87__248 (b : Int) : ¬ R_X9_copyFrom_6_87 248 b := by
  unfold R_X9_copyFrom_6_87; omega
theorem nr_X9_copyFrom_6_100__222 (b : Int) : ¬ R_X9_copyFrom_6_100 222 b := by
  unfold R_X9_copyFrom_6_100; omega
theorem nr_X9_copyFrom_6_100__248 (b : Int) : ¬ R_X9_copyFrom_6_100 248 b := by
  unfold R_X9_copyFrom_6_100; omega
theorem nr_X9_copyFrom_6_113__222 (b : Int) : ¬ R_X9_copyFrom_6_113 222 b := by
  unfold R_X9_copyFrom_6_113; omega
theorem nr_X9_copyFrom_6_113__248 (b : Int) : ¬ R_X9_copyFrom_6_113 248 b := by
  unfold R_X9_copyFrom_6_113; omega
theorem nr_X9_copyFrom_6_126__222 (b : Int) : ¬ R_X9_copyFrom_6_126 222 b := by
  unfold R_X9_copyFrom_6_126; omega
theorem nr_X9_copyFrom_6_126__248 (b : Int) : ¬ R_X9_copyFrom_6_126 248 b := by
  unfold R_X9_copyFrom_6_126; omega
theorem nr_X9_copyFrom_6_139__222 (b : Int) : ¬ R_X9_copyFrom_6_139 222 b := by
  unfold R_X9_copyFrom_6_139; omega
theorem nr_X9_copyFrom_6_139__248 (b : Int) : ¬ R_X9_copyFrom_6_139 248 b := by
  unfold R_X9_copyFrom_6_139; omega
theorem nr_X9_copyFrom_6_152__222 (b : Int) : ¬ R_X9_copyFrom_6_152 222 b := by
  unfold R_X9_copyFrom_6_152; omega
theorem nr_X9_copyFrom_6_152__248 (b : Int) : ¬ R_X9_copyFrom_6_152 248 b := by
  unfold R_X9_copyFrom_6_152; omega
theorem nr_X9_copyFrom_6_165__222 (b : Int) : ¬ R_X9_copyFrom_6_165 222 b := by
  unfold R_X9_copyFrom_6_165; omega
theorem nr_X9_copyFrom_6_165__248 (b : Int) : ¬ R_X9_copyFrom_6_165 248 b := by
  unfold R_X9_copyFrom_6_165; omega
theorem nr_X9_copyFrom_6_178__222 (b : Int) : ¬ R_X9_copyFrom_6_178 222 b := by
  unfold R_X9_copyFrom_6_178; omega
theorem nr_X9_copyFrom_6_178__248 (b : Int) : ¬ R_X9_copyFrom_6_178 248 b := by
  unfold R_X9_copyFrom_6_178; omega
set_option maxHeartbeats 4000000 in
theorem sf_X11_undo_1K {fu : Nat} (hfu : 8589934592 ≤ fu) (r0 : z_M) (c0 : z_CI r0) (p0 : y_V3 r0) : z_T (fX11_undo fu r0 1) (P_X11_undo_1K r0) := by
  refine T_of (fX11_undo.eq_1 ..) ?_
  refine T_if1 (by decide +kernel) ?_
  refine T_let 33 (by decide +kernel) ?_
  refine T_if1 (by decide +kernel) ?_
  refine T_let 6 (by decide +kernel) ?_
  refine T_if1 (by decide +kernel) ?_
  refine T_bI ?_
  refine T_of (fX2_takeBack.eq_1 ..) ?_
  refine T_if1 (by decide +kernel) ?_
  refine T_leq (fun x1 e2 => ?_)
  have u3 := CI_b c0 (k := 33) (j := 2) bd_33_2
  refine T_ite (fun h4 => ?_) (fun h4 => ?_)
  · refine T_if1 (by decide +kernel) ?_
    refine T_leq (fun x5 e6 => ?_)
    have u7 := CI_b c0 (k := 33) (j := 2) bd_33_2
    refine T_leq (fun x8 e9 => ?_)
    have w10 := z_wb e9
    refine T_if1 (by decide +kernel) ?_
    refine T_upg c0 bd_33_2 (by omega) (fun s11 c12 g14 g15 e16 => ?_)
    have f13 := z_Fr.upf (R := R_X11_undo_1) z_Fr.rf g14 g15 (Or.inr (Or.inl (⟨by decide, by decide⟩)))
    have t17 : s11 33 1 = r0 33 1 := g15 1 (by decide)
    have t18 : s11 191 16 = r0 191 16 := g14 191 16 (by decide)
    have r19 := y_V3.fr p0 (g14 1 16 (by decide)) (g14 1 17 (by decide)) (g14 191 16 (by decide)) (g14 6 6 (by decide)) (g14 191 17 (by decide)) (g14 191 18 (by decide)) (fun b => g14 3 b (by decide)) (fun b => g14 8 b (by decide)) (fun b => g14 12 b (by decide)) (fun b => g14 14 b (by decide)) (fun b => g14 16 b (by decide)) (fun b => g14 18 b (by decide)) (fun b => g14 193 b (by decide)) (fun b => g14 195 b (by decide)) (fun b => g14 197 b (by decide)) (fun b => g14 199 b (by decide)) (fun b => g14 201 b (by decide)) (fun b => g14 203 b (by decide)) (fun b => g14 205 b (by decide)) (fun b => g14 207 b (by decide)) (fun b => g14 209 b (by decide)) (fun b => g14 211 b (by decide)) (fun b => g14 213 b (by decide)) (fun b => g14 215 b (by decide)) (fun b => g14 217 b (by decide)) (fun b => g14 219 b (by decide)) (fun b => g14 222 b (by decide)) (g14 240 6 (by decide)) (fun b => g14 248 b (by decide))
    have r20 := y_B0.fr p0.1.1 (g14 211 0 (by decide)) (g14 213 0 (by decide))
    refine T_if1 (by decide +kernel) ?_
    refine T_leq (fun x21 e22 => ?_)
    have u23 := CI_b c12 (k := 33) (j := 1) bd_33_1
    refine T_ite (fun h24 => ?_) (fun h24 => ?_)
    · refine T_of (fX2_takeBack_J38.eq_1 ..) ?_
      refine T_if1 (by decide +kernel) ?_
      refine T_upg c12 bd_33_1 (by omega) (fun s25 c26 g28 g29 e30 => ?_)
      have f27 := z_Fr.upf (R := R_X11_undo_1) f13 g28 g29 (Or.inr (Or.inl (⟨by decide, by decide⟩)))
      have t31 : s25 33 2 = s11 33 2 := g29 2 (by decide)
      have t32 : s25 191 16 = s11 191 16 := g28 191 16 (by decide)
      have r33 := y_V3.fr r19 (g28 1 16 (by decide)) (g28 1 17 (by decide)) (g28 191 16 (by decide)) (g28 6 6 (by decide)) (g28 191 17 (by decide)) (g28 191 18 (by decide)) (fun b => g28 3 b (by decide)) (fun b => g28 8 b (by decide)) (fun b => g28 12 b (by decide)) (fun b => g28 14 b (by decide)) (fun b => g28 16 b (by decide)) (fun b => g28 18 b (by decide)) (fun b => g28 193 b (by decide)) (fun b => g28 195 b (by decide)) (fun b => g28 197 b (by decide)) (fun b => g28 199 b (by decide)) (fun b => g28 201 b (by decide)) (fun b => g28 203 b (by decide)) (fun b => g28 205 b (by decide)) (fun b => g28 207 b (by decide)) (fun b => g28 209 b (by decide)) (fun b => g28 211 b (by decide)) (fun b => g28 213 b (by decide)) (fun b => g28 215 b (by decide)) (fun b => g28 217 b (by decide)) (fun b => g28 219 b (by decide)) (fun b => g28 222 b (by decide)) (g28 240 6 (by decide)) (fun b => g28 248 b (by decide))
      have r34 := y_B0.fr r20 (g28 211 0 (by decide)) (g28 213 0 (by decide))
      refine T_if1 (by decide +kernel) ?_
      refine T_bR ?_
      refine T_of (fX2_place.eq_1 ..) ?_
      refine T_if1 (by decide +kernel) ?_
      refine T_leq (fun x35 e36 => ?_)
      have u37 := CI_b c26 (k := 33) (j := 1) bd_33_1
      refine T_ite (fun h38 => ?_) (fun h38 => ?_)
      · refine T_of (fX2_place_J31.eq_1 ..) ?_
        exfalso
        omega
      · refine T_if1 (by decide +kernel) ?_
        refine T_leq (fun x39 e40 => ?_)
        have u41 := CI_b c26 (k := 33) (j := 1) bd_33_1
        refine T_if1 (by decide +kernel) ?_
        refine T_let 34 (by decide +kernel) ?_
        refine T_if1 (by decide +kernel) ?_
        refine T_let 12 (by decide +kernel) ?_
        refine T_ite (fun h42 => ?_) (fun h42 => ?_)
        · refine T_of (fX2_place_J31.eq_1 ..) ?_
          exfalso
          omega
        · refine T_if1 (by decide +kernel) ?_
          refine T_let 34 (by decide +kernel) ?_
          refine T_if1 (by decide +kernel) ?_
          refine T_leq (fun x43 e44 => ?_)
          have u45 := CI_b c26 (k := 33) (j := 1) bd_33_1
          rcases (show x43 = 0 ∨ x43 = 1 ∨ x43 = 2 ∨ x43 = 3 ∨ x43 = 4 ∨ x43 = 5 ∨ x43 = 6 ∨ x43 = 7 ∨ x43 = 8 ∨ x43 = 9 ∨ x43 = 10 ∨ x43 = 11 by omega) with rfl | rfl | rfl | rfl | rfl | rfl | rfl | rfl | rfl | rfl | rfl | rfl
          · refine T_if1 (by decide +kernel) ?_
            refine T_let 35 (by decide +kernel) ?_
            refine T_of (fX2_place_J32.eq_1 ..) ?_
            refine T_rR ?_
            refine T_if1 (by decide) ?_
            refine T_if1 (by decide +kernel) ?_
            refine T_useN (sf_X9_copyFrom_6_35 hfu s25 c26) (fun v52 s47 hq => ?_)
            obtain ⟨c48, f49, rfl⟩ := hq
            refine T_vN ?_
            have f50 := z_Fr.tr (R := R_X11_undo_1) f27 f49 rs_X9_copyFrom_6_35__X11_undo_1
            have t55 : s47 33 1 = s25 33 1 := f49 33 1 (by decide)
            have t56 : s47 33 2 = s25 33 2 := f49 33 2 (by decide)
            have t57 : s47 191 16 = s25 191 16 := f49 191 16 (by decide)
            have r58 := y_B0.fr r34 (f49 211 0 (by decide)) (f49 213 0 (by decide))
            refine T_if1 (by unfold z_bl; omega) ?_
            refine T_rI ?_
            refine T_ite (fun h59 => ?_) (fun h59 => ?_)
            · refine T_if1 ⟨(by decide +kernel), by unfold z_bl; omega⟩ ?_
              refine T_upg c48 bd_1_16 (by omega) (fun s60 c61 g63 g64 e65 => ?_)
              have f62 := z_Fr.upf (R := R_X11_undo_1) f50 g63 g64 (Or.inr (Or.inr (Or.inr (Or.inr (Or.inr (Or.inr (Or.inr (Or.inr (Or.inr (Or.inl (⟨rfl, by decide⟩)))))))))))
              have t66 : s60 33 1 = s47 33 1 := g63 33 1 (by decide)
              have t67 : s60 33 2 = s47 33 2 := g63 33 2 (by decide)
              have t68 : s60 191 16 = s47 191 16 := g63 191 16 (by decide)
              have r69 := y_B0.fr r58 (g63 211 0 (by decide)) (g63 213 0 (by decide))
              refine T_if1 (by decide +kernel) ?_
              refine T_useN (sf_X11_refresh_1K hfu s60 c61 (y_V3.z r69 (by omega))) (fun v75 s70 hq => ?_)
              obtain ⟨c71, f72, o76, o77, rfl⟩ := hq
              refine T_vN ?_
              have f73 := z_Fr.tr (R := R_X11_undo_1) f62 f72 rs_X11_refresh_1__X11_undo_1
              have t80 : s70 33 1 = s60 33 1 := f72 33 1 (by decide)
              have t81 : s70 33 2 = s60 33 2 := f72 33 2 (by decide)
              have u82 := CI_b c71 (k := 191) (j := 16) bd_191_16
              refine T_if1 (by decide +kernel) ?_
              refine T_let 191 (by decide +kernel) ?_
              refine T_if1 (by decide +kernel) ?_
              refine T_leq (fun x83 e84 => ?_)
              have u85 := CI_b c71 (k := 191) (j := 16) bd_191_16
              exact T_ret ⟨c71, f73, (y_V3.u o76 (Or.inr o77)), ⟨x83, rfl, by omega, by omega⟩⟩
            · exact T_ret ⟨c48, f50, (y_V3.z r58 (by omega)), ⟨(-1), rfl, by omega, by omega⟩⟩
          · refine T_if1 (by decide +kernel) ?_
            refine T_let 48 (by decide +kernel) ?_
            refine T_of (fX2_place_J32.eq_1 ..) ?_
            refine T_rR ?_
            refine T_if1 (by decide) ?_
            refine T_if1 (by decide +kernel) ?_
            refine T_useN (sf_X9_copyFrom_6_48 hfu s25 c26) (fun v91 s86 hq => ?_)
            obtain ⟨c87, f88, rfl⟩ := hq
            refine T_vN ?_
            have f89 := z_Fr.tr (R := R_X11_undo_1) f27 f88 rs_X9_copyFrom_6_48__X11_undo_1
            have t94 : s86 33 1 = s25 33 1 := f88 33 1 (by decide)
            have t95 : s86 33 2 = s25 33 2 := f88 33 2 (by decide)
            have t96 : s86 191 16 = s25 191 16 := f88 191 16 (by decide)
            have r97 := y_B0.fr r34 (f88 211 0 (by decide)) (f88 213 0 (by decide))
            refine T_if1 (by unfold z_bl; omega) ?_
            refine T_rI ?_
            refine T_ite (fun h98 => ?_) (fun h98 => ?_)
            · refine T_if1 ⟨(by decide +kernel), by unfold z_bl; omega⟩ ?_
              refine T_upg c87 bd_1_16 (by omega) (fun s99 c100 g102 g103 e104 => ?_)
              have f101 := z_Fr.upf (R := R_X11_undo_1) f89 g102 g103 (Or.inr (Or.inr (Or.inr (Or.inr (Or.inr (Or.inr (Or.inr (Or.inr (Or.inr (Or.inl (⟨rfl, by decide⟩)))))))))))
              have t105 : s99 33 1 = s86 33 1 := g102 33 1 (by decide)
              have t106 : s99 33 2 = s86 33 2 := g102 33 2 (by decide)
              have t107 : s99 191 16 = s86 191 16 := g102 191 16 (by decide)
              have r108 := y_B0.fr r97 (g102 211 0 (by decide)) (g102 213 0 (by decide))
              refine T_if1 (by decide +kernel) ?_
              refine T_useN (sf_X11_refresh_1K hfu s99 c100 (y_V3.z r108 (by omega))) (fun v114 s109 hq => ?_)
              obtain ⟨c110, f111, o115, o116, rfl⟩ := hq
              refine T_vN ?_
              have f112 := z_Fr.tr (R := R_X11_undo_1) f101 f111 rs_X11_refresh_1__X11_undo_1
              have t119 : s109 33 1 = s99 33 1 := f111 33 1 (by decide)
              have t120 : s109 33 2 = s99 33 2 := f111 33 2 (by decide)
              have u121 := CI_b c110 (k := 191) (j := 16) bd_191_16
              refine T_if1 (by decide +kernel) ?_
              refine T_let 191 (by decide +kernel) ?_
              refine T_if1 (by decide +kernel) ?_
              refine T_leq (fun x122 e123 => ?_)
              have u124 := CI_b c110 (k := 191) (j := 16) bd_191_16
              exact T_ret ⟨c110, f112, (y_V3.u o115 (Or.inr o116)), ⟨x122, rfl, by omega, by omega⟩⟩
            · exact T_ret ⟨c87, f89, (y_V3.z r97 (by omega)), ⟨(-1), rfl, by omega, by omega⟩⟩
          · refine T_if1 (by decide +kernel) ?_
            refine T_let 61 (by decide +kernel) ?_
            refine T_of (fX2_place_J32.eq_1 ..) ?_
            refine T_rR ?_
            refine T_if1 (by decide) ?_
            refine T_if1 (by decide +kernel) ?_
            refine T_useN (sf_X9_copyFrom_6_61 hfu s25 c26) (fun v130 s125 hq => ?_)
            obtain ⟨c126, f127, rfl⟩ := hq
            refine T_vN ?_
            have f128 := z_Fr.tr (R := R_X11_undo_1) f27 f127 rs_X9_copyFrom_6_61__X11_undo_1
            have t133 : s125 33 1 = s25 33 1 := f127 33 1 (by decide)
            have t134 : s125 33 2 = s25 33 2 := f127 33 2 (by decide)
            have t135 : s125 191 16 = s25 191 16 := f127 191 16 (by decide)
            have r136 := y_B0.fr r34 (f127 211 0 (by decide)) (f127 213 0 (by decide))
            refine T_if1 (by unfold z_bl; omega) ?_
            refine T_rI ?_
            refine T_ite (fun h137 => ?_) (fun h137 => ?_)
            · refine T_if1 ⟨(by decide +kernel), by unfold z_bl; omega⟩ ?_
              refine T_upg c126 bd_1_16 (by omega) (fun s138 c139 g141 g142 e143 => ?_)
              have f140 := z_Fr.upf (R := R_X11_undo_1) f128 g141 g142 (Or.inr (Or.inr (Or.inr (Or.inr (Or.inr (Or.inr (Or.inr (Or.inr (Or.inr (Or.inl (⟨rfl, by decide⟩)))))))))))
              have t144 : s138 33 1 = s125 33 1 := g141 33 1 (by decide)
              have t145 : s138 33 2 = s125 33 2 := g141 33 2 (by decide)
              have t146 : s138 191 16 = s125 191 16 := g141 191 16 (by decide)
              have r147 := y_B0.fr r136 (g141 211 0 (by decide)) (g141 213 0 (by decide))
              refine T_if1 (by decide +kernel) ?_
              refine T_useN (sf_X11_refresh_1K hfu s138 c139 (y_V3.z r147 (by omega))) (fun v153 s148 hq => ?_)
              obtain ⟨c149, f150, o154, o155, rfl⟩ := hq
              refine T_vN ?_
              have f151 := z_Fr.tr (R := R_X11_undo_1) f140 f150 rs_X11_refresh_1__X11_undo_1
              have t158 : s148 33 1 = s138 33 1 := f150 33 1 (by decide)
              have t159 : s148 33 2 = s138 33 2 := f150 33 2 (by decide)
              have u160 := CI_b c149 (k := 191) (j := 16) bd_191_16
              refine T_if1 (by decide +kernel) ?_
              refine T_let 191 (by decide +kernel) ?_
              refine T_if1 (by decide +kernel) ?_
              refine T_leq (fun x161 e162 => ?_)
              have u163 := CI_b c149 (k := 191) (j := 16) bd_191_16
              exact T_ret ⟨c149, f151, (y_V3.u o154 (Or.inr o155)), ⟨x161, rfl, by omega, by omega⟩⟩
            · exact T_ret ⟨c126, f128, (y_V3.z r136 (by omega)), ⟨(-1), rfl, by omega, by omega⟩⟩
          · refine T_if1 (by decide +kernel) ?_
            refine T_let 74 (by decide +kernel) ?_
            refine T_of (fX2_place_J32.eq_1 ..) ?_
            refine T_rR ?_
            refine T_if1 (by decide) ?_
            refine T_if1 (by decide +kernel) ?_
            refine T_useN (sf_X9_copyFrom_6_74 hfu s25 c26) (fun v169 s164 hq => ?_)
            obtain ⟨c165, f166, rfl⟩ := hq
            refine T_vN ?_
            have f167 := z_Fr.tr (R := R_X11_undo_1) f27 f166 rs_X9_copyFrom_6_74__X11_undo_1
            have t172 : s164 33 1 = s25 33 1 := f166 33 1 (by decide)
            have t173 : s164 33 2 = s25 33 2 := f166 33 2 (by decide)
            have t174 : s164 191 16 = s25 191 16 := f166 191 16 (by decide)
            have r175 := y_B0.fr r34 (f166 211 0 (by decide)) (f166 213 0 (by decide))
            refine T_if1 (by unfold z_bl; omega) ?_
            refine T_rI ?_
            refine T_ite (fun h176 => ?_) (fun h176 => ?_)
            · refine T_if1 ⟨(by decide +kernel), by unfold z_bl; omega⟩ ?_
              refine T_upg c165 bd_1_16 (by omega) (fun s177 c178 g180 g181 e182 => ?_)
              have f179 := z_Fr.upf (R := R_X11_undo_1) f167 g180 g181 (Or.inr (Or.inr (Or.inr (Or.inr (Or.inr (Or.inr (Or.inr (Or.inr (Or.inr (Or.inl (⟨rfl, by decide⟩)))))))))))
              have t183 : s177 33 1 = s164 33 1 := g180 33 1 (by decide)
              have t184 : s177 33 2 = s164 33 2 := g180 33 2 (by decide)
              have t185 : s177 191 16 = s164 191 16 := g180 191 16 (by decide)
              have r186 := y_B0.fr r175 (g180 211 0 (by decide)) (g180 213 0 (by decide))
              refine T_if1 (by decide +kernel) ?_
              refine T_useN (sf_X11_refresh_1K hfu s177 c178 (y_V3.z r186 (by omega))) (fun v192 s187 hq => ?_)
              obtain ⟨c188, f189, o193, o194, rfl⟩ := hq
              refine T_vN ?_
              have f190 := z_Fr.tr (R := R_X11_undo_1) f179 f189 rs_X11_refresh_1__X11_undo_1
              have t197 : s187 33 1 = s177 33 1 := f189 33 1 (by decide)
              have t198 : s187 33 2 = s177 33 2 := f189 33 2 (by decide)
              have u199 := CI_b c188 (k := 191) (j := 16) bd_191_16
              refine T_if1 (by decide +kernel) ?_
              refine T_let 191 (by decide +kernel) ?_
              refine T_if1 (by decide +kernel) ?_
              refine T_leq (fun x200 e201 => ?_)
              have u202 := CI_b c188 (k := 191) (j := 16) bd_191_16
              exact T_ret ⟨c188, f190, (y_V3.u o193 (Or.inr o194)), ⟨x200, rfl, by omega, by omega⟩⟩
            · exact T_ret ⟨c165, f167, (y_V3.z r175 (by omega)), ⟨(-1), rfl, by omega, by omega⟩⟩
          · refine T_if1 (by decide +kernel) ?_
            refine T_let 87 (by decide +kernel) ?_
            refine T_of (fX2_place_J32.eq_1 ..) ?_
            refine T_rR ?_
            refine T_if1 (by decide) ?_
            refine T_if1 (by decide +kernel) ?_
            refine T_useN (sf_X9_copyFrom_6_87 hfu s25 c26) (fun v208 s203 hq => ?_)
            obtain ⟨c204, f205, rfl⟩ := hq
            refine T_vN ?_
            have f206 := z_Fr.tr (R := R_X11_undo_1) f27 f205 rs_X9_copyFrom_6_87__X11_undo_1
            have t211 : s203 33 1 = s25 33 1 := f205 33 1 (by decide)
            have t212 : s203 33 2 = s25 33 2 := f205 33 2 (by decide)
            have t213 : s203 191 16 = s25 191 16 := f205 191 16 (by decide)
            have r214 := y_B0.fr r34 (f205 211 0 (by decide)) (f205 213 0 (by decide))
            refine T_if1 (by unfold z_bl; omega) ?_
            refine T_rI ?_
            refine T_ite (fun h215 => ?_) (fun h215 => ?_)
            · refine T_if1 ⟨(by decide +kernel), by unfold z_bl; omega⟩ ?_
              refine T_upg c204 bd_1_16 (by omega) (fun s216 c217 g219 g220 e221 => ?_)
              have f218 := z_Fr.upf (R := R_X11_undo_1) f206 g219 g220 (Or.inr (Or.inr (Or.inr (Or.inr (Or.inr (Or.inr (Or.inr (Or.inr (Or.inr (Or.inl (⟨rfl, by decide⟩)))))))))))
              have t222 : s216 33 1 = s203 33 1 := g219 33 1 (by decide)
              have t223 : s216 33 2 = s203 33 2 := g219 33 2 (by decide)
              have t224 : s216 191 16 = s203 191 16 := g219 191 16 (by decide)
              have r225 := y_B0.fr r214 (g219 211 0 (by decide)) (g219 213 0 (by decide))
              refine T_if1 (by decide +kernel) ?_
              refine T_useN (sf_X11_refresh_1K hfu s216 c217 (y_V3.z r225 (by omega))) (fun v231 s226 hq => ?_)
              obtain ⟨c227, f228, o232, o233, rfl⟩ := hq
              refine T_vN ?_
              have f229 := z_Fr.tr (R := R_X11_undo_1) f218 f228 rs_X11_refresh_1__X11_undo_1
              have t236 : s226 33 1 = s216 33 1 := f228 33 1 (by decide)
              have t237 : s226 33 2 = s216 33 2 := f228 33 2 (by decide)
              have u238 := CI_b c227 (k := 191) (j := 16) bd_191_16
              refine T_if1 (by decide +kernel) ?_
              refine T_let 191 (by decide +kernel) ?_
              refine T_if1 (by decide +kernel) ?_
              refine T_leq (fun x239 e240 => ?_)
              have u241 := CI_b c227 (k := 191) (j := 16) bd_191_16
              exact T_ret ⟨c227, f229, (y_V3.u o232 (Or.inr o233)), ⟨x239, rfl, by omega, by omega⟩⟩
            · exact T_ret ⟨c204, f206, (y_V3.z r214 (by omega)), ⟨(-1), rfl, by omega, by omega⟩⟩
          · refine T_if1 (by decide +kernel) ?_
            refine T_let 100 (by decide +kernel) ?_
            refine T_of (fX2_place_J32.eq_1 ..) ?_
            refine T_rR ?_
            refine T_if1 (by decide) ?_
            refine T_if1 (by decide +kernel) ?_
            refine T_useN (sf_X9_copyFrom_6_100 hfu s25 c26) (fun v247 s242 hq => ?_)
            obtain ⟨c243, f244, rfl⟩ := hq
            refine T_vN ?_
            have f245 := z_Fr.tr (R := R_X11_undo_1) f27 f244 rs_X9_copyFrom_6_100__X11_undo_1
            have t250 : s242 33 1 = s25 33 1 := f244 33 1 (by decide)
            have t251 : s242 33 2 = s25 33 2 := f244 33 2 (by decide)
            have t252 : s242 191 16 = s25 191 16 := f244 191 16 (by decide)
            have r253 := y_B0.fr r34 (f244 211 0 (by decide)) (f244 213 0 (by decide))
            refine T_if1 (by unfold z_bl; omega) ?_
            refine T_rI ?_
            refine T_ite (fun h254 => ?_) (fun h254 => ?_)
            · refine T_if1 ⟨(by decide +kernel), by unfold z_bl; omega⟩ ?_
              refine T_upg c243 bd_1_16 (by omega) (fun s255 c256 g258 g259 e260 => ?_)
              have f257 := z_Fr.upf (R := R_X11_undo_1) f245 g258 g259 (Or.inr (Or.inr (Or.inr (Or.inr (Or.inr (Or.inr (Or.inr (Or.inr (Or.inr (Or.inl (⟨rfl, by decide⟩)))))))))))
              have t261 : s255 33 1 = s242 33 1 := g258 33 1 (by decide)
              have t262 : s255 33 2 = s242 33 2 := g258 33 2 (by decide)
              have t263 : s255 191 16 = s242 191 16 := g258 191 16 (by decide)
              have r264 := y_B0.fr r253 (g258 211 0 (by decide)) (g258 213 0 (by decide))
              refine T_if1 (by decide +kernel) ?_
              refine T_useN (sf_X11_refresh_1K hfu s255 c256 (y_V3.z r264 (by omega))) (fun v270 s265 hq => ?_)
              obtain ⟨c266, f267, o271, o272, rfl⟩ := hq
              refine T_vN ?_
              have f268 := z_Fr.tr (R := R_X11_undo_1) f257 f267 rs_X11_refresh_1__X11_undo_1
              have t275 : s265 33 1 = s255 33 1 := f267 33 1 (by decide)
              have t276 : s265 33 2 = s255 33 2 := f267 33 2 (by decide)
              have u277 := CI_b c266 (k := 191) (j := 16) bd_191_16
              refine T_if1 (by decide +kernel) ?_
              refine T_let 191 (by decide +kernel) ?_
              refine T_if1 (by decide +kernel) ?_
              refine T_leq (fun x278 e279 => ?_)
              have u280 := CI_b c266 (k := 191) (j := 16) bd_191_16
              exact T_ret ⟨c266, f268, (y_V3.u o271 (Or.inr o272)), ⟨x278, rfl, by omega, by omega⟩⟩
            · exact T_ret ⟨c243, f245, (y_V3.z r253 (by omega)), ⟨(-1), rfl, by omega, by omega⟩⟩
          · refine T_if1 (by decide +kernel) ?_
            refine T_let 113 (by decide +kernel) ?_
            refine T_of (fX2_place_J32.eq_1 ..) ?_
            refine T_rR ?_
            refine T_if1 (by decide) ?_
            refine T_if1 (by decide +kernel) ?_
            refine T_useN (sf_X9_copyFrom_6_113 hfu s25 c26) (fun v286 s281 hq => ?_)
            obtain ⟨c282, f283, rfl⟩ := hq
            refine T_vN ?_
            have f284 := z_Fr.tr (R := R_X11_undo_1) f27 f283 rs_X9_copyFrom_6_113__X11_undo_1
            have t289 : s281 33 1 = s25 33 1 := f283 33 1 (by decide)
            have t290 : s281 33 2 = s25 33 2 := f283 33 2 (by decide)
            have t291 : s281 191 16 = s25 191 16 := f283 191 16 (by decide)
            have r292 := y_B0.fr r34 (f283 211 0 (by decide)) (f283 213 0 (by decide))
            refine T_if1 (by unfold z_bl; omega) ?_
            refine T_rI ?_
            refine T_ite (fun h293 => ?_) (fun h293 => ?_)
            · refine T_if1 ⟨(by decide +kernel), by unfold z_bl; omega⟩ ?_
              refine T_upg c282 bd_1_16 (by omega) (fun s294 c295 g297 g298 e299 => ?_)
              have f296 := z_Fr.upf (R := R_X11_undo_1) f284 g297 g298 (Or.inr (Or.inr (Or.inr (Or.inr (Or.inr (Or.inr (Or.inr (Or.inr (Or.inr (Or.inl (⟨rfl, by decide⟩)))))))))))
              have t300 : s294 33 1 = s281 33 1 := g297 33 1 (by decide)
              have t301 : s294 33 2 = s281 33 2 := g297 33 2 (by decide)
              have t302 : s294 191 16 = s281 191 16 := g297 191 16 (by decide)
              have r303 := y_B0.fr r292 (g297 211 0 (by decide)) (g297 213 0 (by decide))
              refine T_if1 (by decide +kernel) ?_
              refine T_useN (sf_X11_refresh_1K hfu s294 c295 (y_V3.z r303 (by omega))) (fun v309 s304 hq => ?_)
              obtain ⟨c305, f306, o310, o311, rfl⟩ := hq
              refine T_vN ?_
              have f307 := z_Fr.tr (R := R_X11_undo_1) f296 f306 rs_X11_refresh_1__X11_undo_1
              have t314 : s304 33 1 = s294 33 1 := f306 33 1 (by decide)
              have t315 : s304 33 2 = s294 33 2 := f306 33 2 (by decide)
              have u316 := CI_b c305 (k := 191) (j := 16) bd_191_16
              refine T_if1 (by decide +kernel) ?_
              refine T_let 191 (by decide +kernel) ?_
              refine T_if1 (by decide +kernel) ?_
              refine T_leq (fun x317 e318 => ?_)
              have u319 := CI_b c305 (k := 191) (j := 16) bd_191_16
              exact T_ret ⟨c305, f307, (y_V3.u o310 (Or.inr o311)), ⟨x317, rfl, by omega, by omega⟩⟩
            · exact T_ret ⟨c282, f284, (y_V3.z r292 (by omega)), ⟨(-1), rfl, by omega, by omega⟩⟩
          · refine T_if1 (by decide +kernel) ?_
            refine T_let 126 (by decide +kernel) ?_
            refine T_of (fX2_place_J32.eq_1 ..) ?_
            refine T_rR ?_
            refine T_if1 (by decide) ?_
            refine T_if1 (by decide +kernel) ?_
            refine T_useN (sf_X9_copyFrom_6_126 hfu s25 c26) (fun v325 s320 hq => ?_)
            obtain ⟨c321, f322, rfl⟩ := hq
            refine T_vN ?_
            have f323 := z_Fr.tr (R := R_X11_undo_1) f27 f322 rs_X9_copyFrom_6_126__X11_undo_1
            have t328 : s320 33 1 = s25 33 1 := f322 33 1 (by decide)
            have t329 : s320 33 2 = s25 33 2 := f322 33 2 (by decide)
            have t330 : s320 191 16 = s25 191 16 := f322 191 16 (by decide)
            have r331 := y_B0.fr r34 (f322 211 0 (by decide)) (f322 213 0 (by decide))
            refine T_if1 (by unfold z_bl; omega) ?_
            refine T_rI ?_
            refine T_ite (fun h332 => ?_) (fun h332 => ?_)
            · refine T_if1 ⟨(by decide +kernel), by unfold z_bl; omega⟩ ?_
              refine T_upg c321 bd_1_16 (by omega) (fun s333 c334 g336 g337 e338 => ?_)
              have f335 := z_Fr.upf (R := R_X11_undo_1) f323 g336 g337 (Or.inr (Or.inr (Or.inr (Or.inr (Or.inr (Or.inr (Or.inr (Or.inr (Or.inr (Or.inl (⟨rfl, by decide⟩)))))))))))
              have t339 : s333 33 1 = s320 33 1 := g336 33 1 (by decide)
              have t340 : s333 33 2 = s320 33 2 := g336 33 2 (by decide)
              have t341 : s333 191 16 = s320 191 16 := g336 191 16 (by decide)
              have r342 := y_B0.fr r331 (g336 211 0 (by decide)) (g336 213 0 (by decide))
              refine T_if1 (by decide +kernel) ?_
              refine T_useN (sf_X11_refresh_1K hfu s333 c334 (y_V3.z r342 (by omega))) (fun v348 s343 hq => ?_)
              obtain ⟨c344, f345, o349, o350, rfl⟩ := hq
              refine T_vN ?_
              have f346 := z_Fr.tr (R := R_X11_undo_1) f335 f345 rs_X11_refresh_1__X11_undo_1
              have t353 : s343 33 1 = s333 33 1 := f345 33 1 (by decide)
              have t354 : s343 33 2 = s333 33 2 := f345 33 2 (by decide)
              have u355 := CI_b c344 (k := 191) (j := 16) bd_191_16
              refine T_if1 (by decide +kernel) ?_
              refine T_let 191 (by decide +kernel) ?_
              refine T_if1 (by decide +kernel) ?_
              refine T_leq (fun x356 e357 => ?_)
              have u358 := CI_b c344 (k := 191) (j := 16) bd_191_16
              exact T_ret ⟨c344, f346, (y_V3.u o349 (Or.inr o350)), ⟨x356, rfl, by omega, by omega⟩⟩
            · exact T_ret ⟨c321, f323, (y_V3.z r331 (by omega)), ⟨(-1), rfl, by omega, by omega⟩⟩
          · refine T_if1 (by decide +kernel) ?_
            refine T_let 139 (by decide +kernel) ?_
            refine T_of (fX2_place_J32.eq_1 ..) ?_
            refine T_rR ?_
            refine T_if1 (by decide) ?_
            refine T_if1 (by decide +kernel) ?_
            refine T_useN (sf_X9_copyFrom_6_139 hfu s25 c26) (fun v364 s359 hq => ?_)
            obtain ⟨c360, f361, rfl⟩ := hq
            refine T_vN ?_
            have f362 := z_Fr.tr (R := R_X11_undo_1) f27 f361 rs_X9_copyFrom_6_139__X11_undo_1
            have t367 : s359 33 1 = s25 33 1 := f361 33 1 (by decide)
            have t368 : s359 33 2 = s25 33 2 := f361 33 2 (by decide)
            have t369 : s359 191 16 = s25 191 16 := f361 191 16 (by decide)
            have r370 := y_B0.fr r34 (f361 211 0 (by decide)) (f361 213 0 (by decide))
            refine T_if1 (by unfold z_bl; omega) ?_
            refine T_rI ?_
            refine T_ite (fun h371 => ?_) (fun h371 => ?_)
            · refine T_if1 ⟨(by decide +kernel), by unfold z_bl; omega⟩ ?_
              refine T_upg c360 bd_1_16 (by omega) (fun s372 c373 g375 g376 e377 => ?_)
              have f374 := z_Fr.upf (R := R_X11_undo_1) f362 g375 g376 (Or.inr (Or.inr (Or.inr (Or.inr (Or.inr (Or.inr (Or.inr (Or.inr (Or.inr (Or.inl (⟨rfl, by decide⟩)))))))))))
              have t378 : s372 33 1 = s359 33 1 := g375 33 1 (by decide)
              have t379 : s372 33 2 = s359 33 2 := g375 33 2 (by decide)
              have t380 : s372 191 16 = s359 191 16 := g375 191 16 (by decide)
              have r381 := y_B0.fr r370 (g375 211 0 (by decide)) (g375 213 0 (by decide))
              refine T_if1 (by decide +kernel) ?_
              refine T_useN (sf_X11_refresh_1K hfu s372 c373 (y_V3.z r381 (by omega))) (fun v387 s382 hq => ?_)
              obtain ⟨c383, f384, o388, o389, rfl⟩ := hq
              refine T_vN ?_
              have f385 := z_Fr.tr (R := R_X11_undo_1) f374 f384 rs_X11_refresh_1__X11_undo_1
              have t392 : s382 33 1 = s372 33 1 := f384 33 1 (by decide)
              have t393 : s382 33 2 = s372 33 2 := f384 33 2 (by decide)
              have u394 := CI_b c383 (k := 191) (j := 16) bd_191_16
              refine T_if1 (by decide +kernel) ?_
              refine T_let 191 (by decide +kernel) ?_
              refine T_if1 (by decide +kernel) ?_
              refine T_leq (fun x395 e396 => ?_)
              have u397 := CI_b c383 (k := 191) (j := 16) bd_191_16
              exact T_ret ⟨c383, f385, (y_V3.u o388 (Or.inr o389)), ⟨x395, rfl, by omega, by omega⟩⟩
            · exact T_ret ⟨c360, f362, (y_V3.z r370 (by omega)), ⟨(-1), rfl, by omega, by omega⟩⟩
          · refine T_if1 (by decide +kernel) ?_
            refine T_let 152 (by decide +kernel) ?_
            refine T_of (fX2_place_J32.eq_1 ..) ?_
            refine T_rR ?_
            refine T_if1 (by decide) ?_
            refine T_if1 (by decide +kernel) ?_
            refine T_useN (sf_X9_copyFrom_6_152 hfu s25 c26) (fun v403 s398 hq => ?_)
            obtain ⟨c399, f400, rfl⟩ := hq
            refine T_vN ?_
            have f401 := z_Fr.tr (R := R_X11_undo_1) f27 f400 rs_X9_copyFrom_6_152__X11_undo_1
            have t406 : s398 33 1 = s25 33 1 := f400 33 1 (by decide)
            have t407 : s398 33 2 = s25 33 2 := f400 33 2 (by decide)
            have t408 : s398 191 16 = s25 191 16 := f400 191 16 (by decide)
            have r409 := y_B0.fr r34 (f400 211 0 (by decide)) (f400 213 0 (by decide))
            refine T_if1 (by unfold z_bl; omega) ?_
            refine T_rI ?_
            refine T_ite (fun h410 => ?_) (fun h410 => ?_)
            · refine T_if1 ⟨(by decide +kernel), by unfold z_bl; omega⟩ ?_
              refine T_upg c399 bd_1_16 (by omega) (fun s411 c412 g414 g415 e416 => ?_)
              have f413 := z_Fr.upf (R := R_X11_undo_1) f401 g414 g415 (Or.inr (Or.inr (Or.inr (Or.inr (Or.inr (Or.inr (Or.inr (Or.inr (Or.inr (Or.inl (⟨rfl, by decide⟩)))))))))))
              have t417 : s411 33 1 = s398 33 1 := g414 33 1 (by decide)
              have t418 : s411 33 2 = s398 33 2 := g414 33 2 (by decide)
              have t419 : s411 191 16 = s398 191 16 := g414 191 16 (by decide)
              have r420 := y_B0.fr r409 (g414 211 0 (by decide)) (g414 213 0 (by decide))
              refine T_if1 (by decide +kernel) ?_
              refine T_useN (sf_X11_refresh_1K hfu s411 c412 (y_V3.z r420 (by omega))) (fun v426 s421 hq => ?_)
              obtain ⟨c422, f423, o427, o428, rfl⟩ := hq
              refine T_vN ?_
              have f424 := z_Fr.tr (R := R_X11_undo_1) f413 f423 rs_X11_refresh_1__X11_undo_1
              have t431 : s421 33 1 = s411 33 1 := f423 33 1 (by decide)
              have t432 : s421 33 2 = s411 33 2 := f423 33 2 (by decide)
              have u433 := CI_b c422 (k := 191) (j := 16) bd_191_16
              refine T_if1 (by decide +kernel) ?_
              refine T_let 191 (by decide +kernel) ?_
              refine T_if1 (by decide +kernel) ?_
              refine T_leq (fun x434 e435 => ?_)
              have u436 := CI_b c422 (k := 191) (j := 16) bd_191_16
              exact T_ret ⟨c422, f424, (y_V3.u o427 (Or.inr o428)), ⟨x434, rfl, by omega, by omega⟩⟩
            · exact T_ret ⟨c399, f401, (y_V3.z r409 (by omega)), ⟨(-1), rfl, by omega, by omega⟩⟩
          · refine T_if1 (by decide +kernel) ?_
            refine T_let 165 (by decide +kernel) ?_
            refine T_of (fX2_place_J32.eq_1 ..) ?_
            refine T_rR ?_
            refine T_if1 (by decide) ?_
            refine T_if1 (by decide +kernel) ?_
            refine T_useN (sf_X9_copyFrom_6_165 hfu s25 c26) (fun v442 s437 hq => ?_)
            obtain ⟨c438, f439, rfl⟩ := hq
            refine T_vN ?_
            have f440 := z_Fr.tr (R := R_X11_undo_1) f27 f439 rs_X9_copyFrom_6_165__X11_undo_1
            have t445 : s437 33 1 = s25 33 1 := f439 33 1 (by decide)
            have t446 : s437 33 2 = s25 33 2 := f439 33 2 (by decide)
            have t447 : s437 191 16 = s25 191 16 := f439 191 16 (by decide)
            have r448 := y_B0.fr r34 (f439 211 0 (by decide)) (f439 213 0 (by decide))
            refine T_if1 (by unfold z_bl; omega) ?_
            refine T_rI ?_
            refine T_ite (fun h449 => ?_) (fun h449 => ?_)
            · refine T_if1 ⟨(by decide +kernel), by unfold z_bl; omega⟩ ?_
              refine T_upg c438 bd_1_16 (by omega) (fun s450 c451 g453 g454 e455 => ?_)
              have f452 := z_Fr.upf (R := R_X11_undo_1) f440 g453 g454 (Or.inr (Or.inr (Or.inr (Or.inr (Or.inr (Or.inr (Or.inr (Or.inr (Or.inr (Or.inl (⟨rfl, by decide⟩)))))))))))
              have t456 : s450 33 1 = s437 33 1 := g453 33 1 (by decide)
              have t457 : s450 33 2 = s437 33 2 := g453 33 2 (by decide)
              have t458 : s450 191 16 = s437 191 16 := g453 191 16 (by decide)
              have r459 := y_B0.fr r448 (g453 211 0 (by decide)) (g453 213 0 (by decide))
              refine T_if1 (by decide +kernel) ?_
              refine T_useN (sf_X11_refresh_1K hfu s450 c451 (y_V3.z r459 (by omega))) (fun v465 s460 hq => ?_)
              obtain ⟨c461, f462, o466, o467, rfl⟩ := hq
              refine T_vN ?_
              have f463 := z_Fr.tr (R := R_X11_undo_1) f452 f462 rs_X11_refresh_1__X11_undo_1
              have t470 : s460 33 1 = s450 33 1 := f462 33 1 (by decide)
              have t471 : s460 33 2 = s450 33 2 := f462 33 2 (by decide)
              have u472 := CI_b c461 (k := 191) (j := 16) bd_191_16
              refine T_if1 (by decide +kernel) ?_
              refine T_let 191 (by decide +kernel) ?_
              refine T_if1 (by decide +kernel) ?_
              refine T_leq (fun x473 e474 => ?_)
              have u475 := CI_b c461 (k := 191) (j := 16) bd_191_16
              exact T_ret ⟨c461, f463, (y_V3.u o466 (Or.inr o467)), ⟨x473, rfl, by omega, by omega⟩⟩
            · exact T_ret ⟨c438, f440, (y_V3.z r448 (by omega)), ⟨(-1), rfl, by omega, by omega⟩⟩
          · refine T_if1 (by decide +kernel) ?_
            refine T_let 178 (by decide +kernel) ?_
            refine T_of (fX2_place_J32.eq_1 ..) ?_
            refine T_rR ?_
            refine T_if1 (by decide) ?_
            refine T_if1 (by decide +kernel) ?_
            refine T_useN (sf_X9_copyFrom_6_178 hfu s25 c26) (fun v481 s476 hq => ?_)
            obtain ⟨c477, f478, rfl⟩ := hq
            refine T_vN ?_
            have f479 := z_Fr.tr (R := R_X11_undo_1) f27 f478 rs_X9_copyFrom_6_178__X11_undo_1
            have t484 : s476 33 1 = s25 33 1 := f478 33 1 (by decide)
            have t485 : s476 33 2 = s25 33 2 := f478 33 2 (by decide)
            have t486 : s476 191 16 = s25 191 16 := f478 191 16 (by decide)
            have r487 := y_B0.fr r34 (f478 211 0 (by decide)) (f478 213 0 (by decide))
            refine T_if1 (by unfold z_bl; omega) ?_
            refine T_rI ?_
            refine T_ite (fun h488 => ?_) (fun h488 => ?_)
            · refine T_if1 ⟨(by decide +kernel), by unfold z_bl; omega⟩ ?_
              refine T_upg c477 bd_1_16 (by omega) (fun s489 c490 g492 g493 e494 => ?_)
              have f491 := z_Fr.upf (R := R_X11_undo_1) f479 g492 g493 (Or.inr (Or.inr (Or.inr (Or.inr (Or.inr (Or.inr (Or.inr (Or.inr (Or.inr (Or.inl (⟨rfl, by decide⟩)))))))))))
              have t495 : s489 33 1 = s476 33 1 := g492 33 1 (by decide)
              have t496 : s489 33 2 = s476 33 2 := g492 33 2 (by decide)
              have t497 : s489 191 16 = s476 191 16 := g492 191 16 (by decide)
              have r498 := y_B0.fr r487 (g492 211 0 (by decide)) (g492 213 0 (by decide))
              refine T_if1 (by decide +kernel) ?_
              refine T_useN (sf_X11_refresh_1K hfu s489 c490 (y_V3.z r498 (by omega))) (fun v504 s499 hq => ?_)
              obtain ⟨c500, f501, o505, o506, rfl⟩ := hq
              refine T_vN ?_
              have f502 := z_Fr.tr (R := R_X11_undo_1) f491 f501 rs_X11_refresh_1__X11_undo_1
              have t509 : s499 33 1 = s489 33 1 := f501 33 1 (by decide)
              have t510 : s499 33 2 = s489 33 2 := f501 33 2 (by decide)
              have u511 := CI_b c500 (k := 191) (j := 16) bd_191_16
              refine T_if1 (by decide +kernel) ?_
              refine T_let 191 (by decide +kernel) ?_
              refine T_if1 (by decide +kernel) ?_
              refine T_leq (fun x512 e513 => ?_)
              have u514 := CI_b c500 (k := 191) (j := 16) bd_191_16
              exact T_ret ⟨c500, f502, (y_V3.u o505 (Or.inr o506)), ⟨x512, rfl, by omega, by omega⟩⟩
            · exact T_ret ⟨c477, f479, (y_V3.z r487 (by omega)), ⟨(-1), rfl, by omega, by omega⟩⟩
    · refine T_if1 (by decide +kernel) ?_
      refine T_leq (fun x515 e516 => ?_)
      have u517 := CI_b c12 (k := 33) (j := 1) bd_33_1
      refine T_leq (fun x518 e519 => ?_)
      have w520 := z_wb e519
      refine T_of (fX2_takeBack_J38.eq_1 ..) ?_
      refine T_if1 (by decide +kernel) ?_
      refine T_upg c12 bd_33_1 (by omega) (fun s521 c522 g524 g525 e526 => ?_)
      have f523 := z_Fr.upf (R := R_X11_undo_1) f13 g524 g525 (Or.inr (Or.inl (⟨by decide, by decide⟩)))
      have t527 : s521 33 2 = s11 33 2 := g525 2 (by decide)
      have t528 : s521 191 16 = s11 191 16 := g524 191 16 (by decide)
      have r529 := y_V3.fr r19 (g524 1 16 (by decide)) (g524 1 17 (by decide)) (g524 191 16 (by decide)) (g524 6 6 (by decide)) (g524 191 17 (by decide)) (g524 191 18 (by decide)) (fun b => g524 3 b (by decide)) (fun b => g524 8 b (by decide)) (fun b => g524 12 b (by decide)) (fun b => g524 14 b (by decide)) (fun b => g524 16 b (by decide)) (fun b => g524 18 b (by decide)) (fun b => g524 193 b (by decide)) (fun b => g524 195 b (by decide)) (fun b => g524 197 b (by decide)) (fun b => g524 199 b (by decide)) (fun b => g524 201 b (by decide)) (fun b => g524 203 b (by decide)) (fun b => g524 205 b (by decide)) (fun b => g524 207 b (by decide)) (fun b => g524 209 b (by decide)) (fun b => g524 211 b (by decide)) (fun b => g524 213 b (by decide)) (fun b => g524 215 b (by decide)) (fun b => g524 217 b (by decide)) (fun b => g524 219 b (by decide)) (fun b => g524 222 b (by decide)) (g524 240 6 (by decide)) (fun b => g524 248 b (by decide))
      have r530 := y_B0.fr r20 (g524 211 0 (by decide)) (g524 213 0 (by decide))
      refine T_if1 (by decide +kernel) ?_
      refine T_bR ?_
      refine T_of (fX2_place.eq_1 ..) ?_
      refine T_if1 (by decide +kernel) ?_
      refine T_leq (fun x531 e532 => ?_)
      have u533 := CI_b c522 (k := 33) (j := 1) bd_33_1
      refine T_ite (fun h534 => ?_) (fun h534 => ?_)
      · refine T_of (fX2_place_J31.eq_1 ..) ?_
        exfalso
        omega
      · refine T_if1 (by decide +kernel) ?_
        refine T_leq (fun x535 e536 => ?_)
        have u537 := CI_b c522 (k := 33) (j := 1) bd_33_1
        refine T_if1 (by decide +kernel) ?_
        refine T_let 34 (by decide +kernel) ?_
        refine T_if1 (by decide +kernel) ?_
        refine T_let 12 (by decide +kernel) ?_
        refine T_ite (fun h538 => ?_) (fun h538 => ?_)
        · refine T_of (fX2_place_J31.eq_1 ..) ?_
          exfalso
          omega
        · refine T_if1 (by decide +kernel) ?_
          refine T_let 34 (by decide +kernel) ?_
          refine T_if1 (by decide +kernel) ?_
          refine T_leq (fun x539 e540 => ?_)
          have u541 := CI_b c522 (k := 33) (j := 1) bd_33_1
          rcases (show x539 = 0 ∨ x539 = 1 ∨ x539 = 2 ∨ x539 = 3 ∨ x539 = 4 ∨ x539 = 5 ∨ x539 = 6 ∨ x539 = 7 ∨ x539 = 8 ∨ x539 = 9 ∨ x539 = 10 ∨ x539 = 11 by omega) with rfl | rfl | rfl | rfl | rfl | rfl | rfl | rfl | rfl | rfl | rfl | rfl
          · refine T_if1 (by decide +kernel) ?_
            refine T_let 35 (by decide +kernel) ?_
            refine T_of (fX2_place_J32.eq_1 ..) ?_
            refine T_rR ?_
            refine T_if1 (by decide) ?_
            refine T_if1 (by decide +kernel) ?_
            refine T_useN (sf_X9_copyFrom_6_35 hfu s521 c522) (fun v548 s543 hq => ?_)
            obtain ⟨c544, f545, rfl⟩ := hq
            refine T_vN ?_
            have f546 := z_Fr.tr (R := R_X11_undo_1) f523 f545 rs_X9_copyFrom_6_35__X11_undo_1
            have t551 : s543 33 1 = s521 33 1 := f545 33 1 (by decide)
            have t552 : s543 33 2 = s521 33 2 := f545 33 2 (by decide)
            have t553 : s543 191 16 = s521 191 16 := f545 191 16 (by decide)
            have r554 := y_B0.fr r530 (f545 211 0 (by decide)) (f545 213 0 (by decide))
            refine T_if1 (by unfold z_bl; omega) ?_
            refine T_rI ?_
            refine T_ite (fun h555 => ?_) (fun h555 => ?_)
            · refine T_if1 ⟨(by decide +kernel), by unfold z_bl; omega⟩ ?_
              refine T_upg c544 bd_1_16 (by omega) (fun s556 c557 g559 g560 e561 => ?_)
              have f558 := z_Fr.upf (R := R_X11_undo_1) f546 g559 g560 (Or.inr (Or.inr (Or.inr (Or.inr (Or.inr (Or.inr (Or.inr (Or.inr (Or.inr (Or.inl (⟨rfl, by decide⟩)))))))))))
              have t562 : s556 33 1 = s543 33 1 := g559 33 1 (by decide)
              have t563 : s556 33 2 = s543 33 2 := g559 33 2 (by decide)
              have t564 : s556 191 16 = s543 191 16 := g559 191 16 (by decide)
              have r565 := y_B0.fr r554 (g559 211 0 (by decide)) (g559 213 0 (by decide))
              refine T_if1 (by decide +kernel) ?_
              refine T_useN (sf_X11_refresh_1K hfu s556 c557 (y_V3.z r565 (by omega))) (fun v571 s566 hq => ?_)
              obtain ⟨c567, f568, o572, o573, rfl⟩ := hq
              refine T_vN ?_
              have f569 := z_Fr.tr (R := R_X11_undo_1) f558 f568 rs_X11_refresh_1__X11_undo_1
              have t576 : s566 33 1 = s556 33 1 := f568 33 1 (by decide)
              have t577 : s566 33 2 = s556 33 2 := f568 33 2 (by decide)
              have u578 := CI_b c567 (k := 191) (j := 16) bd_191_16
              refine T_if1 (by decide +kernel) ?_
              refine T_let 191 (by decide +kernel) ?_
              refine T_if1 (by decide +kernel) ?_
              refine T_leq (fun x579 e580 => ?_)
              have u581 := CI_b c567 (k := 191) (j := 16) bd_191_16
              exact T_ret ⟨c567, f569, (y_V3.u o572 (Or.inr o573)), ⟨x579, rfl, by omega, by omega⟩⟩
            · exact T_ret ⟨c544, f546, (y_V3.z r554 (by omega)), ⟨(-1), rfl, by omega, by omega⟩⟩
          · refine T_if1 (by decide +kernel) ?_
            refine T_let 48 (by decide +kernel) ?_
            refine T_of (fX2_place_J32.eq_1 ..) ?_
            refine T_rR ?_
            refine T_if1 (by decide) ?_
            refine T_if1 (by decide +kernel) ?_
            refine T_useN (sf_X9_copyFrom_6_48 hfu s521 c522) (fun v587 s582 hq => ?_)
            obtain ⟨c583, f584, rfl⟩ := hq
            refine T_vN ?_
            have f585 := z_Fr.tr (R := R_X11_undo_1) f523 f584 rs_X9_copyFrom_6_48__X11_undo_1
            have t590 : s582 33 1 = s521 33 1 := f584 33 1 (by decide)
            have t591 : s582 33 2 = s521 33 2 := f584 33 2 (by decide)
            have t592 : s582 191 16 = s521 191 16 := f584 191 16 (by decide)
            have r593 := y_B0.fr r530 (f584 211 0 (by decide)) (f584 213 0 (by decide))
            refine T_if1 (by unfold z_bl; omega) ?_
            refine T_rI ?_
            refine T_ite (fun h594 => ?_) (fun h594 => ?_)
            · refine T_if1 ⟨(by decide +kernel), by unfold z_bl; omega⟩ ?_
              refine T_upg c583 bd_1_16 (by omega) (fun s595 c596 g598 g599 e600 => ?_)
              have f597 := z_Fr.upf (R := R_X11_undo_1) f585 g598 g599 (Or.inr (Or.inr (Or.inr (Or.inr (Or.inr (Or.inr (Or.inr (Or.inr (Or.inr (Or.inl (⟨rfl, by decide⟩)))))))))))
              have t601 : s595 33 1 = s582 33 1 := g598 33 1 (by decide)
              have t602 : s595 33 2 = s582 33 2 := g598 33 2 (by decide)
              have t603 : s595 191 16 = s582 191 16 := g598 191 16 (by decide)
              have r604 := y_B0.fr r593 (g598 211 0 (by decide)) (g598 213 0 (by decide))
              refine T_if1 (by decide +kernel) ?_
              refine T_useN (sf_X11_refresh_1K hfu s595 c596 (y_V3.z r604 (by omega))) (fun v610 s605 hq => ?_)
              obtain ⟨c606, f607, o611, o612, rfl⟩ := hq
              refine T_vN ?_
              have f608 := z_Fr.tr (R := R_X11_undo_1) f597 f607 rs_X11_refresh_1__X11_undo_1
              have t615 : s605 33 1 = s595 33 1 := f607 33 1 (by decide)
              have t616 : s605 33 2 = s595 33 2 := f607 33 2 (by decide)
              have u617 := CI_b c606 (k := 191) (j := 16) bd_191_16
              refine T_if1 (by decide +kernel) ?_
              refine T_let 191 (by decide +kernel) ?_
              refine T_if1 (by decide +kernel) ?_
              refine T_leq (fun x618 e619 => ?_)
              have u620 := CI_b c606 (k := 191) (j := 16) bd_191_16
              exact T_ret ⟨c606, f608, (y_V3.u o611 (Or.inr o612)), ⟨x618, rfl, by omega, by omega⟩⟩
            · exact T_ret ⟨c583, f585, (y_V3.z r593 (by omega)), ⟨(-1), rfl, by omega, by omega⟩⟩
          · refine T_if1 (by decide +kernel) ?_
            refine T_let 61 (by decide +kernel) ?_
            refine T_of (fX2_place_J32.eq_1 ..) ?_
            refine T_rR ?_
            refine T_if1 (by decide) ?_
            refine T_if1 (by decide +kernel) ?_
            refine T_useN (sf_X9_copyFrom_6_61 hfu s521 c522) (fun v626 s621 hq => ?_)
            obtain ⟨c622, f623, rfl⟩ := hq
            refine T_vN ?_
            have f624 := z_Fr.tr (R := R_X11_undo_1) f523 f623 rs_X9_copyFrom_6_61__X11_undo_1
            have t629 : s621 33 1 = s521 33 1 := f623 33 1 (by decide)
            have t630 : s621 33 2 = s521 33 2 := f623 33 2 (by decide)
            have t631 : s621 191 16 = s521 191 16 := f623 191 16 (by decide)
            have r632 := y_B0.fr r530 (f623 211 0 (by decide)) (f623 213 0 (by decide))
            refine T_if1 (by unfold z_bl; omega) ?_
            refine T_rI ?_
            refine T_ite (fun h633 => ?_) (fun h633 => ?_)
            · refine T_if1 ⟨(by decide +kernel), by unfold z_bl; omega⟩ ?_
              refine T_upg c622 bd_1_16 (by omega) (fun s634 c635 g637 g638 e639 => ?_)
              have f636 := z_Fr.upf (R := R_X11_undo_1) f624 g637 g638 (Or.inr (Or.inr (Or.inr (Or.inr (Or.inr (Or.inr (Or.inr (Or.inr (Or.inr (Or.inl (⟨rfl, by decide⟩)))))))))))
              have t640 : s634 33 1 = s621 33 1 := g637 33 1 (by decide)
              have t641 : s634 33 2 = s621 33 2 := g637 33 2 (by decide)
              have t642 : s634 191 16 = s621 191 16 := g637 191 16 (by decide)
              have r643 := y_B0.fr r632 (g637 211 0 (by decide)) (g637 213 0 (by decide))
              refine T_if1 (by decide +kernel) ?_
              refine T_useN (sf_X11_refresh_1K hfu s634 c635 (y_V3.z r643 (by omega))) (fun v649 s644 hq => ?_)
              obtain ⟨c645, f646, o650, o651, rfl⟩ := hq
              refine T_vN ?_
              have f647 := z_Fr.tr (R := R_X11_undo_1) f636 f646 rs_X11_refresh_1__X11_undo_1
              have t654 : s644 33 1 = s634 33 1 := f646 33 1 (by decide)
              have t655 : s644 33 2 = s634 33 2 := f646 33 2 (by decide)
              have u656 := CI_b c645 (k := 191) (j := 16) bd_191_16
              refine T_if1 (by decide +kernel) ?_
              refine T_let 191 (by decide +kernel) ?_
              refine T_if1 (by decide +kernel) ?_
              refine T_leq (fun x657 e658 => ?_)
              have u659 := CI_b c645 (k := 191) (j := 16) bd_191_16
              exact T_ret ⟨c645, f647, (y_V3.u o650 (Or.inr o651)), ⟨x657, rfl, by omega, by omega⟩⟩
            · exact T_ret ⟨c622, f624, (y_V3.z r632 (by omega)), ⟨(-1), rfl, by omega, by omega⟩⟩
          · refine T_if1 (by decide +kernel) ?_
            refine T_let 74 (by decide +kernel) ?_
            refine T_of (fX2_place_J32.eq_1 ..) ?_
            refine T_rR ?_
            refine T_if1 (by decide) ?_
            refine T_if1 (by decide +kernel) ?_
            refine T_useN (sf_X9_copyFrom_6_74 hfu s521 c522) (fun v665 s660 hq => ?_)
            obtain ⟨c661, f662, rfl⟩ := hq
            refine T_vN ?_
            have f663 := z_Fr.tr (R := R_X11_undo_1) f523 f662 rs_X9_copyFrom_6_74__X11_undo_1
            have t668 : s660 33 1 = s521 33 1 := f662 33 1 (by decide)
            have t669 : s660 33 2 = s521 33 2 := f662 33 2 (by decide)
            have t670 : s660 191 16 = s521 191 16 := f662 191 16 (by decide)
            have r671 := y_B0.fr r530 (f662 211 0 (by decide)) (f662 213 0 (by decide))
            refine T_if1 (by unfold z_bl; omega) ?_
            refine T_rI ?_
            refine T_ite (fun h672 => ?_) (fun h672 => ?_)
            · refine T_if1 ⟨(by decide +kernel), by unfold z_bl; omega⟩ ?_
              refine T_upg c661 bd_1_16 (by omega) (fun s673 c674 g676 g677 e678 => ?_)
              have f675 := z_Fr.upf (R := R_X11_undo_1) f663 g676 g677 (Or.inr (Or.inr (Or.inr (Or.inr (Or.inr (Or.inr (Or.inr (Or.inr (Or.inr (Or.inl (⟨rfl, by decide⟩)))))))))))
              have t679 : s673 33 1 = s660 33 1 := g676 33 1 (by decide)
              have t680 : s673 33 2 = s660 33 2 := g676 33 2 (by decide)
              have t681 : s673 191 16 = s660 191 16 := g676 191 16 (by decide)
              have r682 := y_B0.fr r671 (g676 211 0 (by decide)) (g676 213 0 (by decide))
              refine T_if1 (by decide +kernel) ?_
              refine T_useN (sf_X11_refresh_1K hfu s673 c674 (y_V3.z r682 (by omega))) (fun v688 s683 hq => ?_)
              obtain ⟨c684, f685, o689, o690, rfl⟩ := hq
              refine T_vN ?_
              have f686 := z_Fr.tr (R := R_X11_undo_1) f675 f685 rs_X11_refresh_1__X11_undo_1
              have t693 : s683 33 1 = s673 33 1 := f685 33 1 (by decide)
              have t694 : s683 33 2 = s673 33 2 := f685 33 2 (by decide)
              have u695 := CI_b c684 (k := 191) (j := 16) bd_191_16
              refine T_if1 (by decide +kernel) ?_
              refine T_let 191 (by decide +kernel) ?_
              refine T_if1 (by decide +kernel) ?_
              refine T_leq (fun x696 e697 => ?_)
              have u698 := CI_b c684 (k := 191) (j := 16) bd_191_16
              exact T_ret ⟨c684, f686, (y_V3.u o689 (Or.inr o690)), ⟨x696, rfl, by omega, by omega⟩⟩
            · exact T_ret ⟨c661, f663, (y_V3.z r671 (by omega)), ⟨(-1), rfl, by omega, by omega⟩⟩
          · refine T_if1 (by decide +kernel) ?_
            refine T_let 87 (by decide +kernel) ?_
            refine T_of (fX2_place_J32.eq_1 ..) ?_
            refine T_rR ?_
            refine T_if1 (by decide) ?_
            refine T_if1 (by decide +kernel) ?_
            refine T_useN (sf_X9_copyFrom_6_87 hfu s521 c522) (fun v704 s699 hq => ?_)
            obtain ⟨c700, f701, rfl⟩ := hq
            refine T_vN ?_
            have f702 := z_Fr.tr (R := R_X11_undo_1) f523 f701 rs_X9_copyFrom_6_87__X11_undo_1
            have t707 : s699 33 1 = s521 33 1 := f701 33 1 (by decide)
            have t708 : s699 33 2 = s521 33 2 := f701 33 2 (by decide)
            have t709 : s699 191 16 = s521 191 16 := f701 191 16 (by decide)
            have r710 := y_B0.fr r530 (f701 211 0 (by decide)) (f701 213 0 (by decide))
            refine T_if1 (by unfold z_bl; omega) ?_
            refine T_rI ?_
            refine T_ite (fun h711 => ?_) (fun h711 => ?_)
            · refine T_if1 ⟨(by decide +kernel), by unfold z_bl; omega⟩ ?_
              refine T_upg c700 bd_1_16 (by omega) (fun s712 c713 g715 g716 e717 => ?_)
              have f714 := z_Fr.upf (R := R_X11_undo_1) f702 g715 g716 (Or.inr (Or.inr (Or.inr (Or.inr (Or.inr (Or.inr (Or.inr (Or.inr (Or.inr (Or.inl (⟨rfl, by decide⟩)))))))))))
              have t718 : s712 33 1 = s699 33 1 := g715 33 1 (by decide)
              have t719 : s712 33 2 = s699 33 2 := g715 33 2 (by decide)
              have t720 : s712 191 16 = s699 191 16 := g715 191 16 (by decide)
              have r721 := y_B0.fr r710 (g715 211 0 (by decide)) (g715 213 0 (by decide))
              refine T_if1 (by decide +kernel) ?_
              refine T_useN (sf_X11_refresh_1K hfu s712 c713 (y_V3.z r721 (by omega))) (fun v727 s722 hq => ?_)
              obtain ⟨c723, f724, o728, o729, rfl⟩ := hq
              refine T_vN ?_
              have f725 := z_Fr.tr (R := R_X11_undo_1) f714 f724 rs_X11_refresh_1__X11_undo_1
              have t732 : s722 33 1 = s712 33 1 := f724 33 1 (by decide)
              have t733 : s722 33 2 = s712 33 2 := f724 33 2 (by decide)
              have u734 := CI_b c723 (k := 191) (j := 16) bd_191_16
              refine T_if1 (by decide +kernel) ?_
              refine T_let 191 (by decide +kernel) ?_
              refine T_if1 (by decide +kernel) ?_
              refine T_leq (fun x735 e736 => ?_)
              have u737 := CI_b c723 (k := 191) (j := 16) bd_191_16
              exact T_ret ⟨c723, f725, (y_V3.u o728 (Or.inr o729)), ⟨x735, rfl, by omega, by omega⟩⟩
            · exact T_ret ⟨c700, f702, (y_V3.z r710 (by omega)), ⟨(-1), rfl, by omega, by omega⟩⟩
          · refine T_if1 (by decide +kernel) ?_
            refine T_let 100 (by decide +kernel) ?_
            refine T_of (fX2_place_J32.eq_1 ..) ?_
            refine T_rR ?_
            refine T_if1 (by decide) ?_
            refine T_if1 (by decide +kernel) ?_
            refine T_useN (sf_X9_copyFrom_6_100 hfu s521 c522) (fun v743 s738 hq => ?_)
            obtain ⟨c739, f740, rfl⟩ := hq
            refine T_vN ?_
            have f741 := z_Fr.tr (R := R_X11_undo_1) f523 f740 rs_X9_copyFrom_6_100__X11_undo_1
            have t746 : s738 33 1 = s521 33 1 := f740 33 1 (by decide)
            have t747 : s738 33 2 = s521 33 2 := f740 33 2 (by decide)
            have t748 : s738 191 16 = s521 191 16 := f740 191 16 (by decide)
            have r749 := y_B0.fr r530 (f740 211 0 (by decide)) (f740 213 0 (by decide))
            refine T_if1 (by unfold z_bl; omega) ?_
            refine T_rI ?_
            refine T_ite (fun h750 => ?_) (fun h750 => ?_)
            · refine T_if1 ⟨(by decide +kernel), by unfold z_bl; omega⟩ ?_
              refine T_upg c739 bd_1_16 (by omega) (fun s751 c752 g754 g755 e756 => ?_)
              have f753 := z_Fr.upf (R := R_X11_undo_1) f741 g754 g755 (Or.inr (Or.inr (Or.inr (Or.inr (Or.inr (Or.inr (Or.inr (Or.inr (Or.inr (Or.inl (⟨rfl, by decide⟩)))))))))))
              have t757 : s751 33 1 = s738 33 1 := g754 33 1 (by decide)
              have t758 : s751 33 2 = s738 33 2 := g754 33 2 (by decide)
              have t759 : s751 191 16 = s738 191 16 := g754 191 16 (by decide)
              have r760 := y_B0.fr r749 (g754 211 0 (by decide)) (g754 213 0 (by decide))
              refine T_if1 (by decide +kernel) ?_
              refine T_useN (sf_X11_refresh_1K hfu s751 c752 (y_V3.z r760 (by omega))) (fun v766 s761 hq => ?_)
              obtain ⟨c762, f763, o767, o768, rfl⟩ := hq
              refine T_vN ?_
              have f764 := z_Fr.tr (R := R_X11_undo_1) f753 f763 rs_X11_refresh_1__X11_undo_1
              have t771 : s761 33 1 = s751 33 1 := f763 33 1 (by decide)
              have t772 : s761 33 2 = s751 33 2 := f763 33 2 (by decide)
              have u773 := CI_b c762 (k := 191) (j := 16) bd_191_16
              refine T_if1 (by decide +kernel) ?_
              refine T_let 191 (by decide +kernel) ?_
              refine T_if1 (by decide +kernel) ?_
              refine T_leq (fun x774 e775 => ?_)
              have u776 := CI_b c762 (k := 191) (j := 16) bd_191_16
              exact T_ret ⟨c762, f764, (y_V3.u o767 (Or.inr o768)), ⟨x774, rfl, by omega, by omega⟩⟩
            · exact T_ret ⟨c739, f741, (y_V3.z r749 (by omega)), ⟨(-1), rfl, by omega, by omega⟩⟩
          · refine T_if1 (by decide +kernel) ?_
            refine T_let 113 (by decide +kernel) ?_
            refine T_of (fX2_place_J32.eq_1 ..) ?_
            refine T_rR ?_
            refine T_if1 (by decide) ?_
            refine T_if1 (by decide +kernel) ?_
            refine T_useN (sf_X9_copyFrom_6_113 hfu s521 c522) (fun v782 s777 hq => ?_)
            obtain ⟨c778, f779, rfl⟩ := hq
            refine T_vN ?_
            have f780 := z_Fr.tr (R := R_X11_undo_1) f523 f779 rs_X9_copyFrom_6_113__X11_undo_1
            have t785 : s777 33 1 = s521 33 1 := f779 33 1 (by decide)
            have t786 : s777 33 2 = s521 33 2 := f779 33 2 (by decide)
            have t787 : s777 191 16 = s521 191 16 := f779 191 16 (by decide)
            have r788 := y_B0.fr r530 (f779 211 0 (by decide)) (f779 213 0 (by decide))
            refine T_if1 (by unfold z_bl; omega) ?_
            refine T_rI ?_
            refine T_ite (fun h789 => ?_) (fun h789 => ?_)
            · refine T_if1 ⟨(by decide +kernel), by unfold z_bl; omega⟩ ?_
              refine T_upg c778 bd_1_16 (by omega) (fun s790 c791 g793 g794 e795 => ?_)
              have f792 := z_Fr.upf (R := R_X11_undo_1) f780 g793 g794 (Or.inr (Or.inr (Or.inr (Or.inr (Or.inr (Or.inr (Or.inr (Or.inr (Or.inr (Or.inl (⟨rfl, by decide⟩)))))))))))
              have t796 : s790 33 1 = s777 33 1 := g793 33 1 (by decide)
              have t797 : s790 33 2 = s777 33 2 := g793 33 2 (by decide)
              have t798 : s790 191 16 = s777 191 16 := g793 191 16 (by decide)
              have r799 := y_B0.fr r788 (g793 211 0 (by decide)) (g793 213 0 (by decide))
              refine T_if1 (by decide +kernel) ?_
              refine T_useN (sf_X11_refresh_1K hfu s790 c791 (y_V3.z r799 (by omega))) (fun v805 s800 hq => ?_)
              obtain ⟨c801, f802, o806, o807, rfl⟩ := hq
              refine T_vN ?_
              have f803 := z_Fr.tr (R := R_X11_undo_1) f792 f802 rs_X11_refresh_1__X11_undo_1
              have t810 : s800 33 1 = s790 33 1 := f802 33 1 (by decide)
              have t811 : s800 33 2 = s790 33 2 := f802 33 2 (by decide)
              have u812 := CI_b c801 (k := 191) (j := 16) bd_191_16
              refine T_if1 (by decide +kernel) ?_
              refine T_let 191 (by decide +kernel) ?_
              refine T_if1 (by decide +kernel) ?_
              refine T_leq (fun x813 e814 => ?_)
              have u815 := CI_b c801 (k := 191) (j := 16) bd_191_16
              exact T_ret ⟨c801, f803, (y_V3.u o806 (Or.inr o807)), ⟨x813, rfl, by omega, by omega⟩⟩
            · exact T_ret ⟨c778, f780, (y_V3.z r788 (by omega)), ⟨(-1), rfl, by omega, by omega⟩⟩
          · refine T_if1 (by decide +kernel) ?_
            refine T_let 126 (by decide +kernel) ?_
            refine T_of (fX2_place_J32.eq_1 ..) ?_
            refine T_rR ?_
            refine T_if1 (by decide) ?_
            refine T_if1 (by decide +kernel) ?_
            refine T_useN (sf_X9_copyFrom_6_126 hfu s521 c522) (fun v821 s816 hq => ?_)
            obtain ⟨c817, f818, rfl⟩ := hq
            refine T_vN ?_
            have f819 := z_Fr.tr (R := R_X11_undo_1) f523 f818 rs_X9_copyFrom_6_126__X11_undo_1
            have t824 : s816 33 1 = s521 33 1 := f818 33 1 (by decide)
            have t825 : s816 33 2 = s521 33 2 := f818 33 2 (by decide)
            have t826 : s816 191 16 = s521 191 16 := f818 191 16 (by decide)
            have r827 := y_B0.fr r530 (f818 211 0 (by decide)) (f818 213 0 (by decide))
            refine T_if1 (by unfold z_bl; omega) ?_
            refine T_rI ?_
            refine T_ite (fun h828 => ?_) (fun h828 => ?_)
            · refine T_if1 ⟨(by decide +kernel), by unfold z_bl; omega⟩ ?_
              refine T_upg c817 bd_1_16 (by omega) (fun s829 c830 g832 g833 e834 => ?_)
              have f831 := z_Fr.upf (R := R_X11_undo_1) f819 g832 g833 (Or.inr (Or.inr (Or.inr (Or.inr (Or.inr (Or.inr (Or.inr (Or.inr (Or.inr (Or.inl (⟨rfl, by decide⟩)))))))))))
              have t835 : s829 33 1 = s816 33 1 := g832 33 1 (by decide)
              have t836 : s829 33 2 = s816 33 2 := g832 33 2 (by decide)
              have t837 : s829 191 16 = s816 191 16 := g832 191 16 (by decide)
              have r838 := y_B0.fr r827 (g832 211 0 (by decide)) (g832 213 0 (by decide))
              refine T_if1 (by decide +kernel) ?_
              refine T_useN (sf_X11_refresh_1K hfu s829 c830 (y_V3.z r838 (by omega))) (fun v844 s839 hq => ?_)
              obtain ⟨c840, f841, o845, o846, rfl⟩ := hq
              refine T_vN ?_
              have f842 := z_Fr.tr (R := R_X11_undo_1) f831 f841 rs_X11_refresh_1__X11_undo_1
              have t849 : s839 33 1 = s829 33 1 := f841 33 1 (by decide)
              have t850 : s839 33 2 = s829 33 2 := f841 33 2 (by decide)
              have u851 := CI_b c840 (k := 191) (j := 16) bd_191_16
              refine T_if1 (by decide +kernel) ?_
              refine T_let 191 (by decide +kernel) ?_
              refine T_if1 (by decide +kernel) ?_
              refine T_leq (fun x852 e853 => ?_)
              have u854 := CI_b c840 (k := 191) (j := 16) bd_191_16
              exact T_ret ⟨c840, f842, (y_V3.u o845 (Or.inr o846)), ⟨x852, rfl, by omega, by omega⟩⟩
            · exact T_ret ⟨c817, f819, (y_V3.z r827 (by omega)), ⟨(-1), rfl, by omega, by omega⟩⟩
          · refine T_if1 (by decide +kernel) ?_
            refine T_let 139 (by decide +kernel) ?_
            refine T_of (fX2_place_J32.eq_1 ..) ?_
            refine T_rR ?_
            refine T_if1 (by decide) ?_
            refine T_if1 (by decide +kernel) ?_
            refine T_useN (sf_X9_copyFrom_6_139 hfu s521 c522) (fun v860 s855 hq => ?_)
            obtain ⟨c856, f857, rfl⟩ := hq
            refine T_vN ?_
            have f858 := z_Fr.tr (R := R_X11_undo_1) f523 f857 rs_X9_copyFrom_6_139__X11_undo_1
            have t863 : s855 33 1 = s521 33 1 := f857 33 1 (by decide)
            have t864 : s855 33 2 = s521 33 2 := f857 33 2 (by decide)
            have t865 : s855 191 16 = s521 191 16 := f857 191 16 (by decide)
            have r866 := y_B0.fr r530 (f857 211 0 (by decide)) (f857 213 0 (by decide))
            refine T_if1 (by unfold z_bl; omega) ?_
            refine T_rI ?_
            refine T_ite (fun h867 => ?_) (fun h867 => ?_)
            · refine T_if1 ⟨(by decide +kernel), by unfold z_bl; omega⟩ ?_
              refine T_upg c856 bd_1_16 (by omega) (fun s868 c869 g871 g872 e873 => ?_)
              have f870 := z_Fr.upf (R := R_X11_undo_1) f858 g871 g872 (Or.inr (Or.inr (Or.inr (Or.inr (Or.inr (Or.inr (Or.inr (Or.inr (Or.inr (Or.inl (⟨rfl, by decide⟩)))))))))))
              have t874 : s868 33 1 = s855 33 1 := g871 33 1 (by decide)
              have t875 : s868 33 2 = s855 33 2 := g871 33 2 (by decide)
              have t876 : s868 191 16 = s855 191 16 := g871 191 16 (by decide)
              have r877 := y_B0.fr r866 (g871 211 0 (by decide)) (g871 213 0 (by decide))
              refine T_if1 (by decide +kernel) ?_
              refine T_useN (sf_X11_refresh_1K hfu s868 c869 (y_V3.z r877 (by omega))) (fun v883 s878 hq => ?_)
              obtain ⟨c879, f880, o884, o885, rfl⟩ := hq
              refine T_vN ?_
              have f881 := z_Fr.tr (R := R_X11_undo_1) f870 f880 rs_X11_refresh_1__X11_undo_1
              have t888 : s878 33 1 = s868 33 1 := f880 33 1 (by decide)
              have t889 : s878 33 2 = s868 33 2 := f880 33 2 (by decide)
              have u890 := CI_b c879 (k := 191) (j := 16) bd_191_16
              refine T_if1 (by decide +kernel) ?_
              refine T_let 191 (by decide +kernel) ?_
              refine T_if1 (by decide +kernel) ?_
              refine T_leq (fun x891 e892 => ?_)
              have u893 := CI_b c879 (k := 191) (j := 16) bd_191_16
              exact T_ret ⟨c879, f881, (y_V3.u o884 (Or.inr o885)), ⟨x891, rfl, by omega, by omega⟩⟩
            · exact T_ret ⟨c856, f858, (y_V3.z r866 (by omega)), ⟨(-1), rfl, by omega, by omega⟩⟩
          · refine T_if1 (by decide +kernel) ?_
            refine T_let 152 (by decide +kernel) ?_
            refine T_of (fX2_place_J32.eq_1 ..) ?_
            refine T_rR ?_
            refine T_if1 (by decide) ?_
            refine T_if1 (by decide +kernel) ?_
            refine T_useN (sf_X9_copyFrom_6_152 hfu s521 c522) (fun v899 s894 hq => ?_)
            obtain ⟨c895, f896, rfl⟩ := hq
            refine T_vN ?_
            have f897 := z_Fr.tr (R := R_X11_undo_1) f523 f896 rs_X9_copyFrom_6_152__X11_undo_1
            have t902 : s894 33 1 = s521 33 1 := f896 33 1 (by decide)
            have t903 : s894 33 2 = s521 33 2 := f896 33 2 (by decide)
            have t904 : s894 191 16 = s521 191 16 := f896 191 16 (by decide)
            have r905 := y_B0.fr r530 (f896 211 0 (by decide)) (f896 213 0 (by decide))
            refine T_if1 (by unfold z_bl; omega) ?_
            refine T_rI ?_
            refine T_ite (fun h906 => ?_) (fun h906 => ?_)
            · refine T_if1 ⟨(by decide +kernel), by unfold z_bl; omega⟩ ?_
              refine T_upg c895 bd_1_16 (by omega) (fun s907 c908 g910 g911 e912 => ?_)
              have f909 := z_Fr.upf (R := R_X11_undo_1) f897 g910 g911 (Or.inr (Or.inr (Or.inr (Or.inr (Or.inr (Or.inr (Or.inr (Or.inr (Or.inr (Or.inl (⟨rfl, by decide⟩)))))))))))
              have t913 : s907 33 1 = s894 33 1 := g910 33 1 (by decide)
              have t914 : s907 33 2 = s894 33 2 := g910 33 2 (by decide)
              have t915 : s907 191 16 = s894 191 16 := g910 191 16 (by decide)
              have r916 := y_B0.fr r905 (g910 211 0 (by decide)) (g910 213 0 (by decide))
              refine T_if1 (by decide +kernel) ?_
              refine T_useN (sf_X11_refresh_1K hfu s907 c908 (y_V3.z r916 (by omega))) (fun v922 s917 hq => ?_)
              obtain ⟨c918, f919, o923, o924, rfl⟩ := hq
              refine T_vN ?_
              have f920 := z_Fr.tr (R := R_X11_undo_1) f909 f919 rs_X11_refresh_1__X11_undo_1
              have t927 : s917 33 1 = s907 33 1 := f919 33 1 (by decide)
              have t928 : s917 33 2 = s907 33 2 := f919 33 2 (by decide)
              have u929 := CI_b c918 (k := 191) (j := 16) bd_191_16
              refine T_if1 (by decide +kernel) ?_
              refine T_let 191 (by decide +kernel) ?_
              refine T_if1 (by decide +kernel) ?_
              refine T_leq (fun x930 e931 => ?_)
              have u932 := CI_b c918 (k := 191) (j := 16) bd_191_16
              exact T_ret ⟨c918, f920, (y_V3.u o923 (Or.inr o924)), ⟨x930, rfl, by omega, by omega⟩⟩
            · exact T_ret ⟨c895, f897, (y_V3.z r905 (by omega)), ⟨(-1), rfl, by omega, by omega⟩⟩
          · refine T_if1 (by decide +kernel) ?_
            refine T_let 165 (by decide +kernel) ?_
            refine T_of (fX2_place_J32.eq_1 ..) ?_
            refine T_rR ?_
            refine T_if1 (by decide) ?_
            refine T_if1 (by decide +kernel) ?_
            refine T_useN (sf_X9_copyFrom_6_165 hfu s521 c522) (fun v938 s933 hq => ?_)
            obtain ⟨c934, f935, rfl⟩ := hq
            refine T_vN ?_
            have f936 := z_Fr.tr (R := R_X11_undo_1) f523 f935 rs_X9_copyFrom_6_165__X11_undo_1
            have t941 : s933 33 1 = s521 33 1 := f935 33 1 (by decide)
            have t942 : s933 33 2 = s521 33 2 := f935 33 2 (by decide)
            have t943 : s933 191 16 = s521 191 16 := f935 191 16 (by decide)
            have r944 := y_B0.fr r530 (f935 211 0 (by decide)) (f935 213 0 (by decide))
            refine T_if1 (by unfold z_bl; omega) ?_
            refine T_rI ?_
            refine T_ite (fun h945 => ?_) (fun h945 => ?_)
            · refine T_if1 ⟨(by decide +kernel), by unfold z_bl; omega⟩ ?_
              refine T_upg c934 bd_1_16 (by omega) (fun s946 c947 g949 g950 e951 => ?_)
              have f948 := z_Fr.upf (R := R_X11_undo_1) f936 g949 g950 (Or.inr (Or.inr (Or.inr (Or.inr (Or.inr (Or.inr (Or.inr (Or.inr (Or.inr (Or.inl (⟨rfl, by decide⟩)))))))))))
              have t952 : s946 33 1 = s933 33 1 := g949 33 1 (by decide)
              have t953 : s946 33 2 = s933 33 2 := g949 33 2 (by decide)
              have t954 : s946 191 16 = s933 191 16 := g949 191 16 (by decide)
              have r955 := y_B0.fr r944 (g949 211 0 (by decide)) (g949 213 0 (by decide))
              refine T_if1 (by decide +kernel) ?_
              refine T_useN (sf_X11_refresh_1K hfu s946 c947 (y_V3.z r955 (by omega))) (fun v961 s956 hq => ?_)
              obtain ⟨c957, f958, o962, o963, rfl⟩ := hq
              refine T_vN ?_
              have f959 := z_Fr.tr (R := R_X11_undo_1) f948 f958 rs_X11_refresh_1__X11_undo_1
              have t966 : s956 33 1 = s946 33 1 := f958 33 1 (by decide)
              have t967 : s956 33 2 = s946 33 2 := f958 33 2 (by decide)
              have u968 := CI_b c957 (k := 191) (j := 16) bd_191_16
              refine T_if1 (by decide +kernel) ?_
              refine T_let 191 (by decide +kernel) ?_
              refine T_if1 (by decide +kernel) ?_
              refine T_leq (fun x969 e970 => ?_)
              have u971 := CI_b c957 (k := 191) (j := 16) bd_191_16
              exact T_ret ⟨c957, f959, (y_V3.u o962 (Or.inr o963)), ⟨x969, rfl, by omega, by omega⟩⟩
            · exact T_ret ⟨c934, f936, (y_V3.z r944 (by omega)), ⟨(-1), rfl, by omega, by omega⟩⟩
          · refine T_if1 (by decide +kernel) ?_
            refine T_let 178 (by decide +kernel) ?_
            refine T_of (fX2_place_J32.eq_1 ..) ?_
            refine T_rR ?_
            refine T_if1 (by decide) ?_
            refine T_if1 (by decide +kernel) ?_
            refine T_useN (sf_X9_copyFrom_6_178 hfu s521 c522) (fun v977 s972 hq => ?_)
            obtain ⟨c973, f974, rfl⟩ := hq
            refine T_vN ?_
            have f975 := z_Fr.tr (R := R_X11_undo_1) f523 f974 rs_X9_copyFrom_6_178__X11_undo_1
            have t980 : s972 33 1 = s521 33 1 := f974 33 1 (by decide)
            have t981 : s972 33 2 = s521 33 2 := f974 33 2 (by decide)
            have t982 : s972 191 16 = s521 191 16 := f974 191 16 (by decide)
            have r983 := y_B0.fr r530 (f974 211 0 (by decide)) (f974 213 0 (by decide))
            refine T_if1 (by unfold z_bl; omega) ?_
            refine T_rI ?_
            refine T_ite (fun h984 => ?_) (fun h984 => ?_)
            · refine T_if1 ⟨(by decide +kernel), by unfold z_bl; omega⟩ ?_
              refine T_upg c973 bd_1_16 (by omega) (fun s985 c986 g988 g989 e990 => ?_)
              have f987 := z_Fr.upf (R := R_X11_undo_1) f975 g988 g989 (Or.inr (Or.inr (Or.inr (Or.inr (Or.inr (Or.inr (Or.inr (Or.inr (Or.inr (Or.inl (⟨rfl, by decide⟩)))))))))))
              have t991 : s985 33 1 = s972 33 1 := g988 33 1 (by decide)
              have t992 : s985 33 2 = s972 33 2 := g988 33 2 (by decide)
              have t993 : s985 191 16 = s972 191 16 := g988 191 16 (by decide)
              have r994 := y_B0.fr r983 (g988 211 0 (by decide)) (g988 213 0 (by decide))
              refine T_if1 (by decide +kernel) ?_
              refine T_useN (sf_X11_refresh_1K hfu s985 c986 (y_V3.z r994 (by omega))) (fun v1000 s995 hq => ?_)
              obtain ⟨c996, f997, o1001, o1002, rfl⟩ := hq
              refine T_vN ?_
              have f998 := z_Fr.tr (R := R_X11_undo_1) f987 f997 rs_X11_refresh_1__X11_undo_1
              have t1005 : s995 33 1 = s985 33 1 := f997 33 1 (by decide)
              have t1006 : s995 33 2 = s985 33 2 := f997 33 2 (by decide)
              have u1007 := CI_b c996 (k := 191) (j := 16) bd_191_16
              refine T_if1 (by decide +kernel) ?_
              refine T_let 191 (by decide +kernel) ?_
              refine T_if1 (by decide +kernel) ?_
              refine T_leq (fun x1008 e1009 => ?_)
              have u1010 := CI_b c996 (k := 191) (j := 16) bd_191_16
              exact T_ret ⟨c996, f998, (y_V3.u o1001 (Or.inr o1002)), ⟨x1008, rfl, by omega, by omega⟩⟩
            · exact T_ret ⟨c973, f975, (y_V3.z r983 (by omega)), ⟨(-1), rfl, by omega, by omega⟩⟩
  · refine T_if1 (by unfold z_bl; omega) ?_
    refine T_rI ?_
    refine T_ite (fun h1011 => ?_) (fun h1011 => ?_)
    · refine T_if1 ⟨(by decide +kernel), by unfold z_bl; omega⟩ ?_
      refine T_upg c0 bd_1_16 (by omega) (fun s1012 c1013 g1015 g1016 e1017 => ?_)
      have f1014 := z_Fr.upf (R := R_X11_undo_1) z_Fr.rf g1015 g1016 (Or.inr (Or.inr (Or.inr (Or.inr (Or.inr (Or.inr (Or.inr (Or.inr (Or.inr (Or.inl (⟨rfl, by decide⟩)))))))))))
      have t1018 : s1012 33 1 = r0 33 1 := g1015 33 1 (by decide)
      have t1019 : s1012 33 2 = r0 33 2 := g1015 33 2 (by decide)
      have t1020 : s1012 191 16 = r0 191 16 := g1015 191 16 (by decide)
      have r1021 := y_B0.fr p0.1.1 (g1015 211 0 (by decide)) (g1015 213 0 (by decide))
      refine T_if1 (by decide +kernel) ?_
      refine T_useN (sf_X11_refresh_1K hfu s1012 c1013 (y_V3.z r1021 (by omega))) (fun v1027 s1022 hq => ?_)
      obtain ⟨c1023, f1024, o1028, o1029, rfl⟩ := hq
      refine T_vN ?_
      have f1025 := z_Fr.tr (R := R_X11_undo_1) f1014 f1024 rs_X11_refresh_1__X11_undo_1
      have t1032 : s1022 33 1 = s1012 33 1 := f1024 33 1 (by decide)
      have t1033 : s1022 33 2 = s1012 33 2 := f1024 33 2 (by decide)
      have u1034 := CI_b c1023 (k := 191) (j := 16) bd_191_16
      refine T_if1 (by decide +kernel) ?_
      refine T_let 191 (by decide +kernel) ?_
      refine T_if1 (by decide +kernel) ?_
      refine T_leq (fun x1035 e1036 => ?_)
      have u1037 := CI_b c1023 (k := 191) (j := 16) bd_191_16
      exact T_ret ⟨c1023, f1025, (y_V3.u o1028 (Or.inr o1029)), ⟨x1035, rfl, by omega, by omega⟩⟩
    · exact T_ret ⟨c0, z_Fr.rf, p0, ⟨(-1), rfl, by omega, by omega⟩⟩
abbrev P_X1_longOfLine_240K (r0 : z_M) : z_V → z_M → Prop := fun v s' => z_CI s' ∧ z_Fr R_X1_longOfLine_240 r0 s' ∧ (y_U3 s') ∧ (∃ x, v = vI x ∧ -2147483648 ≤ x ∧ x ≤ 2147483647)
theorem nr_X5_lengthOf_220__257 (b : Int) : ¬ R_X5_lengthOf_220 257 b := by
  unfold R_X5_lengthOf_220; omega
theorem sf_X1_longOfLine_240K {fu : Nat} (hfu : 8589934592 ≤ fu) (r0 : z_M) (c0 : z_CI r0) (a1 : Int) (b1 : -2147483648 ≤ a1 ∧ a1 ≤ 2147483647) (p0 : y_U3 r0) (p1 : y_SV 240 r0) (p2 : 0 ≤ a1) (p3 : a1 < r0 240 6) : z_T (fX1_longOfLine fu r0 240 a1) (P_X1_longOfLine_240K r0) := by
  refine T_of (fX1_longOfLine.eq_1 ..) ?_
  refine T_if1 (by decide +kernel) ?_
  refine T_let 220 (by decide +kernel) ?_
  refine T_if1 (by decide +kernel) ?_
  refine T_let 247 (by decide +kernel) ?_
  refine T_if1 (by decide +kernel) ?_
  refine T_get (by decide +kernel) (c := 248) (by decide +kernel) bdr_248 (by decide) c0 (fun x1 e2 b3 w4 => ?_)
  have l5 : z_ln 247 = 201 := by decide +kernel
  refine T_if1 (by decide +kernel) ?_
  refine T_let 247 (by decide +kernel) ?_
  refine T_leq (fun x6 e7 => ?_)
  have w8 := z_wb e7
  refine T_if1 (by decide +kernel) ?_
  refine T_get (by decide +kernel) (c := 248) (by decide +kernel) bdr_248 (by decide) c0 (fun x9 e10 b11 w12 => ?_)
  have l13 : z_ln 247 = 201 := by decide +kernel
  refine T_leq (fun x14 e15 => ?_)
  have w16 := z_wb e15
  refine T_if1 (by decide +kernel) ?_
  refine T_useI (sf_X5_lengthOf_220K hfu r0 c0 x1 x14 (by omega) (by omega) p0 (by have q8 := CI_b ‹z_CI r0› (k := 240) (j := 6) bd_240_6; have q9 := CI_b ‹z_CI r0› (k := 249) (j := 6) bd_249_6; have q7 := CI_b ‹z_CI r0› (k := 191) (j := 16) bd_191_16; first | exact y_AR.i (by omega) (by omega) (by omega) | exact y_SV.ar p1 (by assumption) (by assumption) rfl (by omega) (by omega) (by omega) (by omega) (by omega))) (fun v22 s17 hq => ?_)
  obtain ⟨c18, f19, o23, ⟨x21, rfl, b24, b25⟩⟩ := hq
  refine T_vI ?_
  have f20 := z_Fr.tr (R := R_X1_longOfLine_240) z_Fr.rf f19 rs_X5_lengthOf_220__X1_longOfLine_240
  have t26 : s17 240 6 = r0 240 6 := f19 240 6 (by decide)
  have t27 : s17 249 6 = r0 249 6 := f19 249 6 (by decide)
  have r28 := y_SV.fr p1 (f19 191 16 (by decide)) (f19 6 6 (by decide)) (f19 191 17 (by decide)) (f19 191 18 (by decide)) (fun b => f19 3 b (nr_X5_lengthOf_220__3 b)) (fun b => f19 8 b (nr_X5_lengthOf_220__8 b)) (fun b => f19 12 b (nr_X5_lengthOf_220__12 b)) (fun b => f19 14 b (nr_X5_lengthOf_220__14 b)) (fun b => f19 16 b (nr_X5_lengthOf_220__16 b)) (fun b => f19 18 b (nr_X5_lengthOf_220__18 b)) (fun b => f19 193 b (nr_X5_lengthOf_220__193 b)) (fun b => f19 195 b (nr_X5_lengthOf_220__195 b)) (fun b => f19 197 b (nr_X5_lengthOf_220__197 b)) (fun b => f19 199 b (nr_X5_lengthOf_220__199 b)) (fun b => f19 201 b (nr_X5_lengthOf_220__201 b)) (fun b => f19 203 b (nr_X5_lengthOf_220__203 b)) (fun b => f19 205 b (nr_X5_lengthOf_220__205 b)) (fun b => f19 207 b (nr_X5_lengthOf_220__207 b)) (fun b => f19 209 b (nr_X5_lengthOf_220__209 b)) (fun b => f19 211 b (nr_X5_lengthOf_220__211 b)) (fun b => f19 213 b (nr_X5_lengthOf_220__213 b)) (fun b => f19 215 b (nr_X5_lengthOf_220__215 b)) (fun b => f19 217 b (nr_X5_lengthOf_220__217 b)) (fun b => f19 219 b (nr_X5_lengthOf_220__219 b)) (f19 240 6 (by decide)) (fun b => f19 248 b (nr_X5_lengthOf_220__248 b)) (f19 249 6 (by decide)) (fun b => f19 257 b (nr_X5_lengthOf_220__257 b))
  have r29 := y_B0.fr p0.1.1 (f19 211 0 (by decide)) (f19 213 0 (by decide))
  exact T_ret ⟨c18, f20, o23, ⟨x21, rfl, by omega, by omega⟩⟩
abbrev P_X1_tooLong_240K (r0 : z_M) : z_V → z_M → Prop := fun v s' => z_CI s' ∧ z_Fr R_X1_tooLong_240 r0 s' ∧ (y_U3 s') ∧ (∃ x, v = vI x ∧ -2147483648 ≤ x ∧ x ≤ 2147483647)
theorem nr_X1_longOfLine_240__3 (b : Int) : ¬ R_X1_longOfLine_240 3 b := by
  unfold R_X1_longOfLine_240; omega
theorem nr_X1_longOfLine_240__8 (b : Int) : ¬ R_X1_longOfLine_240 8 b := by
  unfold R_X1_longOfLine_240; omega
theorem nr_X1_longOfLine_240__12 (b : Int) : ¬ R_X1_longOfLine_240 12 b := by
  unfold R_X1_longOfLine_240; omega
theorem nr_X1_longOfLine_240__14 (b : Int) : ¬ R_X1_longOfLine_240 14 b := by
  unfold R_X1_longOfLine_240; omega
theorem nr_X1_longOfLine_240__16 (b : Int) : ¬ R_X1_longOfLine_240 16 b := by
  unfold R_X1_longOfLine_240; omega
theorem nr_X1_longOfLine_240__18 (b : Int) : ¬ R_X1_longOfLine_240 18 b := by
  unfold R_X1_longOfLine_240; omega
theorem nr_X1_longOfLine_240__193 (b : Int) : ¬ R_X1_longOfLine_240 193 b := by
  unfold R_X1_longOfLine_240; omega
theorem nr_X1_longOfLine_240__195 (b : Int) : ¬ R_X1_longOfLine_240 195 b := by
  unfold R_X1_longOfLine_240; omega
theorem nr_X1_longOfLine_240__197 (b : Int) : ¬ R_X1_longOfLine_240 197 b := by
  unfold R_X1_longOfLine_240; omega
theorem nr_X1_longOfLine_240__199 (b : Int) : ¬ R_X1_longOfLine_240 199 b := by
  unfold R_X1_longOfLine_240; omega
theorem nr_X1_longOfLine_240__201 (b : Int) : ¬ R_X1_longOfLine_240 201 b := by
  unfold R_X1_longOfLine_240; omega
theorem nr_X1_longOfLine_240__203 (b : Int) : ¬ R_X1_longOfLine_240 203 b := by
  unfold R_X1_longOfLine_240; omega
theorem nr_X1_longOfLine_240__205 (b : Int) : ¬ R_X1_longOfLine_240 205 b := by
  unfold R_X1_longOfLine_240; omega
theorem nr_X1_longOfLine_240__207 (b : Int) : ¬ R_X1_longOfLine_240 207 b := by
  unfold R_X1_longOfLine_240; omega
theorem nr_X1_longOfLine_240__209 (b : Int) : ¬ R_X1_longOfLine_240 209 b := by
  unfold R_X1_longOfLine_240; omega
theorem nr_X1_longOfLine_240__211 (b : Int) : ¬ R_X1_longOfLine_240 211 b := by
  unfold R_X1_longOfLine_240; omega
theorem nr_X1_longOfLine_240__213 (b : Int) : ¬ R_X1_longOfLine_240 213 b := by
  unfold R_X1_longOfLine_240; omega
theorem nr_X1_longOfLine_240__215 (b : Int) : ¬ R_X1_longOfLine_240 215 b := by
  unfold R_X1_longOfLine_240; omega
theorem nr_X1_longOfLine_240__217 (b : Int) : ¬ R_X1_longOfLine_240 217 b := by
  unfold R_X1_longOfLine_240; omega
theorem nr_X1_longOfLine_240__219 (b : Int) : ¬ R_X1_longOfLine_240 219 b := by
  unfold R_X1_longOfLine_240; omega
theorem nr_X1_longOfLine_240__248 (b : Int) : ¬ R_X1_longOfLine_240 248 b := by
  unfold R_X1_longOfLine_240; omega
theorem nr_X1_longOfLine_240__257 (b : Int) : ¬ R_X1_longOfLine_240 257 b := by
  unfold R_X1_longOfLine_240; omega
theorem sj_X1_tooLong_240K_J27 {fu : Nat} (hfu : 8589934592 ≤ fu) (r0 s : z_M) (c : z_CI s) (f : z_Fr R_X1_tooLong_240 r0 s) (a1 : Int) (a3 : Int) (t0 : Int) (t1 : Int) (b1 : -2147483648 ≤ a1 ∧ a1 ≤ 2147483647) (b3 : 0 ≤ a3 ∧ a3 ≤ 2147483646) (d0 : -2147483648 ≤ t0 ∧ t0 ≤ 2147483647) (d1 : 0 ≤ t1 ∧ t1 ≤ 1) (p0 : y_U3 s) (p1 : y_SV 240 s) (M : Int) (pm : 2147483647 - a3 ≤ M) {r : z_M → Int → Int → z_O} {k : z_M → Int → z_O} (hr : ∀ (s' : z_M) (v2 : Int) (v3 : Int), z_CI s' → z_Fr R_X1_tooLong_240 r0 s' → (-2147483648 ≤ v2 ∧ v2 ≤ 2147483647) → (0 ≤ v3 ∧ v3 ≤ 2147483647) → (y_U3 s') → (y_SV 240 s') → (2147483647 - v3 < M) → z_T (r s' v2 v3) (P_X1_tooLong_240K r0)) (hk : ∀ (s' : z_M) (v2 : Int), z_CI s' → z_Fr R_X1_tooLong_240 r0 s' → (-2147483648 ≤ v2 ∧ v2 ≤ 2147483647) → (y_U3 s') → (y_SV 240 s') → z_T (k s' v2) (P_X1_tooLong_240K r0)) : z_T (fX1_tooLong_J27 fu s 240 a1 a3 t0 t1 r k) (P_X1_tooLong_240K r0) := by
  refine T_of (fX1_tooLong_J27.eq_1 ..) ?_
  have u1 := CI_b c (k := 240) (j := 6) bd_240_6
  refine T_leq (fun x2 e3 => ?_)
  have w4 := z_wb e3
  refine T_leq (fun x5 e6 => ?_)
  have w7 := z_wb e6
  exact hr s x2 x5 c f (by omega) (by omega) p0 p1 (by omega)
theorem sl_X1_tooLong_240K_L4 {fu : Nat} (hfu : 8589934592 ≤ fu) (r0 : z_M) (a1 : Int) (b1 : -2147483648 ≤ a1 ∧ a1 ≤ 2147483647) {k : z_M → Int → z_O} (hk : ∀ (s' : z_M) (v2 : Int), z_CI s' → z_Fr R_X1_tooLong_240 r0 s' → (-2147483648 ≤ v2 ∧ v2 ≤ 2147483647) → (y_U3 s') → (y_SV 240 s') → z_T (k s' v2) (P_X1_tooLong_240K r0)) : ∀ (F : Nat) (s : z_M) (a2 : Int) (a3 : Int), z_CI s → z_Fr R_X1_tooLong_240 r0 s → (-2147483648 ≤ a2 ∧ a2 ≤ 2147483647) → (0 ≤ a3 ∧ a3 ≤ 2147483647) → (y_U3 s) → (y_SV 240 s) → (2147483647 - a3 < (F : Int)) → z_T (fX1_tooLong_L4 fu 240 a1 F s a2 a3 k) (P_X1_tooLong_240K r0) := by
  intro F
  induction F with
  | zero =>
    intro s a2 a3 c f b2 b3 i0 i1 hm
    have u19 := CI_b c (k := 240) (j := 6) bd_240_6
    exfalso; omega
  | succ F ih =>
    intro s a2 a3 c f b2 b3 i0 i1 hm
    refine T_of (fX1_tooLong_L4.eq_2 ..) ?_
    have u1 := CI_b c (k := 240) (j := 6) bd_240_6
    refine T_if1 (by decide +kernel) ?_
    refine T_leq (fun x2 e3 => ?_)
    have u4 := CI_b c (k := 240) (j := 6) bd_240_6
    refine T_ite (fun h5 => ?_) (fun h5 => ?_)
    · exact hk s a2 c f (by omega) i0 i1
    · refine T_if1 (by decide +kernel) ?_
      refine T_useI (sf_X1_longOfLine_240K hfu s c a3 (by omega) i0 i1 (by omega) (by omega)) (fun v11 s6 hq => ?_)
      obtain ⟨c7, f8, o12, ⟨x10, rfl, b13, b14⟩⟩ := hq
      refine T_vI ?_
      have f9 := z_Fr.tr (R := R_X1_tooLong_240) f f8 rs_X1_longOfLine_240__X1_tooLong_240
      have t15 : s6 240 6 = s 240 6 := f8 240 6 (by decide)
      have r16 := y_SV.fr i1 (f8 191 16 (by decide)) (f8 6 6 (by decide)) (f8 191 17 (by decide)) (f8 191 18 (by decide)) (fun b => f8 3 b (nr_X1_longOfLine_240__3 b)) (fun b => f8 8 b (nr_X1_longOfLine_240__8 b)) (fun b => f8 12 b (nr_X1_longOfLine_240__12 b)) (fun b => f8 14 b (nr_X1_longOfLine_240__14 b)) (fun b => f8 16 b (nr_X1_longOfLine_240__16 b)) (fun b => f8 18 b (nr_X1_longOfLine_240__18 b)) (fun b => f8 193 b (nr_X1_longOfLine_240__193 b)) (fun b => f8 195 b (nr_X1_longOfLine_240__195 b)) (fun b => f8 197 b (nr_X1_longOfLine_240__197 b)) (fun b => f8 199 b (nr_X1_longOfLine_240__199 b)) (fun b => f8 201 b (nr_X1_longOfLine_240__201 b)) (fun b => f8 203 b (nr_X1_longOfLine_240__203 b)) (fun b => f8 205 b (nr_X1_longOfLine_240__205 b)) (fun b => f8 207 b (nr_X1_longOfLine_240__207 b)) (fun b => f8 209 b (nr_X1_longOfLine_240__209 b)) (fun b => f8 211 b (nr_X1_longOfLine_240__211 b)) (fun b => f8 213 b (nr_X1_longOfLine_240__213 b)) (fun b => f8 215 b (nr_X1_longOfLine_240__215 b)) (fun b => f8 217 b (nr_X1_longOfLine_240__217 b)) (fun b => f8 219 b (nr_X1_longOfLine_240__219 b)) (f8 240 6 (by decide)) (fun b => f8 248 b (nr_X1_longOfLine_240__248 b)) (f8 249 6 (by decide)) (fun b => f8 257 b (nr_X1_longOfLine_240__257 b))
      have r17 := y_B0.fr i0.1.1 (f8 211 0 (by decide)) (f8 213 0 (by decide))
      refine T_ite (fun h18 => ?_) (fun h18 => ?_)
      · exact sj_X1_tooLong_240K_J27 hfu r0 s6 c7 f9 a1 a3 a2 0 (by omega) (by omega) (by omega) (by omega) o12 r16 (2147483647 - a3) (by omega) (fun s' v2 v3 c' f' w2 w3 z0 z1 pg => ih s' v2 v3 c' f' w2 w3 z0 z1 (by omega)) hk
      · exact sj_X1_tooLong_240K_J27 hfu r0 s6 c7 f9 a1 a3 a2 1 (by omega) (by omega) (by omega) (by omega) o12 r16 (2147483647 - a3) (by omega) (fun s' v2 v3 c' f' w2 w3 z0 z1 pg => ih s' v2 v3 c' f' w2 w3 z0 z1 (by omega)) hk
theorem sf_X1_tooLong_240K {fu : Nat} (hfu : 8589934592 ≤ fu) (r0 : z_M) (c0 : z_CI r0) (a1 : Int) (b1 : -2147483648 ≤ a1 ∧ a1 ≤ 2147483647) (p0 : y_U3 r0) (p1 : y_SV 240 r0) : z_T (fX1_tooLong fu r0 240 a1) (P_X1_tooLong_240K r0) := by
  refine T_of (fX1_tooLong.eq_1 ..) ?_
  refine sl_X1_tooLong_240K_L4 hfu r0 a1 (by omega) (fun s1 y4 c2 f3 b5 g6 g7 => ?_) fu r0 0 0 c0 z_Fr.rf (by omega) (by omega) p0 p1 (by omega)
  have u8 := CI_b c2 (k := 240) (j := 6) bd_240_6
  exact T_ret ⟨c2, f3, g6, ⟨y4, rfl, by omega, by omega⟩⟩
abbrev P_X1_costs_240K (r0 : z_M) : z_V → z_M → Prop := fun v s' => z_CI s' ∧ z_Fr R_X1_costs_240 r0 s' ∧ (y_U3 s') ∧ (∃ x, v = vL x ∧ -9223372036854775808 ≤ x ∧ x ≤ 9223372036854775807)
theorem nr_X1_costFor__3 (b : Int) : ¬ R_X1_costFor 3 b := not_false
theorem nr_X1_costFor__8 (b : Int) : ¬ R_X1_costFor 8 b := not_false
theorem nr_X1_costFor__12 (b : Int) : ¬ R_X1_costFor 12 b := not_false
theorem nr_X1_costFor__14 (b : Int) : ¬ R_X1_costFor 14 b := not_false
theorem nr_X1_costFor__16 (b : Int) : ¬ R_X1_costFor 16 b := not_false
theorem nr_X1_costFor__18 (b : Int) : ¬ R_X1_costFor 18 b := not_false
theorem nr_X1_costFor__193 (b : Int) : ¬ R_X1_costFor 193 b := not_false
theorem nr_X1_costFor__195 (b : Int) : ¬ R_X1_costFor 195 b := not_false
theorem nr_X1_costFor__197 (b : Int) : ¬ R_X1_costFor 197 b := not_false
theorem nr_X1_costFor__199 (b : Int) : ¬ R_X1_costFor 199 b := not_false
theorem nr_X1_costFor__201 (b : Int) : ¬ R_X1_costFor 201 b := not_false
theorem nr_X1_costFor__203 (b : Int) : ¬ R_X1_costFor 203 b := not_false
theorem nr_X1_costFor__205 (b : Int) : ¬ R_X1_costFor 205 b := not_false
theorem nr_X1_costFor__207 (b : Int) : ¬ R_X1_costFor 207 b := not_false
theorem nr_X1_costFor__209 (b : Int) : ¬ R_X1_costFor 209 b := not_false
theorem nr_X1_costFor__211 (b : Int) : ¬ R_X1_costFor 211 b := not_false
theorem nr_X1_costFor__213 (b : Int) : ¬ R_X1_costFor 213 b := not_false
theorem nr_X1_costFor__215 (b : Int) : ¬ R_X1_costFor 215 b := not_false
theorem nr_X1_costFor__217 (b : Int) : ¬ R_X1_costFor 217 b := not_false
theorem nr_X1_costFor__219 (b : Int) : ¬ R_X1_costFor 219 b := not_false
theorem nr_X1_costFor__222 (b : Int) : ¬ R_X1_costFor 222 b := not_false
theorem nr_X1_costFor__248 (b : Int) : ¬ R_X1_costFor 248 b := not_false
theorem nr_X1_costFor__257 (b : Int) : ¬ R_X1_costFor 257 b := not_false
theorem sj_X1_costs_240K_J38 {fu : Nat} (hfu : 8589934592 ≤ fu) (r0 s : z_M) (c : z_CI s) (f : z_Fr R_X1_costs_240 r0 s) (a1 : Int) (a4 : Int) (t0 : Int) (t1 : Int) (t2 : Int) (t3 : Int) (b1 : -2147483648 ≤ a1 ∧ a1 ≤ 2147483647) (b4 : 0 ≤ a4 ∧ a4 ≤ 2147483646) (d0 : -9223372036854775808 ≤ t0 ∧ t0 ≤ 9223372036854775807) (d1 : -2147483648 ≤ t1 ∧ t1 ≤ 2147483647) (d2 : -2147483648 ≤ t2 ∧ t2 ≤ 2147483647) (d3 : 0 ≤ t3 ∧ t3 ≤ 1) (p0 : y_U3 s) (p1 : y_SV 240 s) (M : Int) (pm : 2147483647 - a4 ≤ M) {r : z_M → Int → Int → z_O} {k : z_M → Int → z_O} (hr : ∀ (s' : z_M) (v2 : Int) (v4 : Int), z_CI s' → z_Fr R_X1_costs_240 r0 s' → (-9223372036854775808 ≤ v2 ∧ v2 ≤ 9223372036854775807) → (0 ≤ v4 ∧ v4 ≤ 2147483647) → (y_U3 s') → (y_SV 240 s') → (2147483647 - v4 < M) → z_T (r s' v2 v4) (P_X1_costs_240K r0)) (hk : ∀ (s' : z_M) (v2 : Int), z_CI s' → z_Fr R_X1_costs_240 r0 s' → (-9223372036854775808 ≤ v2 ∧ v2 ≤ 9223372036854775807) → (y_U3 s') → (y_SV 240 s') → z_T (k s' v2) (P_X1_costs_240K r0)) : z_T (fX1_costs_J38 fu s 240 a1 a4 t0 t1 t2 t3 r k) (P_X1_costs_240K r0) := by
  refine T_of (fX1_costs_J38.eq_1 ..) ?_
  have u1 := CI_b c (k := 240) (j := 6) bd_240_6
  refine T_useL (sf_X1_costFor hfu s c t1 t2 t3 (by omega) (by omega) (by omega)) (fun v7 s2 hq => ?_)
  obtain ⟨c3, f4, ⟨x6, rfl, b8, b9⟩⟩ := hq
  refine T_vL ?_
  have f5 := z_Fr.tr (R := R_X1_costs_240) f f4 (fun a b h => absurd h not_false)
  have t10 : s2 240 6 = s 240 6 := f4 240 6 (by decide)
  have r11 := y_U3.fr p0 (f4 191 16 (by decide)) (f4 6 6 (by decide)) (f4 191 17 (by decide)) (f4 191 18 (by decide)) (fun b => f4 3 b (nr_X1_costFor__3 b)) (fun b => f4 8 b (nr_X1_costFor__8 b)) (fun b => f4 12 b (nr_X1_costFor__12 b)) (fun b => f4 14 b (nr_X1_costFor__14 b)) (fun b => f4 16 b (nr_X1_costFor__16 b)) (fun b => f4 18 b (nr_X1_costFor__18 b)) (fun b => f4 193 b (nr_X1_costFor__193 b)) (fun b => f4 195 b (nr_X1_costFor__195 b)) (fun b => f4 197 b (nr_X1_costFor__197 b)) (fun b => f4 199 b (nr_X1_costFor__199 b)) (fun b => f4 201 b (nr_X1_costFor__201 b)) (fun b => f4 203 b (nr_X1_costFor__203 b)) (fun b => f4 205 b (nr_X1_costFor__205 b)) (fun b => f4 207 b (nr_X1_costFor__207 b)) (fun b => f4 209 b (nr_X1_costFor__209 b)) (fun b => f4 211 b (nr_X1_costFor__211 b)) (fun b => f4 213 b (nr_X1_costFor__213 b)) (fun b => f4 215 b (nr_X1_costFor__215 b)) (fun b => f4 217 b (nr_X1_costFor__217 b)) (fun b => f4 219 b (nr_X1_costFor__219 b)) (fun b => f4 222 b (nr_X1_costFor__222 b))
  have r12 := y_SV.fr p1 (f4 191 16 (by decide)) (f4 6 6 (by decide)) (f4 191 17 (by decide)) (f4 191 18 (by decide)) (fun b => f4 3 b (nr_X1_costFor__3 b)) (fun b => f4 8 b (nr_X1_costFor__8 b)) (fun b => f4 12 b (nr_X1_costFor__12 b)) (fun b => f4 14 b (nr_X1_costFor__14 b)) (fun b => f4 16 b (nr_X1_costFor__16 b)) (fun b => f4 18 b (nr_X1_costFor__18 b)) (fun b => f4 193 b (nr_X1_costFor__193 b)) (fun b => f4 195 b (nr_X1_costFor__195 b)) (fun b => f4 197 b (nr_X1_costFor__197 b)) (fun b => f4 199 b (nr_X1_costFor__199 b)) (fun b => f4 201 b (nr_X1_costFor__201 b)) (fun b => f4 203 b (nr_X1_costFor__203 b)) (fun b => f4 205 b (nr_X1_costFor__205 b)) (fun b => f4 207 b (nr_X1_costFor__207 b)) (fun b => f4 209 b (nr_X1_costFor__209 b)) (fun b => f4 211 b (nr_X1_costFor__211 b)) (fun b => f4 213 b (nr_X1_costFor__213 b)) (fun b => f4 215 b (nr_X1_costFor__215 b)) (fun b => f4 217 b (nr_X1_costFor__217 b)) (fun b => f4 219 b (nr_X1_costFor__219 b)) (f4 240 6 (by decide)) (fun b => f4 248 b (nr_X1_costFor__248 b)) (f4 249 6 (by decide)) (fun b => f4 257 b (nr_X1_costFor__257 b))
  have r13 := y_B0.fr p0.1.1 (f4 211 0 (by decide)) (f4 213 0 (by decide))
  refine T_leq (fun x14 e15 => ?_)
  have w16 := z_wlr e15
  refine T_leq (fun x17 e18 => ?_)
  have w19 := z_wb e18
  exact hr s2 x14 x17 c3 f5 (by omega) (by omega) r11 r12 (by omega)
theorem sl_X1_costs_240K_L5 {fu : Nat} (hfu : 8589934592 ≤ fu) (r0 : z_M) (a1 : Int) (b1 : -2147483648 ≤ a1 ∧ a1 ≤ 2147483647) {k : z_M → Int → z_O} (hk : ∀ (s' : z_M) (v2 : Int), z_CI s' → z_Fr R_X1_costs_240 r0 s' → (-9223372036854775808 ≤ v2 ∧ v2 ≤ 9223372036854775807) → (y_U3 s') → (y_SV 240 s') → z_T (k s' v2) (P_X1_costs_240K r0)) : ∀ (F : Nat) (s : z_M) (a2 : Int) (a4 : Int), z_CI s → z_Fr R_X1_costs_240 r0 s → (-9223372036854775808 ≤ a2 ∧ a2 ≤ 9223372036854775807) → (0 ≤ a4 ∧ a4 ≤ 2147483647) → (y_U3 s) → (y_SV 240 s) → (2147483647 - a4 < (F : Int)) → z_T (fX1_costs_L5 fu 240 a1 F s a2 a4 k) (P_X1_costs_240K r0) := by
  intro F
  induction F with
  | zero =>
    intro s a2 a4 c f b2 b4 i0 i1 hm
    have u25 := CI_b c (k := 240) (j := 6) bd_240_6
    exfalso; omega
  | succ F ih =>
    intro s a2 a4 c f b2 b4 i0 i1 hm
    refine T_of (fX1_costs_L5.eq_2 ..) ?_
    have u1 := CI_b c (k := 240) (j := 6) bd_240_6
    refine T_if1 (by decide +kernel) ?_
    refine T_leq (fun x2 e3 => ?_)
    have u4 := CI_b c (k := 240) (j := 6) bd_240_6
    refine T_ite (fun h5 => ?_) (fun h5 => ?_)
    · exact hk s a2 c f (by omega) i0 i1
    · refine T_if1 (by decide +kernel) ?_
      refine T_useI (sf_X1_longOfLine_240K hfu s c a4 (by omega) i0 i1 (by omega) (by omega)) (fun v11 s6 hq => ?_)
      obtain ⟨c7, f8, o12, ⟨x10, rfl, b13, b14⟩⟩ := hq
      refine T_vI ?_
      have f9 := z_Fr.tr (R := R_X1_costs_240) f f8 rs_X1_longOfLine_240__X1_costs_240
      have t15 : s6 240 6 = s 240 6 := f8 240 6 (by decide)
      have r16 := y_SV.fr i1 (f8 191 16 (by decide)) (f8 6 6 (by decide)) (f8 191 17 (by decide)) (f8 191 18 (by decide)) (fun b => f8 3 b (nr_X1_longOfLine_240__3 b)) (fun b => f8 8 b (nr_X1_longOfLine_240__8 b)) (fun b => f8 12 b (nr_X1_longOfLine_240__12 b)) (fun b => f8 14 b (nr_X1_longOfLine_240__14 b)) (fun b => f8 16 b (nr_X1_longOfLine_240__16 b)) (fun b => f8 18 b (nr_X1_longOfLine_240__18 b)) (fun b => f8 193 b (nr_X1_longOfLine_240__193 b)) (fun b => f8 195 b (nr_X1_longOfLine_240__195 b)) (fun b => f8 197 b (nr_X1_longOfLine_240__197 b)) (fun b => f8 199 b (nr_X1_longOfLine_240__199 b)) (fun b => f8 201 b (nr_X1_longOfLine_240__201 b)) (fun b => f8 203 b (nr_X1_longOfLine_240__203 b)) (fun b => f8 205 b (nr_X1_longOfLine_240__205 b)) (fun b => f8 207 b (nr_X1_longOfLine_240__207 b)) (fun b => f8 209 b (nr_X1_longOfLine_240__209 b)) (fun b => f8 211 b (nr_X1_longOfLine_240__211 b)) (fun b => f8 213 b (nr_X1_longOfLine_240__213 b)) (fun b => f8 215 b (nr_X1_longOfLine_240__215 b)) (fun b => f8 217 b (nr_X1_longOfLine_240__217 b)) (fun b => f8 219 b (nr_X1_longOfLine_240__219 b)) (f8 240 6 (by decide)) (fun b => f8 248 b (nr_X1_longOfLine_240__248 b)) (f8 249 6 (by decide)) (fun b => f8 257 b (nr_X1_longOfLine_240__257 b))
      have r17 := y_B0.fr i0.1.1 (f8 211 0 (by decide)) (f8 213 0 (by decide))
      refine T_if1 (by decide +kernel) ?_
      refine T_leq (fun x18 e19 => ?_)
      have u20 := CI_b c7 (k := 240) (j := 6) bd_240_6
      refine T_leq (fun x21 e22 => ?_)
      have w23 := z_wb e22
      refine T_ite (fun h24 => ?_) (fun h24 => ?_)
      · exact sj_X1_costs_240K_J38 hfu r0 s6 c7 f9 a1 a4 a2 x10 a1 0 (by omega) (by omega) (by omega) (by omega) (by omega) (by omega) o12 r16 (2147483647 - a4) (by omega) (fun s' v2 v4 c' f' w2 w4 z0 z1 pg => ih s' v2 v4 c' f' w2 w4 z0 z1 (by omega)) hk
      · exact sj_X1_costs_240K_J38 hfu r0 s6 c7 f9 a1 a4 a2 x10 a1 1 (by omega) (by omega) (by omega) (by omega) (by omega) (by omega) o12 r16 (2147483647 - a4) (by omega) (fun s' v2 v4 c' f' w2 w4 z0 z1 pg => ih s' v2 v4 c' f' w2 w4 z0 z1 (by omega)) hk
theorem sf_X1_costs_240K {fu : Nat} (hfu : 8589934592 ≤ fu) (r0 : z_M) (c0 : z_CI r0) (a1 : Int) (b1 : -2147483648 ≤ a1 ∧ a1 ≤ 2147483647) (p0 : y_U3 r0) (p1 : y_SV 240 r0) : z_T (fX1_costs fu r0 240 a1) (P_X1_costs_240K r0) := by
  refine T_of (fX1_costs.eq_1 ..) ?_
  refine sl_X1_costs_240K_L5 hfu r0 a1 (by omega) (fun s1 y4 c2 f3 b5 g6 g7 => ?_) fu r0 0 0 c0 z_Fr.rf (by omega) (by omega) p0 p1 (by omega)
  have u8 := CI_b c2 (k := 240) (j := 6) bd_240_6
  exact T_ret ⟨c2, f3, g6, ⟨y4, rfl, by omega, by omega⟩⟩
abbrev P_X11_told_1K (r0 : z_M) : z_V → z_M → Prop := fun v s' => z_CI s' ∧ z_Fr R_X11_told_1 r0 s' ∧ (y_V3 s') ∧ ((∃ x, v = vL x ∧ -9223372036854775808 ≤ x ∧ x ≤ 9223372036854775807) ∨ v = vX 1)
theorem nr_X3_longest_258__222 (b : Int) : ¬ R_X3_longest_258 222 b := not_false
theorem nr_X3_longest_258__248 (b : Int) : ¬ R_X3_longest_258 248 b := not_false
theorem nr_X1_costs_240__248 (b : Int) : ¬ R_X1_costs_240 248 b := by
  unfold R_X1_costs_240; omega
theorem nr_X1_tooLong_240__248 (b : Int) : ¬ R_X1_tooLong_240 248 b := by
  unfold R_X1_tooLong_240; omega
set_option maxHeartbeats 4000000 in
theorem sf_X11_told_1K {fu : Nat} (hfu : 8589934592 ≤ fu) (r0 : z_M) (c0 : z_CI r0) (a1 : Int) (b1 : -2147483648 ≤ a1 ∧ a1 ≤ 2147483647) (p0 : y_V3 r0) : z_T (fX11_told fu r0 1 a1) (P_X11_told_1K r0) := by
  refine T_of (fX11_told.eq_1 ..) ?_
  refine T_if1 (by decide +kernel) ?_
  refine T_nw ?_ (fun h1 h2 => ?_)
  · exact T_ret ⟨CI_up c0 bd_1_15 (z_wb rfl).1, z_Fr.upf (R := R_X11_told_1) z_Fr.rf (fun a b h => z_up_k h) (fun b h => z_up_j h) (Or.inr (Or.inr (Or.inr (Or.inr (Or.inr (Or.inr (Or.inr (Or.inl (⟨rfl, by decide⟩))))))))), y_V3.fr p0 (z_up_j (by decide)) (z_up_j (by decide)) (z_up_k (by decide)) (z_up_k (by decide)) (z_up_k (by decide)) (z_up_k (by decide)) (fun _ => z_up_k (by decide)) (fun _ => z_up_k (by decide)) (fun _ => z_up_k (by decide)) (fun _ => z_up_k (by decide)) (fun _ => z_up_k (by decide)) (fun _ => z_up_k (by decide)) (fun _ => z_up_k (by decide)) (fun _ => z_up_k (by decide)) (fun _ => z_up_k (by decide)) (fun _ => z_up_k (by decide)) (fun _ => z_up_k (by decide)) (fun _ => z_up_k (by decide)) (fun _ => z_up_k (by decide)) (fun _ => z_up_k (by decide)) (fun _ => z_up_k (by decide)) (fun _ => z_up_k (by decide)) (fun _ => z_up_k (by decide)) (fun _ => z_up_k (by decide)) (fun _ => z_up_k (by decide)) (fun _ => z_up_k (by decide)) (fun _ => z_up_k (by decide)) (z_up_k (by decide)) (fun _ => z_up_k (by decide)), Or.inr rfl⟩
  refine T_if1 (by decide +kernel) ?_
  refine T_useN (sf_X11_refresh_1K hfu r0 c0 p0) (fun v8 s3 hq => ?_)
  obtain ⟨c4, f5, o9, o10, rfl⟩ := hq
  refine T_vN ?_
  have f6 := z_Fr.tr (R := R_X11_told_1) z_Fr.rf f5 rs_X11_refresh_1__X11_told_1
  have t13 : s3 1 12 = r0 1 12 := f5 1 12 (by decide)
  have t14 : s3 6 6 = r0 6 6 := f5 6 6 (by decide)
  have t15 : s3 6 7 = r0 6 7 := f5 6 7 (by decide)
  have t16 : s3 33 2 = r0 33 2 := f5 33 2 (by decide)
  have u17 := CI_b c4 (k := 191) (j := 16) bd_191_16
  have u18 := CI_b c4 (k := 191) (j := 17) bd_191_17
  have u19 := CI_b c4 (k := 191) (j := 18) bd_191_18
  have u20 := CI_b c4 (k := 240) (j := 6) bd_240_6
  refine T_ite (fun h21 => ?_) (fun h21 => ?_)
  · refine T_if1 (by decide +kernel) ?_
    refine T_let 191 (by decide +kernel) ?_
    refine T_if1 (by decide +kernel) ?_
    refine T_leq (fun x22 e23 => ?_)
    have u24 := CI_b c4 (k := 191) (j := 16) bd_191_16
    exact T_ret ⟨c4, f6, (y_V3.u o9 (Or.inr o10)), Or.inl (⟨x22, rfl, by omega, by omega⟩)⟩
  · refine T_ite (fun h25 => ?_) (fun h25 => ?_)
    · refine T_if1 (by decide +kernel) ?_
      refine T_let 6 (by decide +kernel) ?_
      refine T_if1 (by decide +kernel) ?_
      refine T_leq (fun x26 e27 => ?_)
      have u28 := CI_b c4 (k := 6) (j := 6) bd_6_6
      exact T_ret ⟨c4, f6, (y_V3.u o9 (Or.inr o10)), Or.inl (⟨x26, rfl, by omega, by omega⟩)⟩
    · refine T_ite (fun h29 => ?_) (fun h29 => ?_)
      · refine T_if1 (by decide +kernel) ?_
        refine T_let 6 (by decide +kernel) ?_
        refine T_if1 (by decide +kernel) ?_
        refine T_leq (fun x30 e31 => ?_)
        have u32 := CI_b c4 (k := 6) (j := 7) bd_6_7
        exact T_ret ⟨c4, f6, (y_V3.u o9 (Or.inr o10)), Or.inl (⟨x30, rfl, by omega, by omega⟩)⟩
      · refine T_ite (fun h33 => ?_) (fun h33 => ?_)
        · refine T_if1 (by decide +kernel) ?_
          refine T_let 240 (by decide +kernel) ?_
          refine T_if1 (by decide +kernel) ?_
          refine T_leq (fun x34 e35 => ?_)
          have u36 := CI_b c4 (k := 240) (j := 6) bd_240_6
          exact T_ret ⟨c4, f6, (y_V3.u o9 (Or.inr o10)), Or.inl (⟨x34, rfl, by omega, by omega⟩)⟩
        · refine T_ite (fun h37 => ?_) (fun h37 => ?_)
          · refine T_if1 (by decide +kernel) ?_
            refine T_let 258 (by decide +kernel) ?_
            refine T_if1 (by decide +kernel) ?_
            refine T_useI (sf_X3_longest_258 hfu s3 c4) (fun v43 s38 hq => ?_)
            obtain ⟨c39, f40, ⟨x42, rfl, b44, b45⟩⟩ := hq
            refine T_vI ?_
            have f41 := z_Fr.tr (R := R_X11_told_1) f6 f40 (fun a b h => absurd h not_false)
            have t46 : s38 1 12 = s3 1 12 := f40 1 12 (by decide)
            have t47 : s38 6 6 = s3 6 6 := f40 6 6 (by decide)
            have t48 : s38 6 7 = s3 6 7 := f40 6 7 (by decide)
            have t49 : s38 33 2 = s3 33 2 := f40 33 2 (by decide)
            have t50 : s38 191 16 = s3 191 16 := f40 191 16 (by decide)
            have t51 : s38 191 17 = s3 191 17 := f40 191 17 (by decide)
            have t52 : s38 191 18 = s3 191 18 := f40 191 18 (by decide)
            have t53 : s38 240 6 = s3 240 6 := f40 240 6 (by decide)
            have r54 := y_U3.fr o9 (f40 191 16 (by decide)) (f40 6 6 (by decide)) (f40 191 17 (by decide)) (f40 191 18 (by decide)) (fun b => f40 3 b (nr_X3_longest_258__3 b)) (fun b => f40 8 b (nr_X3_longest_258__8 b)) (fun b => f40 12 b (nr_X3_longest_258__12 b)) (fun b => f40 14 b (nr_X3_longest_258__14 b)) (fun b => f40 16 b (nr_X3_longest_258__16 b)) (fun b => f40 18 b (nr_X3_longest_258__18 b)) (fun b => f40 193 b (nr_X3_longest_258__193 b)) (fun b => f40 195 b (nr_X3_longest_258__195 b)) (fun b => f40 197 b (nr_X3_longest_258__197 b)) (fun b => f40 199 b (nr_X3_longest_258__199 b)) (fun b => f40 201 b (nr_X3_longest_258__201 b)) (fun b => f40 203 b (nr_X3_longest_258__203 b)) (fun b => f40 205 b (nr_X3_longest_258__205 b)) (fun b => f40 207 b (nr_X3_longest_258__207 b)) (fun b => f40 209 b (nr_X3_longest_258__209 b)) (fun b => f40 211 b (nr_X3_longest_258__211 b)) (fun b => f40 213 b (nr_X3_longest_258__213 b)) (fun b => f40 215 b (nr_X3_longest_258__215 b)) (fun b => f40 217 b (nr_X3_longest_258__217 b)) (fun b => f40 219 b (nr_X3_longest_258__219 b)) (fun b => f40 222 b (nr_X3_longest_258__222 b))
            have r55 := y_SA.fr o10 (f40 191 16 (by decide)) (f40 6 6 (by decide)) (f40 191 17 (by decide)) (f40 191 18 (by decide)) (fun b => f40 3 b (nr_X3_longest_258__3 b)) (fun b => f40 8 b (nr_X3_longest_258__8 b)) (fun b => f40 12 b (nr_X3_longest_258__12 b)) (fun b => f40 14 b (nr_X3_longest_258__14 b)) (fun b => f40 16 b (nr_X3_longest_258__16 b)) (fun b => f40 18 b (nr_X3_longest_258__18 b)) (fun b => f40 193 b (nr_X3_longest_258__193 b)) (fun b => f40 195 b (nr_X3_longest_258__195 b)) (fun b => f40 197 b (nr_X3_longest_258__197 b)) (fun b => f40 199 b (nr_X3_longest_258__199 b)) (fun b => f40 201 b (nr_X3_longest_258__201 b)) (fun b => f40 203 b (nr_X3_longest_258__203 b)) (fun b => f40 205 b (nr_X3_longest_258__205 b)) (fun b => f40 207 b (nr_X3_longest_258__207 b)) (fun b => f40 209 b (nr_X3_longest_258__209 b)) (fun b => f40 211 b (nr_X3_longest_258__211 b)) (fun b => f40 213 b (nr_X3_longest_258__213 b)) (fun b => f40 215 b (nr_X3_longest_258__215 b)) (fun b => f40 217 b (nr_X3_longest_258__217 b)) (fun b => f40 219 b (nr_X3_longest_258__219 b)) (f40 240 6 (by decide)) (fun b => f40 248 b (nr_X3_longest_258__248 b))
            have r56 := y_B0.fr o9.1.1 (f40 211 0 (by decide)) (f40 213 0 (by decide))
            exact T_ret ⟨c39, f41, (y_V3.u r54 (Or.inr r55)), Or.inl (⟨x42, rfl, by omega, by omega⟩)⟩
          · refine T_ite (fun h57 => ?_) (fun h57 => ?_)
            · refine T_if1 (by decide +kernel) ?_
              refine T_let 240 (by decide +kernel) ?_
              refine T_if1 (by decide +kernel) ?_
              refine T_let 2 (by decide +kernel) ?_
              refine T_if1 (by decide +kernel) ?_
              refine T_get (by decide +kernel) (c := 3) (by decide +kernel) bdr_3 (by decide) c4 (fun x58 e59 b60 w61 => ?_)
              have l62 : z_ln 2 = 9 := by decide +kernel
              refine T_if1 (by decide +kernel) ?_
              refine T_useL (sf_X1_costs_240K hfu s3 c4 x58 (by omega) o9 o10) (fun v68 s63 hq => ?_)
              obtain ⟨c64, f65, o69, ⟨x67, rfl, b70, b71⟩⟩ := hq
              refine T_vL ?_
              have f66 := z_Fr.tr (R := R_X11_told_1) f6 f65 rs_X1_costs_240__X11_told_1
              have t72 : s63 1 12 = s3 1 12 := f65 1 12 (by decide)
              have t73 : s63 6 6 = s3 6 6 := f65 6 6 (by decide)
              have t74 : s63 6 7 = s3 6 7 := f65 6 7 (by decide)
              have t75 : s63 33 2 = s3 33 2 := f65 33 2 (by decide)
              have t76 : s63 191 16 = s3 191 16 := f65 191 16 (by decide)
              have t77 : s63 191 17 = s3 191 17 := f65 191 17 (by decide)
              have t78 : s63 191 18 = s3 191 18 := f65 191 18 (by decide)
              have t79 : s63 240 6 = s3 240 6 := f65 240 6 (by decide)
              have r80 := y_SA.fr o10 (f65 191 16 (by decide)) (f65 6 6 (by decide)) (f65 191 17 (by decide)) (f65 191 18 (by decide)) (fun b => f65 3 b (nr_X1_costs_240__3 b)) (fun b => f65 8 b (nr_X1_costs_240__8 b)) (fun b => f65 12 b (nr_X1_costs_240__12 b)) (fun b => f65 14 b (nr_X1_costs_240__14 b)) (fun b => f65 16 b (nr_X1_costs_240__16 b)) (fun b => f65 18 b (nr_X1_costs_240__18 b)) (fun b => f65 193 b (nr_X1_costs_240__193 b)) (fun b => f65 195 b (nr_X1_costs_240__195 b)) (fun b => f65 197 b (nr_X1_costs_240__197 b)) (fun b => f65 199 b (nr_X1_costs_240__199 b)) (fun b => f65 201 b (nr_X1_costs_240__201 b)) (fun b => f65 203 b (nr_X1_costs_240__203 b)) (fun b => f65 205 b (nr_X1_costs_240__205 b)) (fun b => f65 207 b (nr_X1_costs_240__207 b)) (fun b => f65 209 b (nr_X1_costs_240__209 b)) (fun b => f65 211 b (nr_X1_costs_240__211 b)) (fun b => f65 213 b (nr_X1_costs_240__213 b)) (fun b => f65 215 b (nr_X1_costs_240__215 b)) (fun b => f65 217 b (nr_X1_costs_240__217 b)) (fun b => f65 219 b (nr_X1_costs_240__219 b)) (f65 240 6 (by decide)) (fun b => f65 248 b (nr_X1_costs_240__248 b))
              have r81 := y_B0.fr o9.1.1 (f65 211 0 (by decide)) (f65 213 0 (by decide))
              exact T_ret ⟨c64, f66, (y_V3.u o69 (Or.inr r80)), Or.inl (⟨x67, rfl, by omega, by omega⟩)⟩
            · refine T_ite (fun h82 => ?_) (fun h82 => ?_)
              · refine T_if1 (by decide +kernel) ?_
                refine T_let 2 (by decide +kernel) ?_
                refine T_leq (fun x83 e84 => ?_)
                have w85 := z_wr e84
                refine T_if1 (by decide +kernel) ?_
                refine T_get (by decide +kernel) (c := 3) (by decide +kernel) bdr_3 (by decide) c4 (fun x86 e87 b88 w89 => ?_)
                have l90 : z_ln 2 = 9 := by decide +kernel
                exact T_ret ⟨c4, f6, (y_V3.u o9 (Or.inr o10)), Or.inl (⟨x86, rfl, by omega, by omega⟩)⟩
              · refine T_ite (fun h91 => ?_) (fun h91 => ?_)
                · refine T_if1 (by decide +kernel) ?_
                  refine T_let 2 (by decide +kernel) ?_
                  refine T_leq (fun x92 e93 => ?_)
                  have w94 := z_wr e93
                  refine T_if1 (by decide +kernel) ?_
                  refine T_get (by decide +kernel) (c := 3) (by decide +kernel) bdr_3 (by decide) c4 (fun x95 e96 b97 w98 => ?_)
                  have l99 : z_ln 2 = 9 := by decide +kernel
                  exact T_ret ⟨c4, f6, (y_V3.u o9 (Or.inr o10)), Or.inl (⟨x95, rfl, by omega, by omega⟩)⟩
                · refine T_ite (fun h100 => ?_) (fun h100 => ?_)
                  · refine T_if1 (by decide +kernel) ?_
                    refine T_let 2 (by decide +kernel) ?_
                    refine T_leq (fun x101 e102 => ?_)
                    have w103 := z_wr e102
                    refine T_if1 (by decide +kernel) ?_
                    refine T_get (by decide +kernel) (c := 3) (by decide +kernel) bdr_3 (by decide) c4 (fun x104 e105 b106 w107 => ?_)
                    have l108 : z_ln 2 = 9 := by decide +kernel
                    exact T_ret ⟨c4, f6, (y_V3.u o9 (Or.inr o10)), Or.inl (⟨x104, rfl, by omega, by omega⟩)⟩
                  · refine T_ite (fun h109 => ?_) (fun h109 => ?_)
                    · refine T_if1 (by decide +kernel) ?_
                      refine T_let 2 (by decide +kernel) ?_
                      refine T_leq (fun x110 e111 => ?_)
                      have w112 := z_wr e111
                      refine T_if1 (by decide +kernel) ?_
                      refine T_get (by decide +kernel) (c := 3) (by decide +kernel) bdr_3 (by decide) c4 (fun x113 e114 b115 w116 => ?_)
                      have l117 : z_ln 2 = 9 := by decide +kernel
                      exact T_ret ⟨c4, f6, (y_V3.u o9 (Or.inr o10)), Or.inl (⟨x113, rfl, by omega, by omega⟩)⟩
                    · refine T_ite (fun h118 => ?_) (fun h118 => ?_)
                      · refine T_if1 (by decide +kernel) ?_
                        refine T_let 2 (by decide +kernel) ?_
                        refine T_leq (fun x119 e120 => ?_)
                        have w121 := z_wr e120
                        refine T_if1 (by decide +kernel) ?_
                        refine T_get (by decide +kernel) (c := 3) (by decide +kernel) bdr_3 (by decide) c4 (fun x122 e123 b124 w125 => ?_)
                        have l126 : z_ln 2 = 9 := by decide +kernel
                        exact T_ret ⟨c4, f6, (y_V3.u o9 (Or.inr o10)), Or.inl (⟨x122, rfl, by omega, by omega⟩)⟩
                      · refine T_ite (fun h127 => ?_) (fun h127 => ?_)
                        · refine T_if1 (by decide +kernel) ?_
                          refine T_let 2 (by decide +kernel) ?_
                          refine T_leq (fun x128 e129 => ?_)
                          have w130 := z_wr e129
                          refine T_if1 (by decide +kernel) ?_
                          refine T_get (by decide +kernel) (c := 3) (by decide +kernel) bdr_3 (by decide) c4 (fun x131 e132 b133 w134 => ?_)
                          have l135 : z_ln 2 = 9 := by decide +kernel
                          exact T_ret ⟨c4, f6, (y_V3.u o9 (Or.inr o10)), Or.inl (⟨x131, rfl, by omega, by omega⟩)⟩
                        · refine T_ite (fun h136 => ?_) (fun h136 => ?_)
                          · refine T_if1 (by decide +kernel) ?_
                            refine T_let 2 (by decide +kernel) ?_
                            refine T_leq (fun x137 e138 => ?_)
                            have w139 := z_wr e138
                            refine T_if1 (by decide +kernel) ?_
                            refine T_get (by decide +kernel) (c := 3) (by decide +kernel) bdr_3 (by decide) c4 (fun x140 e141 b142 w143 => ?_)
                            have l144 : z_ln 2 = 9 := by decide +kernel
                            exact T_ret ⟨c4, f6, (y_V3.u o9 (Or.inr o10)), Or.inl (⟨x140, rfl, by omega, by omega⟩)⟩
                          · refine T_ite (fun h145 => ?_) (fun h145 => ?_)
                            · refine T_if1 (by decide +kernel) ?_
                              refine T_let 33 (by decide +kernel) ?_
                              refine T_if1 (by decide +kernel) ?_
                              refine T_leq (fun x146 e147 => ?_)
                              have u148 := CI_b c4 (k := 33) (j := 2) bd_33_2
                              exact T_ret ⟨c4, f6, (y_V3.u o9 (Or.inr o10)), Or.inl (⟨x146, rfl, by omega, by omega⟩)⟩
                            · refine T_ite (fun h149 => ?_) (fun h149 => ?_)
                              · refine T_if1 (by decide +kernel) ?_
                                refine T_leq (fun x150 e151 => ?_)
                                have u152 := CI_b c4 (k := 1) (j := 12) bd_1_12
                                exact T_ret ⟨c4, f6, (y_V3.u o9 (Or.inr o10)), Or.inl (⟨x150, rfl, by omega, by omega⟩)⟩
                              · refine T_ite (fun h153 => ?_) (fun h153 => ?_)
                                · refine T_if1 (by decide +kernel) ?_
                                  refine T_let 240 (by decide +kernel) ?_
                                  refine T_if1 (by decide +kernel) ?_
                                  refine T_let 2 (by decide +kernel) ?_
                                  refine T_if1 (by decide +kernel) ?_
                                  refine T_get (by decide +kernel) (c := 3) (by decide +kernel) bdr_3 (by decide) c4 (fun x154 e155 b156 w157 => ?_)
                                  have l158 : z_ln 2 = 9 := by decide +kernel
                                  refine T_if1 (by decide +kernel) ?_
                                  refine T_useI (sf_X1_tooLong_240K hfu s3 c4 x154 (by omega) o9 o10) (fun v164 s159 hq => ?_)
                                  obtain ⟨c160, f161, o165, ⟨x163, rfl, b166, b167⟩⟩ := hq
                                  refine T_vI ?_
                                  have f162 := z_Fr.tr (R := R_X11_told_1) f6 f161 rs_X1_tooLong_240__X11_told_1
                                  have t168 : s159 1 12 = s3 1 12 := f161 1 12 (by decide)
                                  have t169 : s159 6 6 = s3 6 6 := f161 6 6 (by decide)
                                  have t170 : s159 6 7 = s3 6 7 := f161 6 7 (by decide)
                                  have t171 : s159 33 2 = s3 33 2 := f161 33 2 (by decide)
                                  have t172 : s159 191 16 = s3 191 16 := f161 191 16 (by decide)
                                  have t173 : s159 191 17 = s3 191 17 := f161 191 17 (by decide)
                                  have t174 : s159 191 18 = s3 191 18 := f161 191 18 (by decide)
                                  have t175 : s159 240 6 = s3 240 6 := f161 240 6 (by decide)
                                  have r176 := y_SA.fr o10 (f161 191 16 (by decide)) (f161 6 6 (by decide)) (f161 191 17 (by decide)) (f161 191 18 (by decide)) (fun b => f161 3 b (nr_X1_tooLong_240__3 b)) (fun b => f161 8 b (nr_X1_tooLong_240__8 b)) (fun b => f161 12 b (nr_X1_tooLong_240__12 b)) (fun b => f161 14 b (nr_X1_tooLong_240__14 b)) (fun b => f161 16 b (nr_X1_tooLong_240__16 b)) (fun b => f161 18 b (nr_X1_tooLong_240__18 b)) (fun b => f161 193 b (nr_X1_tooLong_240__193 b)) (fun b => f161 195 b (nr_X1_tooLong_240__195 b)) (fun b => f161 197 b (nr_X1_tooLong_240__197 b)) (fun b => f161 199 b (nr_X1_tooLong_240__199 b)) (fun b => f161 201 b (nr_X1_tooLong_240__201 b)) (fun b => f161 203 b (nr_X1_tooLong_240__203 b)) (fun b => f161 205 b (nr_X1_tooLong_240__205 b)) (fun b => f161 207 b (nr_X1_tooLong_240__207 b)) (fun b => f161 209 b (nr_X1_tooLong_240__209 b)) (fun b => f161 211 b (nr_X1_tooLong_240__211 b)) (fun b => f161 213 b (nr_X1_tooLong_240__213 b)) (fun b => f161 215 b (nr_X1_tooLong_240__215 b)) (fun b => f161 217 b (nr_X1_tooLong_240__217 b)) (fun b => f161 219 b (nr_X1_tooLong_240__219 b)) (f161 240 6 (by decide)) (fun b => f161 248 b (nr_X1_tooLong_240__248 b))
                                  have r177 := y_B0.fr o9.1.1 (f161 211 0 (by decide)) (f161 213 0 (by decide))
                                  exact T_ret ⟨c160, f162, (y_V3.u o165 (Or.inr r176)), Or.inl (⟨x163, rfl, by omega, by omega⟩)⟩
                                · refine T_ite (fun h178 => ?_) (fun h178 => ?_)
                                  · refine T_if1 (by decide +kernel) ?_
                                    refine T_let 2 (by decide +kernel) ?_
                                    refine T_if1 (by decide +kernel) ?_
                                    refine T_get (by decide +kernel) (c := 3) (by decide +kernel) bdr_3 (by decide) c4 (fun x179 e180 b181 w182 => ?_)
                                    have l183 : z_ln 2 = 9 := by decide +kernel
                                    exact T_ret ⟨c4, f6, (y_V3.u o9 (Or.inr o10)), Or.inl (⟨x179, rfl, by omega, by omega⟩)⟩
                                  · refine T_ite (fun h184 => ?_) (fun h184 => ?_)
                                    · refine T_if1 (by decide +kernel) ?_
                                      refine T_let 2 (by decide +kernel) ?_
                                      refine T_if1 (by decide +kernel) ?_
                                      refine T_get (by decide +kernel) (c := 3) (by decide +kernel) bdr_3 (by decide) c4 (fun x185 e186 b187 w188 => ?_)
                                      have l189 : z_ln 2 = 9 := by decide +kernel
                                      exact T_ret ⟨c4, f6, (y_V3.u o9 (Or.inr o10)), Or.inl (⟨x185, rfl, by omega, by omega⟩)⟩
                                    · refine T_ite (fun h190 => ?_) (fun h190 => ?_)
                                      · refine T_if1 (by decide +kernel) ?_
                                        refine T_let 191 (by decide +kernel) ?_
                                        refine T_if1 (by decide +kernel) ?_
                                        refine T_leq (fun x191 e192 => ?_)
                                        have u193 := CI_b c4 (k := 191) (j := 17) bd_191_17
                                        exact T_ret ⟨c4, f6, (y_V3.u o9 (Or.inr o10)), Or.inl (⟨x191, rfl, by omega, by omega⟩)⟩
                                      · refine T_ite (fun h194 => ?_) (fun h194 => ?_)
                                        · refine T_if1 (by decide +kernel) ?_
                                          refine T_let 191 (by decide +kernel) ?_
                                          refine T_if1 (by decide +kernel) ?_
                                          refine T_leq (fun x195 e196 => ?_)
                                          have u197 := CI_b c4 (k := 191) (j := 18) bd_191_18
                                          exact T_ret ⟨c4, f6, (y_V3.u o9 (Or.inr o10)), Or.inl (⟨x195, rfl, by omega, by omega⟩)⟩
                                        · refine T_if1 (by decide +kernel) ?_
                                          refine T_let 2 (by decide +kernel) ?_
                                          refine T_leq (fun x198 e199 => ?_)
                                          have w200 := z_wr e199
                                          refine T_if1 (by decide +kernel) ?_
                                          refine T_get (by decide +kernel) (c := 3) (by decide +kernel) bdr_3 (by decide) c4 (fun x201 e202 b203 w204 => ?_)
                                          have l205 : z_ln 2 = 9 := by decide +kernel
                                          exact T_ret ⟨c4, f6, (y_V3.u o9 (Or.inr o10)), Or.inl (⟨x201, rfl, by omega, by omega⟩)⟩
abbrev P_X11_unit_1K (r0 : z_M) : z_V → z_M → Prop := fun v s' => z_CI s' ∧ z_Fr R_X11_unit_1 r0 s' ∧ (y_V3 s') ∧ ((∃ x, v = vI x ∧ -2147483648 ≤ x ∧ x ≤ 2147483647) ∨ v = vX 0 ∨ v = vX 1)
set_option maxHeartbeats 4000000 in
theorem sf_X11_unit_1K {fu : Nat} (hfu : 8589934592 ≤ fu) (r0 : z_M) (c0 : z_CI r0) (a1 : Int) (a2 : Int) (b1 : -2147483648 ≤ a1 ∧ a1 ≤ 2147483647) (b2 : -2147483648 ≤ a2 ∧ a2 ≤ 2147483647) (p0 : y_V3 r0) : z_T (fX11_unit fu r0 1 a1 a2) (P_X11_unit_1K r0) := by
  refine T_of (fX11_unit.eq_1 ..) ?_
  refine T_if1 (by decide +kernel) ?_
  refine T_useN (sf_X11_refresh_1K hfu r0 c0 p0) (fun v6 s1 hq => ?_)
  obtain ⟨c2, f3, o7, o8, rfl⟩ := hq
  refine T_vN ?_
  have f4 := z_Fr.tr (R := R_X11_unit_1) z_Fr.rf f3 rs_X11_refresh_1__X11_unit_1
  have u11 := CI_b c2 (k := 191) (j := 16) bd_191_16
  refine T_if1 (by decide +kernel) ?_
  refine T_let 191 (by decide +kernel) ?_
  refine T_if1 (by decide +kernel) ?_
  refine T_leq (fun x12 e13 => ?_)
  have u14 := CI_b c2 (k := 191) (j := 16) bd_191_16
  refine T_if1 (by decide +kernel) ?_
  refine T_ne ?_ (fun h15 h16 => ?_)
  · exact T_ret ⟨CI_up c2 bd_1_14 (z_wb rfl).1, z_Fr.upf (R := R_X11_unit_1) f4 (fun a b h => z_up_k h) (fun b h => z_up_j h) (Or.inr (Or.inr (Or.inr (Or.inr (Or.inr (Or.inr (Or.inr (Or.inl (⟨rfl, by decide⟩))))))))), y_V3.u (y_U3.fr o7 (z_up_k (by decide)) (z_up_k (by decide)) (z_up_k (by decide)) (z_up_k (by decide)) (fun _ => z_up_k (by decide)) (fun _ => z_up_k (by decide)) (fun _ => z_up_k (by decide)) (fun _ => z_up_k (by decide)) (fun _ => z_up_k (by decide)) (fun _ => z_up_k (by decide)) (fun _ => z_up_k (by decide)) (fun _ => z_up_k (by decide)) (fun _ => z_up_k (by decide)) (fun _ => z_up_k (by decide)) (fun _ => z_up_k (by decide)) (fun _ => z_up_k (by decide)) (fun _ => z_up_k (by decide)) (fun _ => z_up_k (by decide)) (fun _ => z_up_k (by decide)) (fun _ => z_up_k (by decide)) (fun _ => z_up_k (by decide)) (fun _ => z_up_k (by decide)) (fun _ => z_up_k (by decide)) (fun _ => z_up_k (by decide)) (fun _ => z_up_k (by decide))) (y_L3.fr (show y_L3 s1 from (Or.inr o8)) (z_up_j (by decide)) (z_up_k (by decide)) (z_up_k (by decide)) (z_up_k (by decide)) (z_up_k (by decide)) (fun _ => z_up_k (by decide)) (fun _ => z_up_k (by decide)) (fun _ => z_up_k (by decide)) (fun _ => z_up_k (by decide)) (fun _ => z_up_k (by decide)) (fun _ => z_up_k (by decide)) (fun _ => z_up_k (by decide)) (fun _ => z_up_k (by decide)) (fun _ => z_up_k (by decide)) (fun _ => z_up_k (by decide)) (fun _ => z_up_k (by decide)) (fun _ => z_up_k (by decide)) (fun _ => z_up_k (by decide)) (fun _ => z_up_k (by decide)) (fun _ => z_up_k (by decide)) (fun _ => z_up_k (by decide)) (fun _ => z_up_k (by decide)) (fun _ => z_up_k (by decide)) (fun _ => z_up_k (by decide)) (fun _ => z_up_k (by decide)) (z_up_k (by decide)) (fun _ => z_up_k (by decide))), Or.inr (Or.inl rfl)⟩
  refine T_if1 (by decide +kernel) ?_
  refine T_nw ?_ (fun h17 h18 => ?_)
  · exact T_ret ⟨CI_up c2 bd_1_15 (z_wb rfl).1, z_Fr.upf (R := R_X11_unit_1) f4 (fun a b h => z_up_k h) (fun b h => z_up_j h) (Or.inr (Or.inr (Or.inr (Or.inr (Or.inr (Or.inr (Or.inr (Or.inl (⟨rfl, by decide⟩))))))))), y_V3.u (y_U3.fr o7 (z_up_k (by decide)) (z_up_k (by decide)) (z_up_k (by decide)) (z_up_k (by decide)) (fun _ => z_up_k (by decide)) (fun _ => z_up_k (by decide)) (fun _ => z_up_k (by decide)) (fun _ => z_up_k (by decide)) (fun _ => z_up_k (by decide)) (fun _ => z_up_k (by decide)) (fun _ => z_up_k (by decide)) (fun _ => z_up_k (by decide)) (fun _ => z_up_k (by decide)) (fun _ => z_up_k (by decide)) (fun _ => z_up_k (by decide)) (fun _ => z_up_k (by decide)) (fun _ => z_up_k (by decide)) (fun _ => z_up_k (by decide)) (fun _ => z_up_k (by decide)) (fun _ => z_up_k (by decide)) (fun _ => z_up_k (by decide)) (fun _ => z_up_k (by decide)) (fun _ => z_up_k (by decide)) (fun _ => z_up_k (by decide)) (fun _ => z_up_k (by decide))) (y_L3.fr (show y_L3 s1 from (Or.inr o8)) (z_up_j (by decide)) (z_up_k (by decide)) (z_up_k (by decide)) (z_up_k (by decide)) (z_up_k (by decide)) (fun _ => z_up_k (by decide)) (fun _ => z_up_k (by decide)) (fun _ => z_up_k (by decide)) (fun _ => z_up_k (by decide)) (fun _ => z_up_k (by decide)) (fun _ => z_up_k (by decide)) (fun _ => z_up_k (by decide)) (fun _ => z_up_k (by decide)) (fun _ => z_up_k (by decide)) (fun _ => z_up_k (by decide)) (fun _ => z_up_k (by decide)) (fun _ => z_up_k (by decide)) (fun _ => z_up_k (by decide)) (fun _ => z_up_k (by decide)) (fun _ => z_up_k (by decide)) (fun _ => z_up_k (by decide)) (fun _ => z_up_k (by decide)) (fun _ => z_up_k (by decide)) (fun _ => z_up_k (by decide)) (fun _ => z_up_k (by decide)) (z_up_k (by decide)) (fun _ => z_up_k (by decide))), Or.inr (Or.inr rfl)⟩
  refine T_ite (fun h19 => ?_) (fun h19 => ?_)
  · refine T_if1 (by decide +kernel) ?_
    refine T_let 191 (by decide +kernel) ?_
    refine T_if1 (by decide +kernel) ?_
    refine T_let 192 (by decide +kernel) ?_
    refine T_if1 (by decide +kernel) ?_
    refine T_get (by decide +kernel) (c := 193) (by decide +kernel) bdr_193 (by decide) c2 (fun x20 e21 b22 w23 => ?_)
    have l24 : z_ln 192 = 200 := by decide +kernel
    exact T_ret ⟨c2, f4, (y_V3.u o7 (Or.inr o8)), Or.inl (⟨x20, rfl, by omega, by omega⟩)⟩
  · refine T_ite (fun h25 => ?_) (fun h25 => ?_)
    · refine T_if1 (by decide +kernel) ?_
      refine T_let 191 (by decide +kernel) ?_
      refine T_if1 (by decide +kernel) ?_
      refine T_let 194 (by decide +kernel) ?_
      refine T_if1 (by decide +kernel) ?_
      refine T_get (by decide +kernel) (c := 195) (by decide +kernel) bdr_195 (by decide) c2 (fun x26 e27 b28 w29 => ?_)
      have l30 : z_ln 194 = 200 := by decide +kernel
      exact T_ret ⟨c2, f4, (y_V3.u o7 (Or.inr o8)), Or.inl (⟨x26, rfl, by omega, by omega⟩)⟩
    · refine T_ite (fun h31 => ?_) (fun h31 => ?_)
      · refine T_if1 (by decide +kernel) ?_
        refine T_let 191 (by decide +kernel) ?_
        refine T_if1 (by decide +kernel) ?_
        refine T_let 196 (by decide +kernel) ?_
        refine T_if1 (by decide +kernel) ?_
        refine T_get (by decide +kernel) (c := 197) (by decide +kernel) bdr_197 (by decide) c2 (fun x32 e33 b34 w35 => ?_)
        have l36 : z_ln 196 = 200 := by decide +kernel
        exact T_ret ⟨c2, f4, (y_V3.u o7 (Or.inr o8)), Or.inl (⟨x32, rfl, by omega, by omega⟩)⟩
      · refine T_ite (fun h37 => ?_) (fun h37 => ?_)
        · refine T_if1 (by decide +kernel) ?_
          refine T_let 258 (by decide +kernel) ?_
          refine T_if1 (by decide +kernel) ?_
          refine T_let 263 (by decide +kernel) ?_
          refine T_if1 (by decide +kernel) ?_
          refine T_get (by decide +kernel) (c := 264) (by decide +kernel) bdr_264 (by decide) c2 (fun x38 e39 b40 w41 => ?_)
          have l42 : z_ln 263 = 200 := by decide +kernel
          exact T_ret ⟨c2, f4, (y_V3.u o7 (Or.inr o8)), Or.inl (⟨x38, rfl, by omega, by omega⟩)⟩
        · refine T_ite (fun h43 => ?_) (fun h43 => ?_)
          · refine T_if1 (by decide +kernel) ?_
            refine T_let 258 (by decide +kernel) ?_
            refine T_if1 (by decide +kernel) ?_
            refine T_let 259 (by decide +kernel) ?_
            refine T_if1 (by decide +kernel) ?_
            refine T_get (by decide +kernel) (c := 260) (by decide +kernel) bdr_260 (by decide) c2 (fun x44 e45 b46 w47 => ?_)
            have l48 : z_ln 259 = 200 := by decide +kernel
            exact T_ret ⟨c2, f4, (y_V3.u o7 (Or.inr o8)), Or.inl (⟨x44, rfl, by omega, by omega⟩)⟩
          · refine T_ite (fun h49 => ?_) (fun h49 => ?_)
            · refine T_if1 (by decide +kernel) ?_
              refine T_let 258 (by decide +kernel) ?_
              refine T_if1 (by decide +kernel) ?_
              refine T_let 261 (by decide +kernel) ?_
              refine T_if1 (by decide +kernel) ?_
              refine T_get (by decide +kernel) (c := 262) (by decide +kernel) bdr_262 (by decide) c2 (fun x50 e51 b52 w53 => ?_)
              have l54 : z_ln 261 = 200 := by decide +kernel
              exact T_ret ⟨c2, f4, (y_V3.u o7 (Or.inr o8)), Or.inl (⟨x50, rfl, by omega, by omega⟩)⟩
            · refine T_ite (fun h55 => ?_) (fun h55 => ?_)
              · refine T_if1 (by decide +kernel) ?_
                refine T_let 191 (by decide +kernel) ?_
                refine T_if1 (by decide +kernel) ?_
                refine T_let 200 (by decide +kernel) ?_
                refine T_if1 (by decide +kernel) ?_
                refine T_get (by decide +kernel) (c := 201) (by decide +kernel) bdr_201 (by decide) c2 (fun x56 e57 b58 w59 => ?_)
                have l60 : z_ln 200 = 200 := by decide +kernel
                exact T_ret ⟨c2, f4, (y_V3.u o7 (Or.inr o8)), Or.inl (⟨x56, rfl, by omega, by omega⟩)⟩
              · refine T_if1 (by decide +kernel) ?_
                refine T_let 258 (by decide +kernel) ?_
                refine T_if1 (by decide +kernel) ?_
                refine T_let 265 (by decide +kernel) ?_
                refine T_if1 (by decide +kernel) ?_
                refine T_get (by decide +kernel) (c := 266) (by decide +kernel) bdr_266 (by decide) c2 (fun x61 e62 b63 w64 => ?_)
                have l65 : z_ln 265 = 200 := by decide +kernel
                exact T_ret ⟨c2, f4, (y_V3.u o7 (Or.inr o8)), Or.inl (⟨x61, rfl, by omega, by omega⟩)⟩
abbrev P_X11_sign_1K (r0 : z_M) : z_V → z_M → Prop := fun v s' => z_CI s' ∧ z_Fr R_X11_sign_1 r0 s' ∧ (y_V3 s') ∧ ((∃ x, v = vI x ∧ -2147483648 ≤ x ∧ x ≤ 2147483647) ∨ v = vX 0 ∨ v = vX 1)
theorem nr_X10_markOf_191__222 (b : Int) : ¬ R_X10_markOf_191 222 b := not_false
theorem nr_X10_markOf_191__248 (b : Int) : ¬ R_X10_markOf_191 248 b := not_false
set_option maxHeartbeats 4000000 in
theorem sf_X11_sign_1K {fu : Nat} (hfu : 8589934592 ≤ fu) (r0 : z_M) (c0 : z_CI r0) (a1 : Int) (a2 : Int) (b1 : -2147483648 ≤ a1 ∧ a1 ≤ 2147483647) (b2 : -2147483648 ≤ a2 ∧ a2 ≤ 2147483647) (p0 : y_V3 r0) : z_T (fX11_sign fu r0 1 a1 a2) (P_X11_sign_1K r0) := by
  refine T_of (fX11_sign.eq_1 ..) ?_
  refine T_if1 (by decide +kernel) ?_
  refine T_useN (sf_X11_refresh_1K hfu r0 c0 p0) (fun v6 s1 hq => ?_)
  obtain ⟨c2, f3, o7, o8, rfl⟩ := hq
  refine T_vN ?_
  have f4 := z_Fr.tr (R := R_X11_sign_1) z_Fr.rf f3 rs_X11_refresh_1__X11_sign_1
  have t11 : s1 6 6 = r0 6 6 := f3 6 6 (by decide)
  refine T_if1 (by decide +kernel) ?_
  refine T_let 6 (by decide +kernel) ?_
  refine T_if1 (by decide +kernel) ?_
  refine T_leq (fun x12 e13 => ?_)
  have u14 := CI_b c2 (k := 6) (j := 6) bd_6_6
  refine T_if1 (by decide +kernel) ?_
  refine T_ne ?_ (fun h15 h16 => ?_)
  · exact T_ret ⟨CI_up c2 bd_1_14 (z_wb rfl).1, z_Fr.upf (R := R_X11_sign_1) f4 (fun a b h => z_up_k h) (fun b h => z_up_j h) (Or.inr (Or.inr (Or.inr (Or.inr (Or.inr (Or.inr (Or.inr (Or.inl (⟨rfl, by decide⟩))))))))), y_V3.u (y_U3.fr o7 (z_up_k (by decide)) (z_up_k (by decide)) (z_up_k (by decide)) (z_up_k (by decide)) (fun _ => z_up_k (by decide)) (fun _ => z_up_k (by decide)) (fun _ => z_up_k (by decide)) (fun _ => z_up_k (by decide)) (fun _ => z_up_k (by decide)) (fun _ => z_up_k (by decide)) (fun _ => z_up_k (by decide)) (fun _ => z_up_k (by decide)) (fun _ => z_up_k (by decide)) (fun _ => z_up_k (by decide)) (fun _ => z_up_k (by decide)) (fun _ => z_up_k (by decide)) (fun _ => z_up_k (by decide)) (fun _ => z_up_k (by decide)) (fun _ => z_up_k (by decide)) (fun _ => z_up_k (by decide)) (fun _ => z_up_k (by decide)) (fun _ => z_up_k (by decide)) (fun _ => z_up_k (by decide)) (fun _ => z_up_k (by decide)) (fun _ => z_up_k (by decide))) (y_L3.fr (show y_L3 s1 from (Or.inr o8)) (z_up_j (by decide)) (z_up_k (by decide)) (z_up_k (by decide)) (z_up_k (by decide)) (z_up_k (by decide)) (fun _ => z_up_k (by decide)) (fun _ => z_up_k (by decide)) (fun _ => z_up_k (by decide)) (fun _ => z_up_k (by decide)) (fun _ => z_up_k (by decide)) (fun _ => z_up_k (by decide)) (fun _ => z_up_k (by decide)) (fun _ => z_up_k (by decide)) (fun _ => z_up_k (by decide)) (fun _ => z_up_k (by decide)) (fun _ => z_up_k (by decide)) (fun _ => z_up_k (by decide)) (fun _ => z_up_k (by decide)) (fun _ => z_up_k (by decide)) (fun _ => z_up_k (by decide)) (fun _ => z_up_k (by decide)) (fun _ => z_up_k (by decide)) (fun _ => z_up_k (by decide)) (fun _ => z_up_k (by decide)) (fun _ => z_up_k (by decide)) (z_up_k (by decide)) (fun _ => z_up_k (by decide))), Or.inr (Or.inl rfl)⟩
  refine T_if1 (by decide +kernel) ?_
  refine T_nw ?_ (fun h17 h18 => ?_)
  · exact T_ret ⟨CI_up c2 bd_1_15 (z_wb rfl).1, z_Fr.upf (R := R_X11_sign_1) f4 (fun a b h => z_up_k h) (fun b h => z_up_j h) (Or.inr (Or.inr (Or.inr (Or.inr (Or.inr (Or.inr (Or.inr (Or.inl (⟨rfl, by decide⟩))))))))), y_V3.u (y_U3.fr o7 (z_up_k (by decide)) (z_up_k (by decide)) (z_up_k (by decide)) (z_up_k (by decide)) (fun _ => z_up_k (by decide)) (fun _ => z_up_k (by decide)) (fun _ => z_up_k (by decide)) (fun _ => z_up_k (by decide)) (fun _ => z_up_k (by decide)) (fun _ => z_up_k (by decide)) (fun _ => z_up_k (by decide)) (fun _ => z_up_k (by decide)) (fun _ => z_up_k (by decide)) (fun _ => z_up_k (by decide)) (fun _ => z_up_k (by decide)) (fun _ => z_up_k (by decide)) (fun _ => z_up_k (by decide)) (fun _ => z_up_k (by decide)) (fun _ => z_up_k (by decide)) (fun _ => z_up_k (by decide)) (fun _ => z_up_k (by decide)) (fun _ => z_up_k (by decide)) (fun _ => z_up_k (by decide)) (fun _ => z_up_k (by decide)) (fun _ => z_up_k (by decide))) (y_L3.fr (show y_L3 s1 from (Or.inr o8)) (z_up_j (by decide)) (z_up_k (by decide)) (z_up_k (by decide)) (z_up_k (by decide)) (z_up_k (by decide)) (fun _ => z_up_k (by decide)) (fun _ => z_up_k (by decide)) (fun _ => z_up_k (by decide)) (fun _ => z_up_k (by decide)) (fun _ => z_up_k (by decide)) (fun _ => z_up_k (by decide)) (fun _ => z_up_k (by decide)) (fun _ => z_up_k (by decide)) (fun _ => z_up_k (by decide)) (fun _ => z_up_k (by decide)) (fun _ => z_up_k (by decide)) (fun _ => z_up_k (by decide)) (fun _ => z_up_k (by decide)) (fun _ => z_up_k (by decide)) (fun _ => z_up_k (by decide)) (fun _ => z_up_k (by decide)) (fun _ => z_up_k (by decide)) (fun _ => z_up_k (by decide)) (fun _ => z_up_k (by decide)) (fun _ => z_up_k (by decide)) (z_up_k (by decide)) (fun _ => z_up_k (by decide))), Or.inr (Or.inr rfl)⟩
  refine T_ite (fun h19 => ?_) (fun h19 => ?_)
  · refine T_if1 (by decide +kernel) ?_
    refine T_let 6 (by decide +kernel) ?_
    refine T_if1 (by decide +kernel) ?_
    refine T_let 7 (by decide +kernel) ?_
    refine T_if1 (by decide +kernel) ?_
    refine T_get (by decide +kernel) (c := 8) (by decide +kernel) bdr_8 (by decide) c2 (fun x20 e21 b22 w23 => ?_)
    have l24 : z_ln 7 = 200 := by decide +kernel
    exact T_ret ⟨c2, f4, (y_V3.u o7 (Or.inr o8)), Or.inl (⟨x20, rfl, by omega, by omega⟩)⟩
  · refine T_ite (fun h25 => ?_) (fun h25 => ?_)
    · refine T_if1 (by decide +kernel) ?_
      refine T_let 191 (by decide +kernel) ?_
      refine T_if1 (by decide +kernel) ?_
      refine T_let 214 (by decide +kernel) ?_
      refine T_if1 (by decide +kernel) ?_
      refine T_get (by decide +kernel) (c := 215) (by decide +kernel) bdr_215 (by decide) c2 (fun x26 e27 b28 w29 => ?_)
      have l30 : z_ln 214 = 200 := by decide +kernel
      exact T_ret ⟨c2, f4, (y_V3.u o7 (Or.inr o8)), Or.inl (⟨x26, rfl, by omega, by omega⟩)⟩
    · refine T_ite (fun h31 => ?_) (fun h31 => ?_)
      · refine T_if1 (by decide +kernel) ?_
        refine T_let 258 (by decide +kernel) ?_
        refine T_if1 (by decide +kernel) ?_
        refine T_let 259 (by decide +kernel) ?_
        refine T_if1 (by decide +kernel) ?_
        refine T_let 191 (by decide +kernel) ?_
        refine T_if1 (by decide +kernel) ?_
        refine T_let 214 (by decide +kernel) ?_
        refine T_if1 (by decide +kernel) ?_
        refine T_get (by decide +kernel) (c := 215) (by decide +kernel) bdr_215 (by decide) c2 (fun x32 e33 b34 w35 => ?_)
        have l36 : z_ln 214 = 200 := by decide +kernel
        refine T_if1 (by decide +kernel) ?_
        refine T_get (by decide +kernel) (c := 260) (by decide +kernel) bdr_260 (by decide) c2 (fun x37 e38 b39 w40 => ?_)
        have l41 : z_ln 259 = 200 := by decide +kernel
        exact T_ret ⟨c2, f4, (y_V3.u o7 (Or.inr o8)), Or.inl (⟨x37, rfl, by omega, by omega⟩)⟩
      · refine T_ite (fun h42 => ?_) (fun h42 => ?_)
        · refine T_if1 (by decide +kernel) ?_
          refine T_let 258 (by decide +kernel) ?_
          refine T_if1 (by decide +kernel) ?_
          refine T_let 267 (by decide +kernel) ?_
          refine T_if1 (by decide +kernel) ?_
          refine T_get (by decide +kernel) (c := 268) (by decide +kernel) bdr_268 (by decide) c2 (fun x43 e44 b45 w46 => ?_)
          have l47 : z_ln 267 = 200 := by decide +kernel
          exact T_ret ⟨c2, f4, (y_V3.u o7 (Or.inr o8)), Or.inl (⟨x43, rfl, by omega, by omega⟩)⟩
        · refine T_ite (fun h48 => ?_) (fun h48 => ?_)
          · refine T_if1 (by decide +kernel) ?_
            refine T_let 191 (by decide +kernel) ?_
            refine T_if1 (by decide +kernel) ?_
            refine T_let 218 (by decide +kernel) ?_
            refine T_if1 (by decide +kernel) ?_
            refine T_get (by decide +kernel) (c := 219) (by decide +kernel) bdr_219 (by decide) c2 (fun x49 e50 b51 w52 => ?_)
            have l53 : z_ln 218 = 200 := by decide +kernel
            exact T_ret ⟨c2, f4, (y_V3.u o7 (Or.inr o8)), Or.inl (⟨x49, rfl, by omega, by omega⟩)⟩
          · refine T_ite (fun h54 => ?_) (fun h54 => ?_)
            · refine T_if1 (by decide +kernel) ?_
              refine T_let 191 (by decide +kernel) ?_
              refine T_if1 (by decide +kernel) ?_
              refine T_useI (sf_X10_markOf_191 hfu s1 c2 a1 0 (by omega) (by omega)) (fun v60 s55 hq => ?_)
              obtain ⟨c56, f57, ⟨x59, rfl, b61, b62⟩⟩ := hq
              refine T_vI ?_
              have f58 := z_Fr.tr (R := R_X11_sign_1) f4 f57 (fun a b h => absurd h not_false)
              have t63 : s55 6 6 = s1 6 6 := f57 6 6 (by decide)
              have r64 := y_U3.fr o7 (f57 191 16 (by decide)) (f57 6 6 (by decide)) (f57 191 17 (by decide)) (f57 191 18 (by decide)) (fun b => f57 3 b (nr_X10_markOf_191__3 b)) (fun b => f57 8 b (nr_X10_markOf_191__8 b)) (fun b => f57 12 b (nr_X10_markOf_191__12 b)) (fun b => f57 14 b (nr_X10_markOf_191__14 b)) (fun b => f57 16 b (nr_X10_markOf_191__16 b)) (fun b => f57 18 b (nr_X10_markOf_191__18 b)) (fun b => f57 193 b (nr_X10_markOf_191__193 b)) (fun b => f57 195 b (nr_X10_markOf_191__195 b)) (fun b => f57 197 b (nr_X10_markOf_191__197 b)) (fun b => f57 199 b (nr_X10_markOf_191__199 b)) (fun b => f57 201 b (nr_X10_markOf_191__201 b)) (fun b => f57 203 b (nr_X10_markOf_191__203 b)) (fun b => f57 205 b (nr_X10_markOf_191__205 b)) (fun b => f57 207 b (nr_X10_markOf_191__207 b)) (fun b => f57 209 b (nr_X10_markOf_191__209 b)) (fun b => f57 211 b (nr_X10_markOf_191__211 b)) (fun b => f57 213 b (nr_X10_markOf_191__213 b)) (fun b => f57 215 b (nr_X10_markOf_191__215 b)) (fun b => f57 217 b (nr_X10_markOf_191__217 b)) (fun b => f57 219 b (nr_X10_markOf_191__219 b)) (fun b => f57 222 b (nr_X10_markOf_191__222 b))
              have r65 := y_SA.fr o8 (f57 191 16 (by decide)) (f57 6 6 (by decide)) (f57 191 17 (by decide)) (f57 191 18 (by decide)) (fun b => f57 3 b (nr_X10_markOf_191__3 b)) (fun b => f57 8 b (nr_X10_markOf_191__8 b)) (fun b => f57 12 b (nr_X10_markOf_191__12 b)) (fun b => f57 14 b (nr_X10_markOf_191__14 b)) (fun b => f57 16 b (nr_X10_markOf_191__16 b)) (fun b => f57 18 b (nr_X10_markOf_191__18 b)) (fun b => f57 193 b (nr_X10_markOf_191__193 b)) (fun b => f57 195 b (nr_X10_markOf_191__195 b)) (fun b => f57 197 b (nr_X10_markOf_191__197 b)) (fun b => f57 199 b (nr_X10_markOf_191__199 b)) (fun b => f57 201 b (nr_X10_markOf_191__201 b)) (fun b => f57 203 b (nr_X10_markOf_191__203 b)) (fun b => f57 205 b (nr_X10_markOf_191__205 b)) (fun b => f57 207 b (nr_X10_markOf_191__207 b)) (fun b => f57 209 b (nr_X10_markOf_191__209 b)) (fun b => f57 211 b (nr_X10_markOf_191__211 b)) (fun b => f57 213 b (nr_X10_markOf_191__213 b)) (fun b => f57 215 b (nr_X10_markOf_191__215 b)) (fun b => f57 217 b (nr_X10_markOf_191__217 b)) (fun b => f57 219 b (nr_X10_markOf_191__219 b)) (f57 240 6 (by decide)) (fun b => f57 248 b (nr_X10_markOf_191__248 b))
              have r66 := y_B0.fr o7.1.1 (f57 211 0 (by decide)) (f57 213 0 (by decide))
              exact T_ret ⟨c56, f58, (y_V3.u r64 (Or.inr r65)), Or.inl (⟨x59, rfl, by omega, by omega⟩)⟩
            · refine T_if1 (by decide +kernel) ?_
              refine T_let 191 (by decide +kernel) ?_
              refine T_if1 (by decide +kernel) ?_
              refine T_useI (sf_X10_markOf_191 hfu s1 c2 a1 1 (by omega) (by omega)) (fun v72 s67 hq => ?_)
              obtain ⟨c68, f69, ⟨x71, rfl, b73, b74⟩⟩ := hq
              refine T_vI ?_
              have f70 := z_Fr.tr (R := R_X11_sign_1) f4 f69 (fun a b h => absurd h not_false)
              have t75 : s67 6 6 = s1 6 6 := f69 6 6 (by decide)
              have r76 := y_U3.fr o7 (f69 191 16 (by decide)) (f69 6 6 (by decide)) (f69 191 17 (by decide)) (f69 191 18 (by decide)) (fun b => f69 3 b (nr_X10_markOf_191__3 b)) (fun b => f69 8 b (nr_X10_markOf_191__8 b)) (fun b => f69 12 b (nr_X10_markOf_191__12 b)) (fun b => f69 14 b (nr_X10_markOf_191__14 b)) (fun b => f69 16 b (nr_X10_markOf_191__16 b)) (fun b => f69 18 b (nr_X10_markOf_191__18 b)) (fun b => f69 193 b (nr_X10_markOf_191__193 b)) (fun b => f69 195 b (nr_X10_markOf_191__195 b)) (fun b => f69 197 b (nr_X10_markOf_191__197 b)) (fun b => f69 199 b (nr_X10_markOf_191__199 b)) (fun b => f69 201 b (nr_X10_markOf_191__201 b)) (fun b => f69 203 b (nr_X10_markOf_191__203 b)) (fun b => f69 205 b (nr_X10_markOf_191__205 b)) (fun b => f69 207 b (nr_X10_markOf_191__207 b)) (fun b => f69 209 b (nr_X10_markOf_191__209 b)) (fun b => f69 211 b (nr_X10_markOf_191__211 b)) (fun b => f69 213 b (nr_X10_markOf_191__213 b)) (fun b => f69 215 b (nr_X10_markOf_191__215 b)) (fun b => f69 217 b (nr_X10_markOf_191__217 b)) (fun b => f69 219 b (nr_X10_markOf_191__219 b)) (fun b => f69 222 b (nr_X10_markOf_191__222 b))
              have r77 := y_SA.fr o8 (f69 191 16 (by decide)) (f69 6 6 (by decide)) (f69 191 17 (by decide)) (f69 191 18 (by decide)) (fun b => f69 3 b (nr_X10_markOf_191__3 b)) (fun b => f69 8 b (nr_X10_markOf_191__8 b)) (fun b => f69 12 b (nr_X10_markOf_191__12 b)) (fun b => f69 14 b (nr_X10_markOf_191__14 b)) (fun b => f69 16 b (nr_X10_markOf_191__16 b)) (fun b => f69 18 b (nr_X10_markOf_191__18 b)) (fun b => f69 193 b (nr_X10_markOf_191__193 b)) (fun b => f69 195 b (nr_X10_markOf_191__195 b)) (fun b => f69 197 b (nr_X10_markOf_191__197 b)) (fun b => f69 199 b (nr_X10_markOf_191__199 b)) (fun b => f69 201 b (nr_X10_markOf_191__201 b)) (fun b => f69 203 b (nr_X10_markOf_191__203 b)) (fun b => f69 205 b (nr_X10_markOf_191__205 b)) (fun b => f69 207 b (nr_X10_markOf_191__207 b)) (fun b => f69 209 b (nr_X10_markOf_191__209 b)) (fun b => f69 211 b (nr_X10_markOf_191__211 b)) (fun b => f69 213 b (nr_X10_markOf_191__213 b)) (fun b => f69 215 b (nr_X10_markOf_191__215 b)) (fun b => f69 217 b (nr_X10_markOf_191__217 b)) (fun b => f69 219 b (nr_X10_markOf_191__219 b)) (f69 240 6 (by decide)) (fun b => f69 248 b (nr_X10_markOf_191__248 b))
              have r78 := y_B0.fr o7.1.1 (f69 211 0 (by decide)) (f69 213 0 (by decide))
              exact T_ret ⟨c68, f70, (y_V3.u r76 (Or.inr r77)), Or.inl (⟨x71, rfl, by omega, by omega⟩)⟩
abbrev P_X11_line_1K (r0 : z_M) : z_V → z_M → Prop := fun v s' => z_CI s' ∧ z_Fr R_X11_line_1 r0 s' ∧ (y_V3 s') ∧ ((∃ x, v = vI x ∧ -2147483648 ≤ x ∧ x ≤ 2147483647) ∨ v = vX 0 ∨ v = vX 1)
set_option maxHeartbeats 4000000 in
theorem sf_X11_line_1K {fu : Nat} (hfu : 8589934592 ≤ fu) (r0 : z_M) (c0 : z_CI r0) (a1 : Int) (a2 : Int) (b1 : -2147483648 ≤ a1 ∧ a1 ≤ 2147483647) (b2 : -2147483648 ≤ a2 ∧ a2 ≤ 2147483647) (p0 : y_V3 r0) : z_T (fX11_line fu r0 1 a1 a2) (P_X11_line_1K r0) := by
  refine T_of (fX11_line.eq_1 ..) ?_
  refine T_if1 (by decide +kernel) ?_
  refine T_useN (sf_X11_refresh_1K hfu r0 c0 p0) (fun v6 s1 hq => ?_)
  obtain ⟨c2, f3, o7, o8, rfl⟩ := hq
  refine T_vN ?_
  have f4 := z_Fr.tr (R := R_X11_line_1) z_Fr.rf f3 rs_X11_refresh_1__X11_line_1
  have u11 := CI_b c2 (k := 240) (j := 6) bd_240_6
  refine T_if1 (by decide +kernel) ?_
  refine T_let 240 (by decide +kernel) ?_
  refine T_if1 (by decide +kernel) ?_
  refine T_leq (fun x12 e13 => ?_)
  have u14 := CI_b c2 (k := 240) (j := 6) bd_240_6
  refine T_if1 (by decide +kernel) ?_
  refine T_ne ?_ (fun h15 h16 => ?_)
  · exact T_ret ⟨CI_up c2 bd_1_14 (z_wb rfl).1, z_Fr.upf (R := R_X11_line_1) f4 (fun a b h => z_up_k h) (fun b h => z_up_j h) (Or.inr (Or.inr (Or.inr (Or.inr (Or.inr (Or.inr (Or.inr (Or.inl (⟨rfl, by decide⟩))))))))), y_V3.u (y_U3.fr o7 (z_up_k (by decide)) (z_up_k (by decide)) (z_up_k (by decide)) (z_up_k (by decide)) (fun _ => z_up_k (by decide)) (fun _ => z_up_k (by decide)) (fun _ => z_up_k (by decide)) (fun _ => z_up_k (by decide)) (fun _ => z_up_k (by decide)) (fun _ => z_up_k (by decide)) (fun _ => z_up_k (by decide)) (fun _ => z_up_k (by decide)) (fun _ => z_up_k (by decide)) (fun _ => z_up_k (by decide)) (fun _ => z_up_k (by decide)) (fun _ => z_up_k (by decide)) (fun _ => z_up_k (by decide)) (fun _ => z_up_k (by decide)) (fun _ => z_up_k (by decide)) (fun _ => z_up_k (by decide)) (fun _ => z_up_k (by decide)) (fun _ => z_up_k (by decide)) (fun _ => z_up_k (by decide)) (fun _ => z_up_k (by decide)) (fun _ => z_up_k (by decide))) (y_L3.fr (show y_L3 s1 from (Or.inr o8)) (z_up_j (by decide)) (z_up_k (by decide)) (z_up_k (by decide)) (z_up_k (by decide)) (z_up_k (by decide)) (fun _ => z_up_k (by decide)) (fun _ => z_up_k (by decide)) (fun _ => z_up_k (by decide)) (fun _ => z_up_k (by decide)) (fun _ => z_up_k (by decide)) (fun _ => z_up_k (by decide)) (fun _ => z_up_k (by decide)) (fun _ => z_up_k (by decide)) (fun _ => z_up_k (by decide)) (fun _ => z_up_k (by decide)) (fun _ => z_up_k (by decide)) (fun _ => z_up_k (by decide)) (fun _ => z_up_k (by decide)) (fun _ => z_up_k (by decide)) (fun _ => z_up_k (by decide)) (fun _ => z_up_k (by decide)) (fun _ => z_up_k (by decide)) (fun _ => z_up_k (by decide)) (fun _ => z_up_k (by decide)) (fun _ => z_up_k (by decide)) (z_up_k (by decide)) (fun _ => z_up_k (by decide))), Or.inr (Or.inl rfl)⟩
  refine T_if1 (by decide +kernel) ?_
  refine T_nw ?_ (fun h17 h18 => ?_)
  · exact T_ret ⟨CI_up c2 bd_1_15 (z_wb rfl).1, z_Fr.upf (R := R_X11_line_1) f4 (fun a b h => z_up_k h) (fun b h => z_up_j h) (Or.inr (Or.inr (Or.inr (Or.inr (Or.inr (Or.inr (Or.inr (Or.inl (⟨rfl, by decide⟩))))))))), y_V3.u (y_U3.fr o7 (z_up_k (by decide)) (z_up_k (by decide)) (z_up_k (by decide)) (z_up_k (by decide)) (fun _ => z_up_k (by decide)) (fun _ => z_up_k (by decide)) (fun _ => z_up_k (by decide)) (fun _ => z_up_k (by decide)) (fun _ => z_up_k (by decide)) (fun _ => z_up_k (by decide)) (fun _ => z_up_k (by decide)) (fun _ => z_up_k (by decide)) (fun _ => z_up_k (by decide)) (fun _ => z_up_k (by decide)) (fun _ => z_up_k (by decide)) (fun _ => z_up_k (by decide)) (fun _ => z_up_k (by decide)) (fun _ => z_up_k (by decide)) (fun _ => z_up_k (by decide)) (fun _ => z_up_k (by decide)) (fun _ => z_up_k (by decide)) (fun _ => z_up_k (by decide)) (fun _ => z_up_k (by decide)) (fun _ => z_up_k (by decide)) (fun _ => z_up_k (by decide))) (y_L3.fr (show y_L3 s1 from (Or.inr o8)) (z_up_j (by decide)) (z_up_k (by decide)) (z_up_k (by decide)) (z_up_k (by decide)) (z_up_k (by decide)) (fun _ => z_up_k (by decide)) (fun _ => z_up_k (by decide)) (fun _ => z_up_k (by decide)) (fun _ => z_up_k (by decide)) (fun _ => z_up_k (by decide)) (fun _ => z_up_k (by decide)) (fun _ => z_up_k (by decide)) (fun _ => z_up_k (by decide)) (fun _ => z_up_k (by decide)) (fun _ => z_up_k (by decide)) (fun _ => z_up_k (by decide)) (fun _ => z_up_k (by decide)) (fun _ => z_up_k (by decide)) (fun _ => z_up_k (by decide)) (fun _ => z_up_k (by decide)) (fun _ => z_up_k (by decide)) (fun _ => z_up_k (by decide)) (fun _ => z_up_k (by decide)) (fun _ => z_up_k (by decide)) (fun _ => z_up_k (by decide)) (z_up_k (by decide)) (fun _ => z_up_k (by decide))), Or.inr (Or.inr rfl)⟩
  refine T_ite (fun h19 => ?_) (fun h19 => ?_)
  · refine T_if1 (by decide +kernel) ?_
    refine T_let 240 (by decide +kernel) ?_
    refine T_if1 (by decide +kernel) ?_
    refine T_let 247 (by decide +kernel) ?_
    refine T_if1 (by decide +kernel) ?_
    refine T_get (by decide +kernel) (c := 248) (by decide +kernel) bdr_248 (by decide) c2 (fun x20 e21 b22 w23 => ?_)
    have l24 : z_ln 247 = 201 := by decide +kernel
    exact T_ret ⟨c2, f4, (y_V3.u o7 (Or.inr o8)), Or.inl (⟨x20, rfl, by omega, by omega⟩)⟩
  · refine T_ite (fun h25 => ?_) (fun h25 => ?_)
    · refine T_if1 (by decide +kernel) ?_
      refine T_let 240 (by decide +kernel) ?_
      refine T_if1 (by decide +kernel) ?_
      refine T_let 247 (by decide +kernel) ?_
      refine T_leq (fun x26 e27 => ?_)
      have w28 := z_wr e27
      refine T_if1 (by decide +kernel) ?_
      refine T_get (by decide +kernel) (c := 248) (by decide +kernel) bdr_248 (by decide) c2 (fun x29 e30 b31 w32 => ?_)
      have l33 : z_ln 247 = 201 := by decide +kernel
      refine T_if1 (by decide +kernel) ?_
      refine T_let 240 (by decide +kernel) ?_
      refine T_if1 (by decide +kernel) ?_
      refine T_let 247 (by decide +kernel) ?_
      refine T_if1 (by decide +kernel) ?_
      refine T_get (by decide +kernel) (c := 248) (by decide +kernel) bdr_248 (by decide) c2 (fun x34 e35 b36 w37 => ?_)
      have l38 : z_ln 247 = 201 := by decide +kernel
      refine T_leq (fun x39 e40 => ?_)
      have w41 := z_wr e40
      exact T_ret ⟨c2, f4, (y_V3.u o7 (Or.inr o8)), Or.inl (⟨x39, rfl, by omega, by omega⟩)⟩
    · refine T_ite (fun h42 => ?_) (fun h42 => ?_)
      · refine T_if1 (by decide +kernel) ?_
        refine T_let 258 (by decide +kernel) ?_
        refine T_if1 (by decide +kernel) ?_
        refine T_let 269 (by decide +kernel) ?_
        refine T_if1 (by decide +kernel) ?_
        refine T_get (by decide +kernel) (c := 270) (by decide +kernel) bdr_270 (by decide) c2 (fun x43 e44 b45 w46 => ?_)
        have l47 : z_ln 269 = 200 := by decide +kernel
        exact T_ret ⟨c2, f4, (y_V3.u o7 (Or.inr o8)), Or.inl (⟨x43, rfl, by omega, by omega⟩)⟩
      · refine T_ite (fun h48 => ?_) (fun h48 => ?_)
        · refine T_if1 (by decide +kernel) ?_
          refine T_let 2 (by decide +kernel) ?_
          refine T_if1 (by decide +kernel) ?_
          refine T_get (by decide +kernel) (c := 3) (by decide +kernel) bdr_3 (by decide) c2 (fun x49 e50 b51 w52 => ?_)
          have l53 : z_ln 2 = 9 := by decide +kernel
          refine T_if1 (by decide +kernel) ?_
          refine T_let 258 (by decide +kernel) ?_
          refine T_if1 (by decide +kernel) ?_
          refine T_let 269 (by decide +kernel) ?_
          refine T_if1 (by decide +kernel) ?_
          refine T_get (by decide +kernel) (c := 270) (by decide +kernel) bdr_270 (by decide) c2 (fun x54 e55 b56 w57 => ?_)
          have l58 : z_ln 269 = 200 := by decide +kernel
          refine T_leq (fun x59 e60 => ?_)
          have w61 := z_wr e60
          exact T_ret ⟨c2, f4, (y_V3.u o7 (Or.inr o8)), Or.inl (⟨x59, rfl, by omega, by omega⟩)⟩
        · refine T_ite (fun h62 => ?_) (fun h62 => ?_)
          · refine T_if1 (by decide +kernel) ?_
            refine T_let 258 (by decide +kernel) ?_
            refine T_if1 (by decide +kernel) ?_
            refine T_let 271 (by decide +kernel) ?_
            refine T_if1 (by decide +kernel) ?_
            refine T_get (by decide +kernel) (c := 272) (by decide +kernel) bdr_272 (by decide) c2 (fun x63 e64 b65 w66 => ?_)
            have l67 : z_ln 271 = 200 := by decide +kernel
            exact T_ret ⟨c2, f4, (y_V3.u o7 (Or.inr o8)), Or.inl (⟨x63, rfl, by omega, by omega⟩)⟩
          · refine T_ite (fun h68 => ?_) (fun h68 => ?_)
            · refine T_if1 (by decide +kernel) ?_
              refine T_let 258 (by decide +kernel) ?_
              refine T_if1 (by decide +kernel) ?_
              refine T_let 277 (by decide +kernel) ?_
              refine T_leq (fun x69 e70 => ?_)
              have w71 := z_wr e70
              refine T_if1 (by decide +kernel) ?_
              refine T_get (by decide +kernel) (c := 278) (by decide +kernel) bdr_278 (by decide) c2 (fun x72 e73 b74 w75 => ?_)
              have l76 : z_ln 277 = 201 := by decide +kernel
              refine T_if1 (by decide +kernel) ?_
              refine T_let 258 (by decide +kernel) ?_
              refine T_if1 (by decide +kernel) ?_
              refine T_let 277 (by decide +kernel) ?_
              refine T_if1 (by decide +kernel) ?_
              refine T_get (by decide +kernel) (c := 278) (by decide +kernel) bdr_278 (by decide) c2 (fun x77 e78 b79 w80 => ?_)
              have l81 : z_ln 277 = 201 := by decide +kernel
              refine T_leq (fun x82 e83 => ?_)
              have w84 := z_wr e83
              exact T_ret ⟨c2, f4, (y_V3.u o7 (Or.inr o8)), Or.inl (⟨x82, rfl, by omega, by omega⟩)⟩
            · refine T_ite (fun h85 => ?_) (fun h85 => ?_)
              · refine T_if1 (by decide +kernel) ?_
                refine T_let 258 (by decide +kernel) ?_
                refine T_if1 (by decide +kernel) ?_
                refine T_let 273 (by decide +kernel) ?_
                refine T_if1 (by decide +kernel) ?_
                refine T_get (by decide +kernel) (c := 274) (by decide +kernel) bdr_274 (by decide) c2 (fun x86 e87 b88 w89 => ?_)
                have l90 : z_ln 273 = 200 := by decide +kernel
                exact T_ret ⟨c2, f4, (y_V3.u o7 (Or.inr o8)), Or.inl (⟨x86, rfl, by omega, by omega⟩)⟩
              · refine T_if1 (by decide +kernel) ?_
                refine T_let 258 (by decide +kernel) ?_
                refine T_if1 (by decide +kernel) ?_
                refine T_let 275 (by decide +kernel) ?_
                refine T_if1 (by decide +kernel) ?_
                refine T_get (by decide +kernel) (c := 276) (by decide +kernel) bdr_276 (by decide) c2 (fun x91 e92 b93 w94 => ?_)
                have l95 : z_ln 275 = 200 := by decide +kernel
                exact T_ret ⟨c2, f4, (y_V3.u o7 (Or.inr o8)), Or.inl (⟨x91, rfl, by omega, by omega⟩)⟩
abbrev P_X11_block_1K (r0 : z_M) : z_V → z_M → Prop := fun v s' => z_CI s' ∧ z_Fr R_X11_block_1 r0 s' ∧ (y_V3 s') ∧ ((∃ x, v = vI x ∧ -2147483648 ≤ x ∧ x ≤ 2147483647) ∨ v = vX 0 ∨ v = vX 1)
theorem nr_X0_padAhead_279__222 (b : Int) : ¬ R_X0_padAhead_279 222 b := not_false
theorem nr_X0_padAhead_279__248 (b : Int) : ¬ R_X0_padAhead_279 248 b := not_false
theorem nr_X0_padBehind_279__222 (b : Int) : ¬ R_X0_padBehind_279 222 b := not_false
theorem nr_X0_padBehind_279__248 (b : Int) : ¬ R_X0_padBehind_279 248 b := not_false
set_option maxHeartbeats 4000000 in
theorem sf_X11_block_1K {fu : Nat} (hfu : 8589934592 ≤ fu) (r0 : z_M) (c0 : z_CI r0) (a1 : Int) (a2 : Int) (b1 : -2147483648 ≤ a1 ∧ a1 ≤ 2147483647) (b2 : -2147483648 ≤ a2 ∧ a2 ≤ 2147483647) (p0 : y_V3 r0) : z_T (fX11_block fu r0 1 a1 a2) (P_X11_block_1K r0) := by
  refine T_of (fX11_block.eq_1 ..) ?_
  refine T_if1 (by decide +kernel) ?_
  refine T_useN (sf_X11_refresh_1K hfu r0 c0 p0) (fun v6 s1 hq => ?_)
  obtain ⟨c2, f3, o7, o8, rfl⟩ := hq
  refine T_vN ?_
  have f4 := z_Fr.tr (R := R_X11_block_1) z_Fr.rf f3 rs_X11_refresh_1__X11_block_1
  have u11 := CI_b c2 (k := 279) (j := 9) bd_279_9
  refine T_if1 (by decide +kernel) ?_
  refine T_let 258 (by decide +kernel) ?_
  refine T_if1 (by decide +kernel) ?_
  refine T_let 279 (by decide +kernel) ?_
  refine T_if1 (by decide +kernel) ?_
  refine T_leq (fun x12 e13 => ?_)
  have u14 := CI_b c2 (k := 279) (j := 9) bd_279_9
  refine T_if1 (by decide +kernel) ?_
  refine T_ne ?_ (fun h15 h16 => ?_)
  · exact T_ret ⟨CI_up c2 bd_1_14 (z_wb rfl).1, z_Fr.upf (R := R_X11_block_1) f4 (fun a b h => z_up_k h) (fun b h => z_up_j h) (Or.inr (Or.inr (Or.inr (Or.inr (Or.inr (Or.inr (Or.inr (Or.inl (⟨rfl, by decide⟩))))))))), y_V3.u (y_U3.fr o7 (z_up_k (by decide)) (z_up_k (by decide)) (z_up_k (by decide)) (z_up_k (by decide)) (fun _ => z_up_k (by decide)) (fun _ => z_up_k (by decide)) (fun _ => z_up_k (by decide)) (fun _ => z_up_k (by decide)) (fun _ => z_up_k (by decide)) (fun _ => z_up_k (by decide)) (fun _ => z_up_k (by decide)) (fun _ => z_up_k (by decide)) (fun _ => z_up_k (by decide)) (fun _ => z_up_k (by decide)) (fun _ => z_up_k (by decide)) (fun _ => z_up_k (by decide)) (fun _ => z_up_k (by decide)) (fun _ => z_up_k (by decide)) (fun _ => z_up_k (by decide)) (fun _ => z_up_k (by decide)) (fun _ => z_up_k (by decide)) (fun _ => z_up_k (by decide)) (fun _ => z_up_k (by decide)) (fun _ => z_up_k (by decide)) (fun _ => z_up_k (by decide))) (y_L3.fr (show y_L3 s1 from (Or.inr o8)) (z_up_j (by decide)) (z_up_k (by decide)) (z_up_k (by decide)) (z_up_k (by decide)) (z_up_k (by decide)) (fun _ => z_up_k (by decide)) (fun _ => z_up_k (by decide)) (fun _ => z_up_k (by decide)) (fun _ => z_up_k (by decide)) (fun _ => z_up_k (by decide)) (fun _ => z_up_k (by decide)) (fun _ => z_up_k (by decide)) (fun _ => z_up_k (by decide)) (fun _ => z_up_k (by decide)) (fun _ => z_up_k (by decide)) (fun _ => z_up_k (by decide)) (fun _ => z_up_k (by decide)) (fun _ => z_up_k (by decide)) (fun _ => z_up_k (by decide)) (fun _ => z_up_k (by decide)) (fun _ => z_up_k (by decide)) (fun _ => z_up_k (by decide)) (fun _ => z_up_k (by decide)) (fun _ => z_up_k (by decide)) (fun _ => z_up_k (by decide)) (z_up_k (by decide)) (fun _ => z_up_k (by decide))), Or.inr (Or.inl rfl)⟩
  refine T_if1 (by decide +kernel) ?_
  refine T_nw ?_ (fun h17 h18 => ?_)
  · exact T_ret ⟨CI_up c2 bd_1_15 (z_wb rfl).1, z_Fr.upf (R := R_X11_block_1) f4 (fun a b h => z_up_k h) (fun b h => z_up_j h) (Or.inr (Or.inr (Or.inr (Or.inr (Or.inr (Or.inr (Or.inr (Or.inl (⟨rfl, by decide⟩))))))))), y_V3.u (y_U3.fr o7 (z_up_k (by decide)) (z_up_k (by decide)) (z_up_k (by decide)) (z_up_k (by decide)) (fun _ => z_up_k (by decide)) (fun _ => z_up_k (by decide)) (fun _ => z_up_k (by decide)) (fun _ => z_up_k (by decide)) (fun _ => z_up_k (by decide)) (fun _ => z_up_k (by decide)) (fun _ => z_up_k (by decide)) (fun _ => z_up_k (by decide)) (fun _ => z_up_k (by decide)) (fun _ => z_up_k (by decide)) (fun _ => z_up_k (by decide)) (fun _ => z_up_k (by decide)) (fun _ => z_up_k (by decide)) (fun _ => z_up_k (by decide)) (fun _ => z_up_k (by decide)) (fun _ => z_up_k (by decide)) (fun _ => z_up_k (by decide)) (fun _ => z_up_k (by decide)) (fun _ => z_up_k (by decide)) (fun _ => z_up_k (by decide)) (fun _ => z_up_k (by decide))) (y_L3.fr (show y_L3 s1 from (Or.inr o8)) (z_up_j (by decide)) (z_up_k (by decide)) (z_up_k (by decide)) (z_up_k (by decide)) (z_up_k (by decide)) (fun _ => z_up_k (by decide)) (fun _ => z_up_k (by decide)) (fun _ => z_up_k (by decide)) (fun _ => z_up_k (by decide)) (fun _ => z_up_k (by decide)) (fun _ => z_up_k (by decide)) (fun _ => z_up_k (by decide)) (fun _ => z_up_k (by decide)) (fun _ => z_up_k (by decide)) (fun _ => z_up_k (by decide)) (fun _ => z_up_k (by decide)) (fun _ => z_up_k (by decide)) (fun _ => z_up_k (by decide)) (fun _ => z_up_k (by decide)) (fun _ => z_up_k (by decide)) (fun _ => z_up_k (by decide)) (fun _ => z_up_k (by decide)) (fun _ => z_up_k (by decide)) (fun _ => z_up_k (by decide)) (fun _ => z_up_k (by decide)) (z_up_k (by decide)) (fun _ => z_up_k (by decide))), Or.inr (Or.inr rfl)⟩
  refine T_ite (fun h19 => ?_) (fun h19 => ?_)
  · refine T_if1 (by decide +kernel) ?_
    refine T_let 280 (by decide +kernel) ?_
    refine T_if1 (by decide +kernel) ?_
    refine T_get (by decide +kernel) (c := 281) (by decide +kernel) bdr_281 (by decide) c2 (fun x20 e21 b22 w23 => ?_)
    have l24 : z_ln 280 = 200 := by decide +kernel
    exact T_ret ⟨c2, f4, (y_V3.u o7 (Or.inr o8)), Or.inl (⟨x20, rfl, by omega, by omega⟩)⟩
  · refine T_ite (fun h25 => ?_) (fun h25 => ?_)
    · refine T_if1 (by decide +kernel) ?_
      refine T_let 282 (by decide +kernel) ?_
      refine T_if1 (by decide +kernel) ?_
      refine T_get (by decide +kernel) (c := 283) (by decide +kernel) bdr_283 (by decide) c2 (fun x26 e27 b28 w29 => ?_)
      have l30 : z_ln 282 = 200 := by decide +kernel
      refine T_if1 (by decide +kernel) ?_
      refine T_let 280 (by decide +kernel) ?_
      refine T_if1 (by decide +kernel) ?_
      refine T_get (by decide +kernel) (c := 281) (by decide +kernel) bdr_281 (by decide) c2 (fun x31 e32 b33 w34 => ?_)
      have l35 : z_ln 280 = 200 := by decide +kernel
      refine T_leq (fun x36 e37 => ?_)
      have w38 := z_wr e37
      refine T_leq (fun x39 e40 => ?_)
      have w41 := z_wr e40
      exact T_ret ⟨c2, f4, (y_V3.u o7 (Or.inr o8)), Or.inl (⟨x39, rfl, by omega, by omega⟩)⟩
    · refine T_ite (fun h42 => ?_) (fun h42 => ?_)
      · refine T_if1 (by decide +kernel) ?_
        refine T_let 284 (by decide +kernel) ?_
        refine T_if1 (by decide +kernel) ?_
        refine T_get (by decide +kernel) (c := 285) (by decide +kernel) bdr_285 (by decide) c2 (fun x43 e44 b45 w46 => ?_)
        have l47 : z_ln 284 = 200 := by decide +kernel
        exact T_ret ⟨c2, f4, (y_V3.u o7 (Or.inr o8)), Or.inl (⟨x43, rfl, by omega, by omega⟩)⟩
      · refine T_ite (fun h48 => ?_) (fun h48 => ?_)
        · refine T_if1 (by decide +kernel) ?_
          refine T_let 286 (by decide +kernel) ?_
          refine T_if1 (by decide +kernel) ?_
          refine T_get (by decide +kernel) (c := 287) (by decide +kernel) bdr_287 (by decide) c2 (fun x49 e50 b51 w52 => ?_)
          have l53 : z_ln 286 = 200 := by decide +kernel
          exact T_ret ⟨c2, f4, (y_V3.u o7 (Or.inr o8)), Or.inl (⟨x49, rfl, by omega, by omega⟩)⟩
        · refine T_ite (fun h54 => ?_) (fun h54 => ?_)
          · refine T_if1 (by decide +kernel) ?_
            refine T_let 288 (by decide +kernel) ?_
            refine T_if1 (by decide +kernel) ?_
            refine T_get (by decide +kernel) (c := 289) (by decide +kernel) bdr_289 (by decide) c2 (fun x55 e56 b57 w58 => ?_)
            have l59 : z_ln 288 = 200 := by decide +kernel
            exact T_ret ⟨c2, f4, (y_V3.u o7 (Or.inr o8)), Or.inl (⟨x55, rfl, by omega, by omega⟩)⟩
          · refine T_ite (fun h60 => ?_) (fun h60 => ?_)
            · refine T_if1 (by decide +kernel) ?_
              refine T_let 290 (by decide +kernel) ?_
              refine T_if1 (by decide +kernel) ?_
              refine T_get (by decide +kernel) (c := 291) (by decide +kernel) bdr_291 (by decide) c2 (fun x61 e62 b63 w64 => ?_)
              have l65 : z_ln 290 = 200 := by decide +kernel
              exact T_ret ⟨c2, f4, (y_V3.u o7 (Or.inr o8)), Or.inl (⟨x61, rfl, by omega, by omega⟩)⟩
            · refine T_ite (fun h66 => ?_) (fun h66 => ?_)
              · refine T_if1 (by decide +kernel) ?_
                refine T_useI (sf_X0_padAhead_279 hfu s1 c2 a1 (by omega)) (fun v72 s67 hq => ?_)
                obtain ⟨c68, f69, ⟨x71, rfl, b73, b74⟩⟩ := hq
                refine T_vI ?_
                have f70 := z_Fr.tr (R := R_X11_block_1) f4 f69 (fun a b h => absurd h not_false)
                have t75 : s67 279 9 = s1 279 9 := f69 279 9 (by decide)
                have r76 := y_U3.fr o7 (f69 191 16 (by decide)) (f69 6 6 (by decide)) (f69 191 17 (by decide)) (f69 191 18 (by decide)) (fun b => f69 3 b (nr_X0_padAhead_279__3 b)) (fun b => f69 8 b (nr_X0_padAhead_279__8 b)) (fun b => f69 12 b (nr_X0_padAhead_279__12 b)) (fun b => f69 14 b (nr_X0_padAhead_279__14 b)) (fun b => f69 16 b (nr_X0_padAhead_279__16 b)) (fun b => f69 18 b (nr_X0_padAhead_279__18 b)) (fun b => f69 193 b (nr_X0_padAhead_279__193 b)) (fun b => f69 195 b (nr_X0_padAhead_279__195 b)) (fun b => f69 197 b (nr_X0_padAhead_279__197 b)) (fun b => f69 199 b (nr_X0_padAhead_279__199 b)) (fun b => f69 201 b (nr_X0_padAhead_279__201 b)) (fun b => f69 203 b (nr_X0_padAhead_279__203 b)) (fun b => f69 205 b (nr_X0_padAhead_279__205 b)) (fun b => f69 207 b (nr_X0_padAhead_279__207 b)) (fun b => f69 209 b (nr_X0_padAhead_279__209 b)) (fun b => f69 211 b (nr_X0_padAhead_279__211 b)) (fun b => f69 213 b (nr_X0_padAhead_279__213 b)) (fun b => f69 215 b (nr_X0_padAhead_279__215 b)) (fun b => f69 217 b (nr_X0_padAhead_279__217 b)) (fun b => f69 219 b (nr_X0_padAhead_279__219 b)) (fun b => f69 222 b (nr_X0_padAhead_279__222 b))
                have r77 := y_SA.fr o8 (f69 191 16 (by decide)) (f69 6 6 (by decide)) (f69 191 17 (by decide)) (f69 191 18 (by decide)) (fun b => f69 3 b (nr_X0_padAhead_279__3 b)) (fun b => f69 8 b (nr_X0_padAhead_279__8 b)) (fun b => f69 12 b (nr_X0_padAhead_279__12 b)) (fun b => f69 14 b (nr_X0_padAhead_279__14 b)) (fun b => f69 16 b (nr_X0_padAhead_279__16 b)) (fun b => f69 18 b (nr_X0_padAhead_279__18 b)) (fun b => f69 193 b (nr_X0_padAhead_279__193 b)) (fun b => f69 195 b (nr_X0_padAhead_279__195 b)) (fun b => f69 197 b (nr_X0_padAhead_279__197 b)) (fun b => f69 199 b (nr_X0_padAhead_279__199 b)) (fun b => f69 201 b (nr_X0_padAhead_279__201 b)) (fun b => f69 203 b (nr_X0_padAhead_279__203 b)) (fun b => f69 205 b (nr_X0_padAhead_279__205 b)) (fun b => f69 207 b (nr_X0_padAhead_279__207 b)) (fun b => f69 209 b (nr_X0_padAhead_279__209 b)) (fun b => f69 211 b (nr_X0_padAhead_279__211 b)) (fun b => f69 213 b (nr_X0_padAhead_279__213 b)) (fun b => f69 215 b (nr_X0_padAhead_279__215 b)) (fun b => f69 217 b (nr_X0_padAhead_279__217 b)) (fun b => f69 219 b (nr_X0_padAhead_279__219 b)) (f69 240 6 (by decide)) (fun b => f69 248 b (nr_X0_padAhead_279__248 b))
                have r78 := y_B0.fr o7.1.1 (f69 211 0 (by decide)) (f69 213 0 (by decide))
                exact T_ret ⟨c68, f70, (y_V3.u r76 (Or.inr r77)), Or.inl (⟨x71, rfl, by omega, by omega⟩)⟩
              · refine T_if1 (by decide +kernel) ?_
                refine T_useI (sf_X0_padBehind_279 hfu s1 c2 a1 (by omega)) (fun v84 s79 hq => ?_)
                obtain ⟨c80, f81, ⟨x83, rfl, b85, b86⟩⟩ := hq
                refine T_vI ?_
                have f82 := z_Fr.tr (R := R_X11_block_1) f4 f81 (fun a b h => absurd h not_false)
                have t87 : s79 279 9 = s1 279 9 := f81 279 9 (by decide)
                have r88 := y_U3.fr o7 (f81 191 16 (by decide)) (f81 6 6 (by decide)) (f81 191 17 (by decide)) (f81 191 18 (by decide)) (fun b => f81 3 b (nr_X0_padBehind_279__3 b)) (fun b => f81 8 b (nr_X0_padBehind_279__8 b)) (fun b => f81 12 b (nr_X0_padBehind_279__12 b)) (fun b => f81 14 b (nr_X0_padBehind_279__14 b)) (fun b => f81 16 b (nr_X0_padBehind_279__16 b)) (fun b => f81 18 b (nr_X0_padBehind_279__18 b)) (fun b => f81 193 b (nr_X0_padBehind_279__193 b)) (fun b => f81 195 b (nr_X0_padBehind_279__195 b)) (fun b => f81 197 b (nr_X0_padBehind_279__197 b)) (fun b => f81 199 b (nr_X0_padBehind_279__199 b)) (fun b => f81 201 b (nr_X0_padBehind_279__201 b)) (fun b => f81 203 b (nr_X0_padBehind_279__203 b)) (fun b => f81 205 b (nr_X0_padBehind_279__205 b)) (fun b => f81 207 b (nr_X0_padBehind_279__207 b)) (fun b => f81 209 b (nr_X0_padBehind_279__209 b)) (fun b => f81 211 b (nr_X0_padBehind_279__211 b)) (fun b => f81 213 b (nr_X0_padBehind_279__213 b)) (fun b => f81 215 b (nr_X0_padBehind_279__215 b)) (fun b => f81 217 b (nr_X0_padBehind_279__217 b)) (fun b => f81 219 b (nr_X0_padBehind_279__219 b)) (fun b => f81 222 b (nr_X0_padBehind_279__222 b))
                have r89 := y_SA.fr o8 (f81 191 16 (by decide)) (f81 6 6 (by decide)) (f81 191 17 (by decide)) (f81 191 18 (by decide)) (fun b => f81 3 b (nr_X0_padBehind_279__3 b)) (fun b => f81 8 b (nr_X0_padBehind_279__8 b)) (fun b => f81 12 b (nr_X0_padBehind_279__12 b)) (fun b => f81 14 b (nr_X0_padBehind_279__14 b)) (fun b => f81 16 b (nr_X0_padBehind_279__16 b)) (fun b => f81 18 b (nr_X0_padBehind_279__18 b)) (fun b => f81 193 b (nr_X0_padBehind_279__193 b)) (fun b => f81 195 b (nr_X0_padBehind_279__195 b)) (fun b => f81 197 b (nr_X0_padBehind_279__197 b)) (fun b => f81 199 b (nr_X0_padBehind_279__199 b)) (fun b => f81 201 b (nr_X0_padBehind_279__201 b)) (fun b => f81 203 b (nr_X0_padBehind_279__203 b)) (fun b => f81 205 b (nr_X0_padBehind_279__205 b)) (fun b => f81 207 b (nr_X0_padBehind_279__207 b)) (fun b => f81 209 b (nr_X0_padBehind_279__209 b)) (fun b => f81 211 b (nr_X0_padBehind_279__211 b)) (fun b => f81 213 b (nr_X0_padBehind_279__213 b)) (fun b => f81 215 b (nr_X0_padBehind_279__215 b)) (fun b => f81 217 b (nr_X0_padBehind_279__217 b)) (fun b => f81 219 b (nr_X0_padBehind_279__219 b)) (f81 240 6 (by decide)) (fun b => f81 248 b (nr_X0_padBehind_279__248 b))
                have r90 := y_B0.fr o7.1.1 (f81 211 0 (by decide)) (f81 213 0 (by decide))
                exact T_ret ⟨c80, f82, (y_V3.u r88 (Or.inr r89)), Or.inl (⟨x83, rfl, by omega, by omega⟩)⟩
abbrev P_X11_reading_1K (r0 : z_M) : z_V → z_M → Prop := fun v s' => z_CI s' ∧ z_Fr R_X11_reading_1 r0 s' ∧ (y_V3 s') ∧ ((∃ x, v = vI x ∧ -2147483648 ≤ x ∧ x ≤ 2147483647) ∨ v = vX 0 ∨ v = vX 1)
theorem nr_X0_letters_279__222 (b : Int) : ¬ R_X0_letters_279 222 b := not_false
theorem nr_X0_letters_279__248 (b : Int) : ¬ R_X0_letters_279 248 b := not_false
theorem nr_X3_letterPlace_258__222 (b : Int) : ¬ R_X3_letterPlace_258 222 b := not_false
theorem nr_X3_letterPlace_258__248 (b : Int) : ¬ R_X3_letterPlace_258 248 b := not_false
theorem sj_X11_reading_1K_J112 {fu : Nat} (hfu : 8589934592 ≤ fu) (r0 s : z_M) (c : z_CI s) (f : z_Fr R_X11_reading_1 r0 s) (t0 : Int) (d0 : -2147483648 ≤ t0 ∧ t0 ≤ 2147483647) (p0 : y_V3 s) : z_T (fX11_reading_J112 fu s t0) (P_X11_reading_1K r0) := by
  refine T_of (fX11_reading_J112.eq_1 ..) ?_
  have u1 := CI_b c (k := 279) (j := 9) bd_279_9
  exact T_ret ⟨c, f, p0, Or.inl (⟨t0, rfl, by omega, by omega⟩)⟩
theorem nr_X3_letterCode_258__222 (b : Int) : ¬ R_X3_letterCode_258 222 b := not_false
theorem nr_X3_letterCode_258__248 (b : Int) : ¬ R_X3_letterCode_258 248 b := not_false
theorem sj_X11_reading_1K_J90 {fu : Nat} (hfu : 8589934592 ≤ fu) (r0 s : z_M) (c : z_CI s) (f : z_Fr R_X11_reading_1 r0 s) (t0 : Int) (d0 : -2147483648 ≤ t0 ∧ t0 ≤ 2147483647) (p0 : y_V3 s) : z_T (fX11_reading_J90 fu s t0) (P_X11_reading_1K r0) := by
  refine T_of (fX11_reading_J90.eq_1 ..) ?_
  have u1 := CI_b c (k := 279) (j := 9) bd_279_9
  exact T_ret ⟨c, f, p0, Or.inl (⟨t0, rfl, by omega, by omega⟩)⟩
theorem sj_X11_reading_1K_J64 {fu : Nat} (hfu : 8589934592 ≤ fu) (r0 s : z_M) (c : z_CI s) (f : z_Fr R_X11_reading_1 r0 s) (a1 : Int) (a2 : Int) (a3 : Int) (a4 : Int) (t0 : Int) (b1 : -2147483648 ≤ a1 ∧ a1 ≤ 2147483647) (b2 : -2147483648 ≤ a2 ∧ a2 ≤ 2147483647) (b3 : -2147483648 ≤ a3 ∧ a3 ≤ 2147483647) (b4 : -2147483648 ≤ a4 ∧ a4 ≤ 2147483647) (d0 : 0 ≤ t0 ∧ t0 ≤ 1) (p0 : y_V3 s) : z_T (fX11_reading_J64 fu s 1 a1 a2 a3 a4 t0) (P_X11_reading_1K r0) := by
  refine T_of (fX11_reading_J64.eq_1 ..) ?_
  have u1 := CI_b c (k := 279) (j := 9) bd_279_9
  refine T_ite (fun h2 => ?_) (fun h2 => ?_)
  · refine T_ite (fun h3 => ?_) (fun h3 => ?_)
    · refine T_if1 (by decide +kernel) ?_
      refine T_let 258 (by decide +kernel) ?_
      refine T_if1 (by decide +kernel) ?_
      refine T_useI (sf_X3_letterPlace_258 hfu s c a1 a2 a3 (by omega) (by omega) (by omega)) (fun v9 s4 hq => ?_)
      obtain ⟨c5, f6, ⟨x8, rfl, b10, b11⟩⟩ := hq
      refine T_vI ?_
      have f7 := z_Fr.tr (R := R_X11_reading_1) f f6 (fun a b h => absurd h not_false)
      have t12 : s4 279 9 = s 279 9 := f6 279 9 (by decide)
      have r13 := y_V3.fr p0 (f6 1 16 (by decide)) (f6 1 17 (by decide)) (f6 191 16 (by decide)) (f6 6 6 (by decide)) (f6 191 17 (by decide)) (f6 191 18 (by decide)) (fun b => f6 3 b (nr_X3_letterPlace_258__3 b)) (fun b => f6 8 b (nr_X3_letterPlace_258__8 b)) (fun b => f6 12 b (nr_X3_letterPlace_258__12 b)) (fun b => f6 14 b (nr_X3_letterPlace_258__14 b)) (fun b => f6 16 b (nr_X3_letterPlace_258__16 b)) (fun b => f6 18 b (nr_X3_letterPlace_258__18 b)) (fun b => f6 193 b (nr_X3_letterPlace_258__193 b)) (fun b => f6 195 b (nr_X3_letterPlace_258__195 b)) (fun b => f6 197 b (nr_X3_letterPlace_258__197 b)) (fun b => f6 199 b (nr_X3_letterPlace_258__199 b)) (fun b => f6 201 b (nr_X3_letterPlace_258__201 b)) (fun b => f6 203 b (nr_X3_letterPlace_258__203 b)) (fun b => f6 205 b (nr_X3_letterPlace_258__205 b)) (fun b => f6 207 b (nr_X3_letterPlace_258__207 b)) (fun b => f6 209 b (nr_X3_letterPlace_258__209 b)) (fun b => f6 211 b (nr_X3_letterPlace_258__211 b)) (fun b => f6 213 b (nr_X3_letterPlace_258__213 b)) (fun b => f6 215 b (nr_X3_letterPlace_258__215 b)) (fun b => f6 217 b (nr_X3_letterPlace_258__217 b)) (fun b => f6 219 b (nr_X3_letterPlace_258__219 b)) (fun b => f6 222 b (nr_X3_letterPlace_258__222 b)) (f6 240 6 (by decide)) (fun b => f6 248 b (nr_X3_letterPlace_258__248 b))
      have r14 := y_B0.fr p0.1.1 (f6 211 0 (by decide)) (f6 213 0 (by decide))
      exact sj_X11_reading_1K_J112 hfu r0 s4 c5 f7 x8 (by omega) r13
    · exact sj_X11_reading_1K_J112 hfu r0 s c f (-1000) (by omega) p0
  · refine T_ite (fun h15 => ?_) (fun h15 => ?_)
    · refine T_if1 (by decide +kernel) ?_
      refine T_let 258 (by decide +kernel) ?_
      refine T_if1 (by decide +kernel) ?_
      refine T_useI (sf_X3_letterCode_258 hfu s c a1 a2 a3 (by omega) (by omega) (by omega)) (fun v21 s16 hq => ?_)
      obtain ⟨c17, f18, ⟨x20, rfl, b22, b23⟩⟩ := hq
      refine T_vI ?_
      have f19 := z_Fr.tr (R := R_X11_reading_1) f f18 (fun a b h => absurd h not_false)
      have t24 : s16 279 9 = s 279 9 := f18 279 9 (by decide)
      have r25 := y_V3.fr p0 (f18 1 16 (by decide)) (f18 1 17 (by decide)) (f18 191 16 (by decide)) (f18 6 6 (by decide)) (f18 191 17 (by decide)) (f18 191 18 (by decide)) (fun b => f18 3 b (nr_X3_letterCode_258__3 b)) (fun b => f18 8 b (nr_X3_letterCode_258__8 b)) (fun b => f18 12 b (nr_X3_letterCode_258__12 b)) (fun b => f18 14 b (nr_X3_letterCode_258__14 b)) (fun b => f18 16 b (nr_X3_letterCode_258__16 b)) (fun b => f18 18 b (nr_X3_letterCode_258__18 b)) (fun b => f18 193 b (nr_X3_letterCode_258__193 b)) (fun b => f18 195 b (nr_X3_letterCode_258__195 b)) (fun b => f18 197 b (nr_X3_letterCode_258__197 b)) (fun b => f18 199 b (nr_X3_letterCode_258__199 b)) (fun b => f18 201 b (nr_X3_letterCode_258__201 b)) (fun b => f18 203 b (nr_X3_letterCode_258__203 b)) (fun b => f18 205 b (nr_X3_letterCode_258__205 b)) (fun b => f18 207 b (nr_X3_letterCode_258__207 b)) (fun b => f18 209 b (nr_X3_letterCode_258__209 b)) (fun b => f18 211 b (nr_X3_letterCode_258__211 b)) (fun b => f18 213 b (nr_X3_letterCode_258__213 b)) (fun b => f18 215 b (nr_X3_letterCode_258__215 b)) (fun b => f18 217 b (nr_X3_letterCode_258__217 b)) (fun b => f18 219 b (nr_X3_letterCode_258__219 b)) (fun b => f18 222 b (nr_X3_letterCode_258__222 b)) (f18 240 6 (by decide)) (fun b => f18 248 b (nr_X3_letterCode_258__248 b))
      have r26 := y_B0.fr p0.1.1 (f18 211 0 (by decide)) (f18 213 0 (by decide))
      exact sj_X11_reading_1K_J90 hfu r0 s16 c17 f19 x20 (by omega) r25
    · exact sj_X11_reading_1K_J90 hfu r0 s c f (-1) (by omega) p0
set_option maxHeartbeats 4000000 in
theorem sf_X11_reading_1K {fu : Nat} (hfu : 8589934592 ≤ fu) (r0 : z_M) (c0 : z_CI r0) (a1 : Int) (a2 : Int) (a3 : Int) (a4 : Int) (b1 : -2147483648 ≤ a1 ∧ a1 ≤ 2147483647) (b2 : -2147483648 ≤ a2 ∧ a2 ≤ 2147483647) (b3 : -2147483648 ≤ a3 ∧ a3 ≤ 2147483647) (b4 : -2147483648 ≤ a4 ∧ a4 ≤ 2147483647) (p0 : y_V3 r0) : z_T (fX11_reading fu r0 1 a1 a2 a3 a4) (P_X11_reading_1K r0) := by
  refine T_of (fX11_reading.eq_1 ..) ?_
  refine T_if1 (by decide +kernel) ?_
  refine T_useN (sf_X11_refresh_1K hfu r0 c0 p0) (fun v6 s1 hq => ?_)
  obtain ⟨c2, f3, o7, o8, rfl⟩ := hq
  refine T_vN ?_
  have f4 := z_Fr.tr (R := R_X11_reading_1) z_Fr.rf f3 rs_X11_refresh_1__X11_reading_1
  have u11 := CI_b c2 (k := 279) (j := 9) bd_279_9
  refine T_if1 (by decide +kernel) ?_
  refine T_let 258 (by decide +kernel) ?_
  refine T_if1 (by decide +kernel) ?_
  refine T_let 279 (by decide +kernel) ?_
  refine T_if1 (by decide +kernel) ?_
  refine T_leq (fun x12 e13 => ?_)
  have u14 := CI_b c2 (k := 279) (j := 9) bd_279_9
  refine T_if1 (by decide +kernel) ?_
  refine T_ne ?_ (fun h15 h16 => ?_)
  · exact T_ret ⟨CI_up c2 bd_1_14 (z_wb rfl).1, z_Fr.upf (R := R_X11_reading_1) f4 (fun a b h => z_up_k h) (fun b h => z_up_j h) (Or.inr (Or.inr (Or.inr (Or.inr (Or.inr (Or.inr (Or.inr (Or.inl (⟨rfl, by decide⟩))))))))), y_V3.u (y_U3.fr o7 (z_up_k (by decide)) (z_up_k (by decide)) (z_up_k (by decide)) (z_up_k (by decide)) (fun _ => z_up_k (by decide)) (fun _ => z_up_k (by decide)) (fun _ => z_up_k (by decide)) (fun _ => z_up_k (by decide)) (fun _ => z_up_k (by decide)) (fun _ => z_up_k (by decide)) (fun _ => z_up_k (by decide)) (fun _ => z_up_k (by decide)) (fun _ => z_up_k (by decide)) (fun _ => z_up_k (by decide)) (fun _ => z_up_k (by decide)) (fun _ => z_up_k (by decide)) (fun _ => z_up_k (by decide)) (fun _ => z_up_k (by decide)) (fun _ => z_up_k (by decide)) (fun _ => z_up_k (by decide)) (fun _ => z_up_k (by decide)) (fun _ => z_up_k (by decide)) (fun _ => z_up_k (by decide)) (fun _ => z_up_k (by decide)) (fun _ => z_up_k (by decide))) (y_L3.fr (show y_L3 s1 from (Or.inr o8)) (z_up_j (by decide)) (z_up_k (by decide)) (z_up_k (by decide)) (z_up_k (by decide)) (z_up_k (by decide)) (fun _ => z_up_k (by decide)) (fun _ => z_up_k (by decide)) (fun _ => z_up_k (by decide)) (fun _ => z_up_k (by decide)) (fun _ => z_up_k (by decide)) (fun _ => z_up_k (by decide)) (fun _ => z_up_k (by decide)) (fun _ => z_up_k (by decide)) (fun _ => z_up_k (by decide)) (fun _ => z_up_k (by decide)) (fun _ => z_up_k (by decide)) (fun _ => z_up_k (by decide)) (fun _ => z_up_k (by decide)) (fun _ => z_up_k (by decide)) (fun _ => z_up_k (by decide)) (fun _ => z_up_k (by decide)) (fun _ => z_up_k (by decide)) (fun _ => z_up_k (by decide)) (fun _ => z_up_k (by decide)) (fun _ => z_up_k (by decide)) (z_up_k (by decide)) (fun _ => z_up_k (by decide))), Or.inr (Or.inl rfl)⟩
  refine T_if1 (by decide +kernel) ?_
  refine T_nw ?_ (fun h17 h18 => ?_)
  · exact T_ret ⟨CI_up c2 bd_1_15 (z_wb rfl).1, z_Fr.upf (R := R_X11_reading_1) f4 (fun a b h => z_up_k h) (fun b h => z_up_j h) (Or.inr (Or.inr (Or.inr (Or.inr (Or.inr (Or.inr (Or.inr (Or.inl (⟨rfl, by decide⟩))))))))), y_V3.u (y_U3.fr o7 (z_up_k (by decide)) (z_up_k (by decide)) (z_up_k (by decide)) (z_up_k (by decide)) (fun _ => z_up_k (by decide)) (fun _ => z_up_k (by decide)) (fun _ => z_up_k (by decide)) (fun _ => z_up_k (by decide)) (fun _ => z_up_k (by decide)) (fun _ => z_up_k (by decide)) (fun _ => z_up_k (by decide)) (fun _ => z_up_k (by decide)) (fun _ => z_up_k (by decide)) (fun _ => z_up_k (by decide)) (fun _ => z_up_k (by decide)) (fun _ => z_up_k (by decide)) (fun _ => z_up_k (by decide)) (fun _ => z_up_k (by decide)) (fun _ => z_up_k (by decide)) (fun _ => z_up_k (by decide)) (fun _ => z_up_k (by decide)) (fun _ => z_up_k (by decide)) (fun _ => z_up_k (by decide)) (fun _ => z_up_k (by decide)) (fun _ => z_up_k (by decide))) (y_L3.fr (show y_L3 s1 from (Or.inr o8)) (z_up_j (by decide)) (z_up_k (by decide)) (z_up_k (by decide)) (z_up_k (by decide)) (z_up_k (by decide)) (fun _ => z_up_k (by decide)) (fun _ => z_up_k (by decide)) (fun _ => z_up_k (by decide)) (fun _ => z_up_k (by decide)) (fun _ => z_up_k (by decide)) (fun _ => z_up_k (by decide)) (fun _ => z_up_k (by decide)) (fun _ => z_up_k (by decide)) (fun _ => z_up_k (by decide)) (fun _ => z_up_k (by decide)) (fun _ => z_up_k (by decide)) (fun _ => z_up_k (by decide)) (fun _ => z_up_k (by decide)) (fun _ => z_up_k (by decide)) (fun _ => z_up_k (by decide)) (fun _ => z_up_k (by decide)) (fun _ => z_up_k (by decide)) (fun _ => z_up_k (by decide)) (fun _ => z_up_k (by decide)) (fun _ => z_up_k (by decide)) (z_up_k (by decide)) (fun _ => z_up_k (by decide))), Or.inr (Or.inr rfl)⟩
  refine T_if1 (by decide +kernel) ?_
  refine T_nw ?_ (fun h19 h20 => ?_)
  · exact T_ret ⟨CI_up c2 bd_1_15 (z_wb rfl).1, z_Fr.upf (R := R_X11_reading_1) f4 (fun a b h => z_up_k h) (fun b h => z_up_j h) (Or.inr (Or.inr (Or.inr (Or.inr (Or.inr (Or.inr (Or.inr (Or.inl (⟨rfl, by decide⟩))))))))), y_V3.u (y_U3.fr o7 (z_up_k (by decide)) (z_up_k (by decide)) (z_up_k (by decide)) (z_up_k (by decide)) (fun _ => z_up_k (by decide)) (fun _ => z_up_k (by decide)) (fun _ => z_up_k (by decide)) (fun _ => z_up_k (by decide)) (fun _ => z_up_k (by decide)) (fun _ => z_up_k (by decide)) (fun _ => z_up_k (by decide)) (fun _ => z_up_k (by decide)) (fun _ => z_up_k (by decide)) (fun _ => z_up_k (by decide)) (fun _ => z_up_k (by decide)) (fun _ => z_up_k (by decide)) (fun _ => z_up_k (by decide)) (fun _ => z_up_k (by decide)) (fun _ => z_up_k (by decide)) (fun _ => z_up_k (by decide)) (fun _ => z_up_k (by decide)) (fun _ => z_up_k (by decide)) (fun _ => z_up_k (by decide)) (fun _ => z_up_k (by decide)) (fun _ => z_up_k (by decide))) (y_L3.fr (show y_L3 s1 from (Or.inr o8)) (z_up_j (by decide)) (z_up_k (by decide)) (z_up_k (by decide)) (z_up_k (by decide)) (z_up_k (by decide)) (fun _ => z_up_k (by decide)) (fun _ => z_up_k (by decide)) (fun _ => z_up_k (by decide)) (fun _ => z_up_k (by decide)) (fun _ => z_up_k (by decide)) (fun _ => z_up_k (by decide)) (fun _ => z_up_k (by decide)) (fun _ => z_up_k (by decide)) (fun _ => z_up_k (by decide)) (fun _ => z_up_k (by decide)) (fun _ => z_up_k (by decide)) (fun _ => z_up_k (by decide)) (fun _ => z_up_k (by decide)) (fun _ => z_up_k (by decide)) (fun _ => z_up_k (by decide)) (fun _ => z_up_k (by decide)) (fun _ => z_up_k (by decide)) (fun _ => z_up_k (by decide)) (fun _ => z_up_k (by decide)) (fun _ => z_up_k (by decide)) (z_up_k (by decide)) (fun _ => z_up_k (by decide))), Or.inr (Or.inr rfl)⟩
  refine T_if1 (by decide +kernel) ?_
  refine T_nw ?_ (fun h21 h22 => ?_)
  · exact T_ret ⟨CI_up c2 bd_1_15 (z_wb rfl).1, z_Fr.upf (R := R_X11_reading_1) f4 (fun a b h => z_up_k h) (fun b h => z_up_j h) (Or.inr (Or.inr (Or.inr (Or.inr (Or.inr (Or.inr (Or.inr (Or.inl (⟨rfl, by decide⟩))))))))), y_V3.u (y_U3.fr o7 (z_up_k (by decide)) (z_up_k (by decide)) (z_up_k (by decide)) (z_up_k (by decide)) (fun _ => z_up_k (by decide)) (fun _ => z_up_k (by decide)) (fun _ => z_up_k (by decide)) (fun _ => z_up_k (by decide)) (fun _ => z_up_k (by decide)) (fun _ => z_up_k (by decide)) (fun _ => z_up_k (by decide)) (fun _ => z_up_k (by decide)) (fun _ => z_up_k (by decide)) (fun _ => z_up_k (by decide)) (fun _ => z_up_k (by decide)) (fun _ => z_up_k (by decide)) (fun _ => z_up_k (by decide)) (fun _ => z_up_k (by decide)) (fun _ => z_up_k (by decide)) (fun _ => z_up_k (by decide)) (fun _ => z_up_k (by decide)) (fun _ => z_up_k (by decide)) (fun _ => z_up_k (by decide)) (fun _ => z_up_k (by decide)) (fun _ => z_up_k (by decide))) (y_L3.fr (show y_L3 s1 from (Or.inr o8)) (z_up_j (by decide)) (z_up_k (by decide)) (z_up_k (by decide)) (z_up_k (by decide)) (z_up_k (by decide)) (fun _ => z_up_k (by decide)) (fun _ => z_up_k (by decide)) (fun _ => z_up_k (by decide)) (fun _ => z_up_k (by decide)) (fun _ => z_up_k (by decide)) (fun _ => z_up_k (by decide)) (fun _ => z_up_k (by decide)) (fun _ => z_up_k (by decide)) (fun _ => z_up_k (by decide)) (fun _ => z_up_k (by decide)) (fun _ => z_up_k (by decide)) (fun _ => z_up_k (by decide)) (fun _ => z_up_k (by decide)) (fun _ => z_up_k (by decide)) (fun _ => z_up_k (by decide)) (fun _ => z_up_k (by decide)) (fun _ => z_up_k (by decide)) (fun _ => z_up_k (by decide)) (fun _ => z_up_k (by decide)) (fun _ => z_up_k (by decide)) (z_up_k (by decide)) (fun _ => z_up_k (by decide))), Or.inr (Or.inr rfl)⟩
  refine T_if1 (by decide +kernel) ?_
  refine T_let 258 (by decide +kernel) ?_
  refine T_if1 (by decide +kernel) ?_
  refine T_let 279 (by decide +kernel) ?_
  refine T_if1 (by decide +kernel) ?_
  refine T_useI (sf_X0_letters_279 hfu s1 c2 a1 a2 (by omega) (by omega)) (fun v28 s23 hq => ?_)
  obtain ⟨c24, f25, ⟨x27, rfl, b29, b30⟩⟩ := hq
  refine T_vI ?_
  have f26 := z_Fr.tr (R := R_X11_reading_1) f4 f25 (fun a b h => absurd h not_false)
  have t31 : s23 279 9 = s1 279 9 := f25 279 9 (by decide)
  have r32 := y_U3.fr o7 (f25 191 16 (by decide)) (f25 6 6 (by decide)) (f25 191 17 (by decide)) (f25 191 18 (by decide)) (fun b => f25 3 b (nr_X0_letters_279__3 b)) (fun b => f25 8 b (nr_X0_letters_279__8 b)) (fun b => f25 12 b (nr_X0_letters_279__12 b)) (fun b => f25 14 b (nr_X0_letters_279__14 b)) (fun b => f25 16 b (nr_X0_letters_279__16 b)) (fun b => f25 18 b (nr_X0_letters_279__18 b)) (fun b => f25 193 b (nr_X0_letters_279__193 b)) (fun b => f25 195 b (nr_X0_letters_279__195 b)) (fun b => f25 197 b (nr_X0_letters_279__197 b)) (fun b => f25 199 b (nr_X0_letters_279__199 b)) (fun b => f25 201 b (nr_X0_letters_279__201 b)) (fun b => f25 203 b (nr_X0_letters_279__203 b)) (fun b => f25 205 b (nr_X0_letters_279__205 b)) (fun b => f25 207 b (nr_X0_letters_279__207 b)) (fun b => f25 209 b (nr_X0_letters_279__209 b)) (fun b => f25 211 b (nr_X0_letters_279__211 b)) (fun b => f25 213 b (nr_X0_letters_279__213 b)) (fun b => f25 215 b (nr_X0_letters_279__215 b)) (fun b => f25 217 b (nr_X0_letters_279__217 b)) (fun b => f25 219 b (nr_X0_letters_279__219 b)) (fun b => f25 222 b (nr_X0_letters_279__222 b))
  have r33 := y_SA.fr o8 (f25 191 16 (by decide)) (f25 6 6 (by decide)) (f25 191 17 (by decide)) (f25 191 18 (by decide)) (fun b => f25 3 b (nr_X0_letters_279__3 b)) (fun b => f25 8 b (nr_X0_letters_279__8 b)) (fun b => f25 12 b (nr_X0_letters_279__12 b)) (fun b => f25 14 b (nr_X0_letters_279__14 b)) (fun b => f25 16 b (nr_X0_letters_279__16 b)) (fun b => f25 18 b (nr_X0_letters_279__18 b)) (fun b => f25 193 b (nr_X0_letters_279__193 b)) (fun b => f25 195 b (nr_X0_letters_279__195 b)) (fun b => f25 197 b (nr_X0_letters_279__197 b)) (fun b => f25 199 b (nr_X0_letters_279__199 b)) (fun b => f25 201 b (nr_X0_letters_279__201 b)) (fun b => f25 203 b (nr_X0_letters_279__203 b)) (fun b => f25 205 b (nr_X0_letters_279__205 b)) (fun b => f25 207 b (nr_X0_letters_279__207 b)) (fun b => f25 209 b (nr_X0_letters_279__209 b)) (fun b => f25 211 b (nr_X0_letters_279__211 b)) (fun b => f25 213 b (nr_X0_letters_279__213 b)) (fun b => f25 215 b (nr_X0_letters_279__215 b)) (fun b => f25 217 b (nr_X0_letters_279__217 b)) (fun b => f25 219 b (nr_X0_letters_279__219 b)) (f25 240 6 (by decide)) (fun b => f25 248 b (nr_X0_letters_279__248 b))
  have r34 := y_B0.fr o7.1.1 (f25 211 0 (by decide)) (f25 213 0 (by decide))
  refine T_ite (fun h35 => ?_) (fun h35 => ?_)
  · exact sj_X11_reading_1K_J64 hfu r0 s23 c24 f26 a1 a2 a3 a4 0 (by omega) (by omega) (by omega) (by omega) (by omega) (y_V3.u r32 (Or.inr r33))
  · exact sj_X11_reading_1K_J64 hfu r0 s23 c24 f26 a1 a2 a3 a4 1 (by omega) (by omega) (by omega) (by omega) (by omega) (y_V3.u r32 (Or.inr r33))
abbrev P_X11_run_1K (r0 : z_M) : z_V → z_M → Prop := fun v s' => z_CI s' ∧ z_Fr R_X11_run_1 r0 s' ∧ (y_V3 s') ∧ ((∃ x, v = vI x ∧ -2147483648 ≤ x ∧ x ≤ 2147483647) ∨ v = vX 1)
theorem sj_X11_run_1K_J111 {fu : Nat} (hfu : 8589934592 ≤ fu) (r0 s : z_M) (c : z_CI s) (f : z_Fr R_X11_run_1 r0 s) (a1 : Int) (a2 : Int) (a3 : Int) (a4 : Int) (a5 : Int) (b1 : -2147483648 ≤ a1 ∧ a1 ≤ 2147483647) (b2 : -2147483648 ≤ a2 ∧ a2 ≤ 2147483647) (b3 : -2147483648 ≤ a3 ∧ a3 ≤ 2147483647) (b4 : -2147483648 ≤ a4 ∧ a4 ≤ 2147483647) (b5 : -2147483648 ≤ a5 ∧ a5 ≤ 2147483646) (p0 : y_V3 s) (M : Int) (pm : 2147483647 - a5 ≤ M) {r : z_M → Int → Int → Int → z_O} {k : z_M → z_O} (hr : ∀ (s' : z_M) (v3 : Int) (v4 : Int) (v5 : Int), z_CI s' → z_Fr R_X11_run_1 r0 s' → (-2147483648 ≤ v3 ∧ v3 ≤ 2147483647) → (-2147483648 ≤ v4 ∧ v4 ≤ 2147483647) → (-2147483648 ≤ v5 ∧ v5 ≤ 2147483647) → (y_V3 s') → (2147483647 - v5 < M) → z_T (r s' v3 v4 v5) (P_X11_run_1K r0)) (hk : ∀ (s' : z_M), z_CI s' → z_Fr R_X11_run_1 r0 s' → (y_V3 s') → z_T (k s') (P_X11_run_1K r0)) : z_T (fX11_run_J111 fu s 1 a1 a2 a3 a4 a5 r k) (P_X11_run_1K r0) := by
  refine T_of (fX11_run_J111.eq_1 ..) ?_
  have u1 := CI_b c (k := 6) (j := 6) bd_6_6
  refine T_leq (fun x2 e3 => ?_)
  have w4 := z_wb e3
  exact hr s a3 a4 x2 c f (by omega) (by omega) (by omega) p0 (by omega)
theorem sj_X11_run_1K_J103 {fu : Nat} (hfu : 8589934592 ≤ fu) (r0 s : z_M) (c : z_CI s) (f : z_Fr R_X11_run_1 r0 s) (t0 : Int) (a1 : Int) (a2 : Int) (d0 : -2147483648 ≤ t0 ∧ t0 ≤ 2147483647) (e1 : -2147483648 ≤ a1 ∧ a1 ≤ 2147483647) (e2 : -2147483648 ≤ a2 ∧ a2 ≤ 2147483647) (p0 : y_V3 s) (M : Int) (pm : (0 : Int) ≤ 0) {r : z_M → Int → Int → Int → z_O} {k : z_M → z_O} (hr : ∀ (s' : z_M) (v3 : Int) (v4 : Int) (v5 : Int), z_CI s' → z_Fr R_X11_run_1 r0 s' → (-2147483648 ≤ v3 ∧ v3 ≤ 2147483647) → (-2147483648 ≤ v4 ∧ v4 ≤ 2147483647) → (-2147483648 ≤ v5 ∧ v5 ≤ 2147483647) → (y_V3 s') → (2147483647 - v5 < M) → z_T (r s' v3 v4 v5) (P_X11_run_1K r0)) (hk : ∀ (s' : z_M), z_CI s' → z_Fr R_X11_run_1 r0 s' → (y_V3 s') → z_T (k s') (P_X11_run_1K r0)) : z_T (fX11_run_J103 fu s t0 r k) (P_X11_run_1K r0) := by
  refine T_of (fX11_run_J103.eq_1 ..) ?_
  have u1 := CI_b c (k := 6) (j := 6) bd_6_6
  exact T_ret ⟨c, f, p0, Or.inl (⟨t0, rfl, by omega, by omega⟩)⟩
theorem sj_X11_run_1K_J74 {fu : Nat} (hfu : 8589934592 ≤ fu) (r0 s : z_M) (c : z_CI s) (f : z_Fr R_X11_run_1 r0 s) (a1 : Int) (a2 : Int) (a3 : Int) (a4 : Int) (a5 : Int) (a6 : Int) (b1 : -2147483648 ≤ a1 ∧ a1 ≤ 2147483647) (b2 : -2147483648 ≤ a2 ∧ a2 ≤ 2147483647) (b3 : -2147483648 ≤ a3 ∧ a3 ≤ 2147483647) (b4 : -2147483648 ≤ a4 ∧ a4 ≤ 2147483647) (b5 : -2147483648 ≤ a5 ∧ a5 ≤ 2147483646) (b6 : -2147483648 ≤ a6 ∧ a6 ≤ 2147483647) (p0 : y_V3 s) (M : Int) (pm : 2147483647 - a5 ≤ M) {r : z_M → Int → Int → Int → z_O} {k : z_M → z_O} (hr : ∀ (s' : z_M) (v3 : Int) (v4 : Int) (v5 : Int), z_CI s' → z_Fr R_X11_run_1 r0 s' → (-2147483648 ≤ v3 ∧ v3 ≤ 2147483647) → (-2147483648 ≤ v4 ∧ v4 ≤ 2147483647) → (-2147483648 ≤ v5 ∧ v5 ≤ 2147483647) → (y_V3 s') → (2147483647 - v5 < M) → z_T (r s' v3 v4 v5) (P_X11_run_1K r0)) (hk : ∀ (s' : z_M), z_CI s' → z_Fr R_X11_run_1 r0 s' → (y_V3 s') → z_T (k s') (P_X11_run_1K r0)) : z_T (fX11_run_J74 fu s 1 a1 a2 a3 a4 a5 a6 r k) (P_X11_run_1K r0) := by
  refine T_of (fX11_run_J74.eq_1 ..) ?_
  have u1 := CI_b c (k := 6) (j := 6) bd_6_6
  refine T_ite (fun h2 => ?_) (fun h2 => ?_)
  · refine T_leq (fun x3 e4 => ?_)
    have w5 := z_wb e4
    exact sj_X11_run_1K_J111 hfu r0 s c f a1 a2 x3 a5 a5 (by omega) (by omega) (by omega) (by omega) (by omega) p0 M (by omega) (fun s' v3 v4 v5 c' f' w3 w4 w5 z0 pg => hr s' v3 v4 v5 c' f' w3 w4 w5 z0 (by omega)) hk
  · refine T_ite (fun h6 => ?_) (fun h6 => ?_)
    · refine T_ite (fun h7 => ?_) (fun h7 => ?_)
      · exact sj_X11_run_1K_J103 hfu r0 s c f a6 a1 a2 (by omega) (by omega) (by omega) p0 M (by omega) (fun s' v3 v4 v5 c' f' w3 w4 w5 z0 pg => hr s' v3 v4 v5 c' f' w3 w4 w5 z0 (by omega)) hk
      · refine T_leq (fun x8 e9 => ?_)
        have w10 := z_wr e9
        exact sj_X11_run_1K_J103 hfu r0 s c f x8 a1 a2 (by omega) (by omega) (by omega) p0 M (by omega) (fun s' v3 v4 v5 c' f' w3 w4 w5 z0 pg => hr s' v3 v4 v5 c' f' w3 w4 w5 z0 (by omega)) hk
    · exact sj_X11_run_1K_J103 hfu r0 s c f a4 a1 a2 (by omega) (by omega) (by omega) p0 M (by omega) (fun s' v3 v4 v5 c' f' w3 w4 w5 z0 pg => hr s' v3 v4 v5 c' f' w3 w4 w5 z0 (by omega)) hk
theorem sl_X11_run_1K_L19 {fu : Nat} (hfu : 8589934592 ≤ fu) (r0 : z_M) (a1 : Int) (a2 : Int) (b1 : -2147483648 ≤ a1 ∧ a1 ≤ 2147483647) (b2 : -2147483648 ≤ a2 ∧ a2 ≤ 2147483647) {k : z_M → z_O} (hk : ∀ (s' : z_M), z_CI s' → z_Fr R_X11_run_1 r0 s' → (y_V3 s') → z_T (k s') (P_X11_run_1K r0)) : ∀ (F : Nat) (s : z_M) (a3 : Int) (a4 : Int) (a5 : Int), z_CI s → z_Fr R_X11_run_1 r0 s → (-2147483648 ≤ a3 ∧ a3 ≤ 2147483647) → (-2147483648 ≤ a4 ∧ a4 ≤ 2147483647) → (-2147483648 ≤ a5 ∧ a5 ≤ 2147483647) → (y_V3 s) → (2147483647 - a5 < (F : Int)) → z_T (fX11_run_L19 fu 1 a1 a2 F s a3 a4 a5 k) (P_X11_run_1K r0) := by
  intro F
  induction F with
  | zero =>
    intro s a3 a4 a5 c f b3 b4 b5 i0 hm
    have u21 := CI_b c (k := 6) (j := 6) bd_6_6
    exfalso; omega
  | succ F ih =>
    intro s a3 a4 a5 c f b3 b4 b5 i0 hm
    refine T_of (fX11_run_L19.eq_2 ..) ?_
    have u1 := CI_b c (k := 6) (j := 6) bd_6_6
    refine T_if1 (by decide +kernel) ?_
    refine T_let 6 (by decide +kernel) ?_
    refine T_if1 (by decide +kernel) ?_
    refine T_leq (fun x2 e3 => ?_)
    have u4 := CI_b c (k := 6) (j := 6) bd_6_6
    refine T_ite (fun h5 => ?_) (fun h5 => ?_)
    · exact hk s c f i0
    · refine T_if1 (by decide +kernel) ?_
      refine T_let 191 (by decide +kernel) ?_
      refine T_if1 (by decide +kernel) ?_
      refine T_let 218 (by decide +kernel) ?_
      refine T_if1 (by decide +kernel) ?_
      refine T_get (by decide +kernel) (c := 219) (by decide +kernel) bdr_219 (by decide) c (fun x6 e7 b8 w9 => ?_)
      have l10 : z_ln 218 = 200 := by decide +kernel
      refine T_if1 (by decide +kernel) ?_
      refine T_let 6 (by decide +kernel) ?_
      refine T_if1 (by decide +kernel) ?_
      refine T_leq (fun x11 e12 => ?_)
      have u13 := CI_b c (k := 6) (j := 6) bd_6_6
      refine T_ite (fun h14 => ?_) (fun h14 => ?_)
      · exact sj_X11_run_1K_J74 hfu r0 s c f a1 a2 a3 a4 a5 x6 (by omega) (by omega) (by omega) (by omega) (by omega) (by omega) i0 (2147483647 - a5) (by omega) (fun s' v3 v4 v5 c' f' w3 w4 w5 z0 pg => ih s' v3 v4 v5 c' f' w3 w4 w5 z0 (by omega)) hk
      · refine T_if1 (by decide +kernel) ?_
        refine T_let 191 (by decide +kernel) ?_
        refine T_if1 (by decide +kernel) ?_
        refine T_let 218 (by decide +kernel) ?_
        refine T_if1 (by decide +kernel) ?_
        refine T_get (by decide +kernel) (c := 219) (by decide +kernel) bdr_219 (by decide) c (fun x15 e16 b17 w18 => ?_)
        have l19 : z_ln 218 = 200 := by decide +kernel
        refine T_ite (fun h20 => ?_) (fun h20 => ?_)
        · exact sj_X11_run_1K_J111 hfu r0 s c f a1 a2 a3 a4 a5 (by omega) (by omega) (by omega) (by omega) (by omega) i0 (2147483647 - a5) (by omega) (fun s' v3 v4 v5 c' f' w3 w4 w5 z0 pg => ih s' v3 v4 v5 c' f' w3 w4 w5 z0 (by omega)) hk
        · exact sj_X11_run_1K_J74 hfu r0 s c f a1 a2 a3 a4 a5 x6 (by omega) (by omega) (by omega) (by omega) (by omega) (by omega) i0 (2147483647 - a5) (by omega) (fun s' v3 v4 v5 c' f' w3 w4 w5 z0 pg => ih s' v3 v4 v5 c' f' w3 w4 w5 z0 (by omega)) hk
theorem sf_X11_run_1K {fu : Nat} (hfu : 8589934592 ≤ fu) (r0 : z_M) (c0 : z_CI r0) (a1 : Int) (a2 : Int) (b1 : -2147483648 ≤ a1 ∧ a1 ≤ 2147483647) (b2 : -2147483648 ≤ a2 ∧ a2 ≤ 2147483647) (p0 : y_V3 r0) : z_T (fX11_run fu r0 1 a1 a2) (P_X11_run_1K r0) := by
  refine T_of (fX11_run.eq_1 ..) ?_
  refine T_if1 (by decide +kernel) ?_
  refine T_nw ?_ (fun h1 h2 => ?_)
  · exact T_ret ⟨CI_up c0 bd_1_15 (z_wb rfl).1, z_Fr.upf (R := R_X11_run_1) z_Fr.rf (fun a b h => z_up_k h) (fun b h => z_up_j h) (Or.inr (Or.inr (Or.inr (Or.inr (Or.inr (Or.inr (Or.inr (Or.inl (⟨rfl, by decide⟩))))))))), y_V3.fr p0 (z_up_j (by decide)) (z_up_j (by decide)) (z_up_k (by decide)) (z_up_k (by decide)) (z_up_k (by decide)) (z_up_k (by decide)) (fun _ => z_up_k (by decide)) (fun _ => z_up_k (by decide)) (fun _ => z_up_k (by decide)) (fun _ => z_up_k (by decide)) (fun _ => z_up_k (by decide)) (fun _ => z_up_k (by decide)) (fun _ => z_up_k (by decide)) (fun _ => z_up_k (by decide)) (fun _ => z_up_k (by decide)) (fun _ => z_up_k (by decide)) (fun _ => z_up_k (by decide)) (fun _ => z_up_k (by decide)) (fun _ => z_up_k (by decide)) (fun _ => z_up_k (by decide)) (fun _ => z_up_k (by decide)) (fun _ => z_up_k (by decide)) (fun _ => z_up_k (by decide)) (fun _ => z_up_k (by decide)) (fun _ => z_up_k (by decide)) (fun _ => z_up_k (by decide)) (fun _ => z_up_k (by decide)) (z_up_k (by decide)) (fun _ => z_up_k (by decide)), Or.inr rfl⟩
  refine T_if1 (by decide +kernel) ?_
  refine T_useN (sf_X11_refresh_1K hfu r0 c0 p0) (fun v8 s3 hq => ?_)
  obtain ⟨c4, f5, o9, o10, rfl⟩ := hq
  refine T_vN ?_
  have f6 := z_Fr.tr (R := R_X11_run_1) z_Fr.rf f5 rs_X11_refresh_1__X11_run_1
  have t13 : s3 6 6 = r0 6 6 := f5 6 6 (by decide)
  refine sl_X11_run_1K_L19 hfu r0 a1 a2 (by omega) (by omega) (fun s14 c15 f16 g17 => ?_) fu s3 0 0 1 c4 f6 (by omega) (by omega) (by omega) (y_V3.u o9 (Or.inr o10)) (by omega)
  have u18 := CI_b c15 (k := 6) (j := 6) bd_6_6
  exact T_ret ⟨c15, f16, g17, Or.inl (⟨(-1), rfl, by omega, by omega⟩)⟩
abbrev P_X11_at_1K (r0 : z_M) : z_V → z_M → Prop := fun v s' => z_CI s' ∧ z_Fr R_X11_at_1 r0 s' ∧ (y_V3 s') ∧ ((∃ x, v = vI x ∧ -2147483648 ≤ x ∧ x ≤ 2147483647) ∨ v = vX 0)
theorem nr_X3_standingAt_258__222 (b : Int) : ¬ R_X3_standingAt_258 222 b := by
  unfold R_X3_standingAt_258; omega
theorem nr_X3_standingAt_258__248 (b : Int) : ¬ R_X3_standingAt_258 248 b := by
  unfold R_X3_standingAt_258; omega
theorem sf_X11_at_1K {fu : Nat} (hfu : 8589934592 ≤ fu) (r0 : z_M) (c0 : z_CI r0) (a1 : Int) (a2 : Int) (b1 : -2147483648 ≤ a1 ∧ a1 ≤ 2147483647) (b2 : -2147483648 ≤ a2 ∧ a2 ≤ 2147483647) (p0 : y_V3 r0) : z_T (fX11_at fu r0 1 a1 a2) (P_X11_at_1K r0) := by
  refine T_of (fX11_at.eq_1 ..) ?_
  refine T_if1 (by decide +kernel) ?_
  refine T_useN (sf_X11_refresh_1K hfu r0 c0 p0) (fun v6 s1 hq => ?_)
  obtain ⟨c2, f3, o7, o8, rfl⟩ := hq
  refine T_vN ?_
  have f4 := z_Fr.tr (R := R_X11_at_1) z_Fr.rf f3 rs_X11_refresh_1__X11_at_1
  have u11 := CI_b c2 (k := 240) (j := 6) bd_240_6
  refine T_if1 (by decide +kernel) ?_
  refine T_let 240 (by decide +kernel) ?_
  refine T_if1 (by decide +kernel) ?_
  refine T_leq (fun x12 e13 => ?_)
  have u14 := CI_b c2 (k := 240) (j := 6) bd_240_6
  refine T_if1 (by decide +kernel) ?_
  refine T_ne ?_ (fun h15 h16 => ?_)
  · exact T_ret ⟨CI_up c2 bd_1_14 (z_wb rfl).1, z_Fr.upf (R := R_X11_at_1) f4 (fun a b h => z_up_k h) (fun b h => z_up_j h) (Or.inr (Or.inr (Or.inr (Or.inr (Or.inr (Or.inr (Or.inr (Or.inl (⟨rfl, by decide⟩))))))))), y_V3.u (y_U3.fr o7 (z_up_k (by decide)) (z_up_k (by decide)) (z_up_k (by decide)) (z_up_k (by decide)) (fun _ => z_up_k (by decide)) (fun _ => z_up_k (by decide)) (fun _ => z_up_k (by decide)) (fun _ => z_up_k (by decide)) (fun _ => z_up_k (by decide)) (fun _ => z_up_k (by decide)) (fun _ => z_up_k (by decide)) (fun _ => z_up_k (by decide)) (fun _ => z_up_k (by decide)) (fun _ => z_up_k (by decide)) (fun _ => z_up_k (by decide)) (fun _ => z_up_k (by decide)) (fun _ => z_up_k (by decide)) (fun _ => z_up_k (by decide)) (fun _ => z_up_k (by decide)) (fun _ => z_up_k (by decide)) (fun _ => z_up_k (by decide)) (fun _ => z_up_k (by decide)) (fun _ => z_up_k (by decide)) (fun _ => z_up_k (by decide)) (fun _ => z_up_k (by decide))) (y_L3.fr (show y_L3 s1 from (Or.inr o8)) (z_up_j (by decide)) (z_up_k (by decide)) (z_up_k (by decide)) (z_up_k (by decide)) (z_up_k (by decide)) (fun _ => z_up_k (by decide)) (fun _ => z_up_k (by decide)) (fun _ => z_up_k (by decide)) (fun _ => z_up_k (by decide)) (fun _ => z_up_k (by decide)) (fun _ => z_up_k (by decide)) (fun _ => z_up_k (by decide)) (fun _ => z_up_k (by decide)) (fun _ => z_up_k (by decide)) (fun _ => z_up_k (by decide)) (fun _ => z_up_k (by decide)) (fun _ => z_up_k (by decide)) (fun _ => z_up_k (by decide)) (fun _ => z_up_k (by decide)) (fun _ => z_up_k (by decide)) (fun _ => z_up_k (by decide)) (fun _ => z_up_k (by decide)) (fun _ => z_up_k (by decide)) (fun _ => z_up_k (by decide)) (fun _ => z_up_k (by decide)) (z_up_k (by decide)) (fun _ => z_up_k (by decide))), Or.inr rfl⟩
  refine T_if1 (by decide +kernel) ?_
  refine T_let 258 (by decide +kernel) ?_
  refine T_if1 (by decide +kernel) ?_
  refine T_useI (sf_X3_standingAt_258 hfu s1 c2 a1 a2 (by omega) (by omega)) (fun v22 s17 hq => ?_)
  obtain ⟨c18, f19, ⟨x21, rfl, b23, b24⟩⟩ := hq
  refine T_vI ?_
  have f20 := z_Fr.tr (R := R_X11_at_1) f4 f19 rs_X3_standingAt_258__X11_at_1
  have t25 : s17 240 6 = s1 240 6 := f19 240 6 (by decide)
  have r26 := y_U3.fr o7 (f19 191 16 (by decide)) (f19 6 6 (by decide)) (f19 191 17 (by decide)) (f19 191 18 (by decide)) (fun b => f19 3 b (nr_X3_standingAt_258__3 b)) (fun b => f19 8 b (nr_X3_standingAt_258__8 b)) (fun b => f19 12 b (nr_X3_standingAt_258__12 b)) (fun b => f19 14 b (nr_X3_standingAt_258__14 b)) (fun b => f19 16 b (nr_X3_standingAt_258__16 b)) (fun b => f19 18 b (nr_X3_standingAt_258__18 b)) (fun b => f19 193 b (nr_X3_standingAt_258__193 b)) (fun b => f19 195 b (nr_X3_standingAt_258__195 b)) (fun b => f19 197 b (nr_X3_standingAt_258__197 b)) (fun b => f19 199 b (nr_X3_standingAt_258__199 b)) (fun b => f19 201 b (nr_X3_standingAt_258__201 b)) (fun b => f19 203 b (nr_X3_standingAt_258__203 b)) (fun b => f19 205 b (nr_X3_standingAt_258__205 b)) (fun b => f19 207 b (nr_X3_standingAt_258__207 b)) (fun b => f19 209 b (nr_X3_standingAt_258__209 b)) (fun b => f19 211 b (nr_X3_standingAt_258__211 b)) (fun b => f19 213 b (nr_X3_standingAt_258__213 b)) (fun b => f19 215 b (nr_X3_standingAt_258__215 b)) (fun b => f19 217 b (nr_X3_standingAt_258__217 b)) (fun b => f19 219 b (nr_X3_standingAt_258__219 b)) (fun b => f19 222 b (nr_X3_standingAt_258__222 b))
  have r27 := y_SA.fr o8 (f19 191 16 (by decide)) (f19 6 6 (by decide)) (f19 191 17 (by decide)) (f19 191 18 (by decide)) (fun b => f19 3 b (nr_X3_standingAt_258__3 b)) (fun b => f19 8 b (nr_X3_standingAt_258__8 b)) (fun b => f19 12 b (nr_X3_standingAt_258__12 b)) (fun b => f19 14 b (nr_X3_standingAt_258__14 b)) (fun b => f19 16 b (nr_X3_standingAt_258__16 b)) (fun b => f19 18 b (nr_X3_standingAt_258__18 b)) (fun b => f19 193 b (nr_X3_standingAt_258__193 b)) (fun b => f19 195 b (nr_X3_standingAt_258__195 b)) (fun b => f19 197 b (nr_X3_standingAt_258__197 b)) (fun b => f19 199 b (nr_X3_standingAt_258__199 b)) (fun b => f19 201 b (nr_X3_standingAt_258__201 b)) (fun b => f19 203 b (nr_X3_standingAt_258__203 b)) (fun b => f19 205 b (nr_X3_standingAt_258__205 b)) (fun b => f19 207 b (nr_X3_standingAt_258__207 b)) (fun b => f19 209 b (nr_X3_standingAt_258__209 b)) (fun b => f19 211 b (nr_X3_standingAt_258__211 b)) (fun b => f19 213 b (nr_X3_standingAt_258__213 b)) (fun b => f19 215 b (nr_X3_standingAt_258__215 b)) (fun b => f19 217 b (nr_X3_standingAt_258__217 b)) (fun b => f19 219 b (nr_X3_standingAt_258__219 b)) (f19 240 6 (by decide)) (fun b => f19 248 b (nr_X3_standingAt_258__248 b))
  have r28 := y_B0.fr o7.1.1 (f19 211 0 (by decide)) (f19 213 0 (by decide))
  exact T_ret ⟨c18, f20, (y_V3.u r26 (Or.inr r27)), Or.inl (⟨x21, rfl, by omega, by omega⟩)⟩
abbrev P_X11_ends_1K (r0 : z_M) : z_V → z_M → Prop := fun v s' => z_CI s' ∧ z_Fr R_X11_ends_1 r0 s' ∧ (y_V3 s') ∧ ((∃ x, v = vI x ∧ 0 ≤ x ∧ x ≤ 1) ∨ v = vX 0)
theorem sj_X11_ends_1K_J36 {fu : Nat} (hfu : 8589934592 ≤ fu) (r0 s : z_M) (c : z_CI s) (f : z_Fr R_X11_ends_1 r0 s) (t0 : Int) (d0 : 0 ≤ t0 ∧ t0 ≤ 1) (p0 : y_V3 s) : z_T (fX11_ends_J36 fu s t0) (P_X11_ends_1K r0) := by
  refine T_of (fX11_ends_J36.eq_1 ..) ?_
  have u1 := CI_b c (k := 191) (j := 16) bd_191_16
  refine T_if1 (by unfold z_bl; omega) ?_
  exact T_ret ⟨c, f, p0, Or.inl (⟨t0, rfl, by omega, by omega⟩)⟩
theorem sf_X11_ends_1K {fu : Nat} (hfu : 8589934592 ≤ fu) (r0 : z_M) (c0 : z_CI r0) (a1 : Int) (b1 : -2147483648 ≤ a1 ∧ a1 ≤ 2147483647) (p0 : y_V3 r0) : z_T (fX11_ends fu r0 1 a1) (P_X11_ends_1K r0) := by
  refine T_of (fX11_ends.eq_1 ..) ?_
  refine T_if1 (by decide +kernel) ?_
  refine T_useN (sf_X11_refresh_1K hfu r0 c0 p0) (fun v6 s1 hq => ?_)
  obtain ⟨c2, f3, o7, o8, rfl⟩ := hq
  refine T_vN ?_
  have f4 := z_Fr.tr (R := R_X11_ends_1) z_Fr.rf f3 rs_X11_refresh_1__X11_ends_1
  have u11 := CI_b c2 (k := 191) (j := 16) bd_191_16
  refine T_if1 (by decide +kernel) ?_
  refine T_let 191 (by decide +kernel) ?_
  refine T_if1 (by decide +kernel) ?_
  refine T_leq (fun x12 e13 => ?_)
  have u14 := CI_b c2 (k := 191) (j := 16) bd_191_16
  refine T_if1 (by decide +kernel) ?_
  refine T_ne ?_ (fun h15 h16 => ?_)
  · exact T_ret ⟨CI_up c2 bd_1_14 (z_wb rfl).1, z_Fr.upf (R := R_X11_ends_1) f4 (fun a b h => z_up_k h) (fun b h => z_up_j h) (Or.inr (Or.inr (Or.inr (Or.inr (Or.inr (Or.inr (Or.inr (Or.inl (⟨rfl, by decide⟩))))))))), y_V3.u (y_U3.fr o7 (z_up_k (by decide)) (z_up_k (by decide)) (z_up_k (by decide)) (z_up_k (by decide)) (fun _ => z_up_k (by decide)) (fun _ => z_up_k (by decide)) (fun _ => z_up_k (by decide)) (fun _ => z_up_k (by decide)) (fun _ => z_up_k (by decide)) (fun _ => z_up_k (by decide)) (fun _ => z_up_k (by decide)) (fun _ => z_up_k (by decide)) (fun _ => z_up_k (by decide)) (fun _ => z_up_k (by decide)) (fun _ => z_up_k (by decide)) (fun _ => z_up_k (by decide)) (fun _ => z_up_k (by decide)) (fun _ => z_up_k (by decide)) (fun _ => z_up_k (by decide)) (fun _ => z_up_k (by decide)) (fun _ => z_up_k (by decide)) (fun _ => z_up_k (by decide)) (fun _ => z_up_k (by decide)) (fun _ => z_up_k (by decide)) (fun _ => z_up_k (by decide))) (y_L3.fr (show y_L3 s1 from (Or.inr o8)) (z_up_j (by decide)) (z_up_k (by decide)) (z_up_k (by decide)) (z_up_k (by decide)) (z_up_k (by decide)) (fun _ => z_up_k (by decide)) (fun _ => z_up_k (by decide)) (fun _ => z_up_k (by decide)) (fun _ => z_up_k (by decide)) (fun _ => z_up_k (by decide)) (fun _ => z_up_k (by decide)) (fun _ => z_up_k (by decide)) (fun _ => z_up_k (by decide)) (fun _ => z_up_k (by decide)) (fun _ => z_up_k (by decide)) (fun _ => z_up_k (by decide)) (fun _ => z_up_k (by decide)) (fun _ => z_up_k (by decide)) (fun _ => z_up_k (by decide)) (fun _ => z_up_k (by decide)) (fun _ => z_up_k (by decide)) (fun _ => z_up_k (by decide)) (fun _ => z_up_k (by decide)) (fun _ => z_up_k (by decide)) (fun _ => z_up_k (by decide)) (z_up_k (by decide)) (fun _ => z_up_k (by decide))), Or.inr rfl⟩
  refine T_if1 (by decide +kernel) ?_
  refine T_let 191 (by decide +kernel) ?_
  refine T_if1 (by decide +kernel) ?_
  refine T_let 208 (by decide +kernel) ?_
  refine T_if1 (by decide +kernel) ?_
  refine T_get (by decide +kernel) (c := 209) (by decide +kernel) bdr_209 (by decide) c2 (fun x17 e18 b19 w20 => ?_)
  have l21 : z_ln 208 = 200 := by decide +kernel
  refine T_ite (fun h22 => ?_) (fun h22 => ?_)
  · exact sj_X11_ends_1K_J36 hfu r0 s1 c2 f4 0 (by omega) (y_V3.u o7 (Or.inr o8))
  · exact sj_X11_ends_1K_J36 hfu r0 s1 c2 f4 1 (by omega) (y_V3.u o7 (Or.inr o8))
abbrev P_X11_longOf_1K (r0 : z_M) : z_V → z_M → Prop := fun v s' => z_CI s' ∧ z_Fr R_X11_longOf_1 r0 s' ∧ (y_V3 s') ∧ ((∃ x, v = vI x ∧ -2147483648 ≤ x ∧ x ≤ 2147483647) ∨ v = vX 0 ∨ v = vX 1)
set_option maxHeartbeats 4000000 in
theorem sf_X11_longOf_1K {fu : Nat} (hfu : 8589934592 ≤ fu) (r0 : z_M) (c0 : z_CI r0) (a1 : Int) (a2 : Int) (b1 : -2147483648 ≤ a1 ∧ a1 ≤ 2147483647) (b2 : -2147483648 ≤ a2 ∧ a2 ≤ 2147483647) (p0 : y_V3 r0) : z_T (fX11_longOf fu r0 1 a1 a2) (P_X11_longOf_1K r0) := by
  refine T_of (fX11_longOf.eq_1 ..) ?_
  refine T_if1 (by decide +kernel) ?_
  refine T_useN (sf_X11_refresh_1K hfu r0 c0 p0) (fun v6 s1 hq => ?_)
  obtain ⟨c2, f3, o7, o8, rfl⟩ := hq
  refine T_vN ?_
  have f4 := z_Fr.tr (R := R_X11_longOf_1) z_Fr.rf f3 rs_X11_refresh_1__X11_longOf_1
  have u11 := CI_b c2 (k := 191) (j := 16) bd_191_16
  refine T_if1 (by decide +kernel) ?_
  refine T_let 191 (by decide +kernel) ?_
  refine T_if1 (by decide +kernel) ?_
  refine T_leq (fun x12 e13 => ?_)
  have u14 := CI_b c2 (k := 191) (j := 16) bd_191_16
  refine T_if1 (by decide +kernel) ?_
  refine T_ne ?_ (fun h15 h16 => ?_)
  · exact T_ret ⟨CI_up c2 bd_1_14 (z_wb rfl).1, z_Fr.upf (R := R_X11_longOf_1) f4 (fun a b h => z_up_k h) (fun b h => z_up_j h) (Or.inr (Or.inr (Or.inr (Or.inr (Or.inr (Or.inr (Or.inr (Or.inl (⟨rfl, by decide⟩))))))))), y_V3.u (y_U3.fr o7 (z_up_k (by decide)) (z_up_k (by decide)) (z_up_k (by decide)) (z_up_k (by decide)) (fun _ => z_up_k (by decide)) (fun _ => z_up_k (by decide)) (fun _ => z_up_k (by decide)) (fun _ => z_up_k (by decide)) (fun _ => z_up_k (by decide)) (fun _ => z_up_k (by decide)) (fun _ => z_up_k (by decide)) (fun _ => z_up_k (by decide)) (fun _ => z_up_k (by decide)) (fun _ => z_up_k (by decide)) (fun _ => z_up_k (by decide)) (fun _ => z_up_k (by decide)) (fun _ => z_up_k (by decide)) (fun _ => z_up_k (by decide)) (fun _ => z_up_k (by decide)) (fun _ => z_up_k (by decide)) (fun _ => z_up_k (by decide)) (fun _ => z_up_k (by decide)) (fun _ => z_up_k (by decide)) (fun _ => z_up_k (by decide)) (fun _ => z_up_k (by decide))) (y_L3.fr (show y_L3 s1 from (Or.inr o8)) (z_up_j (by decide)) (z_up_k (by decide)) (z_up_k (by decide)) (z_up_k (by decide)) (z_up_k (by decide)) (fun _ => z_up_k (by decide)) (fun _ => z_up_k (by decide)) (fun _ => z_up_k (by decide)) (fun _ => z_up_k (by decide)) (fun _ => z_up_k (by decide)) (fun _ => z_up_k (by decide)) (fun _ => z_up_k (by decide)) (fun _ => z_up_k (by decide)) (fun _ => z_up_k (by decide)) (fun _ => z_up_k (by decide)) (fun _ => z_up_k (by decide)) (fun _ => z_up_k (by decide)) (fun _ => z_up_k (by decide)) (fun _ => z_up_k (by decide)) (fun _ => z_up_k (by decide)) (fun _ => z_up_k (by decide)) (fun _ => z_up_k (by decide)) (fun _ => z_up_k (by decide)) (fun _ => z_up_k (by decide)) (fun _ => z_up_k (by decide)) (z_up_k (by decide)) (fun _ => z_up_k (by decide))), Or.inr (Or.inl rfl)⟩
  refine T_if1 (by decide +kernel) ?_
  refine T_let 191 (by decide +kernel) ?_
  refine T_if1 (by decide +kernel) ?_
  refine T_leq (fun x17 e18 => ?_)
  have u19 := CI_b c2 (k := 191) (j := 16) bd_191_16
  refine T_if1 (by decide +kernel) ?_
  refine T_ne ?_ (fun h20 h21 => ?_)
  · exact T_ret ⟨CI_up c2 bd_1_14 (z_wb rfl).1, z_Fr.upf (R := R_X11_longOf_1) f4 (fun a b h => z_up_k h) (fun b h => z_up_j h) (Or.inr (Or.inr (Or.inr (Or.inr (Or.inr (Or.inr (Or.inr (Or.inl (⟨rfl, by decide⟩))))))))), y_V3.u (y_U3.fr o7 (z_up_k (by decide)) (z_up_k (by decide)) (z_up_k (by decide)) (z_up_k (by decide)) (fun _ => z_up_k (by decide)) (fun _ => z_up_k (by decide)) (fun _ => z_up_k (by decide)) (fun _ => z_up_k (by decide)) (fun _ => z_up_k (by decide)) (fun _ => z_up_k (by decide)) (fun _ => z_up_k (by decide)) (fun _ => z_up_k (by decide)) (fun _ => z_up_k (by decide)) (fun _ => z_up_k (by decide)) (fun _ => z_up_k (by decide)) (fun _ => z_up_k (by decide)) (fun _ => z_up_k (by decide)) (fun _ => z_up_k (by decide)) (fun _ => z_up_k (by decide)) (fun _ => z_up_k (by decide)) (fun _ => z_up_k (by decide)) (fun _ => z_up_k (by decide)) (fun _ => z_up_k (by decide)) (fun _ => z_up_k (by decide)) (fun _ => z_up_k (by decide))) (y_L3.fr (show y_L3 s1 from (Or.inr o8)) (z_up_j (by decide)) (z_up_k (by decide)) (z_up_k (by decide)) (z_up_k (by decide)) (z_up_k (by decide)) (fun _ => z_up_k (by decide)) (fun _ => z_up_k (by decide)) (fun _ => z_up_k (by decide)) (fun _ => z_up_k (by decide)) (fun _ => z_up_k (by decide)) (fun _ => z_up_k (by decide)) (fun _ => z_up_k (by decide)) (fun _ => z_up_k (by decide)) (fun _ => z_up_k (by decide)) (fun _ => z_up_k (by decide)) (fun _ => z_up_k (by decide)) (fun _ => z_up_k (by decide)) (fun _ => z_up_k (by decide)) (fun _ => z_up_k (by decide)) (fun _ => z_up_k (by decide)) (fun _ => z_up_k (by decide)) (fun _ => z_up_k (by decide)) (fun _ => z_up_k (by decide)) (fun _ => z_up_k (by decide)) (fun _ => z_up_k (by decide)) (z_up_k (by decide)) (fun _ => z_up_k (by decide))), Or.inr (Or.inl rfl)⟩
  refine T_if1 (by decide +kernel) ?_
  refine T_let 191 (by decide +kernel) ?_
  refine T_if1 (by decide +kernel) ?_
  refine T_leq (fun x22 e23 => ?_)
  have u24 := CI_b c2 (k := 191) (j := 16) bd_191_16
  refine T_if1 (by decide +kernel) ?_
  refine T_nw ?_ (fun h25 h26 => ?_)
  · exact T_ret ⟨CI_up c2 bd_1_15 (z_wb rfl).1, z_Fr.upf (R := R_X11_longOf_1) f4 (fun a b h => z_up_k h) (fun b h => z_up_j h) (Or.inr (Or.inr (Or.inr (Or.inr (Or.inr (Or.inr (Or.inr (Or.inl (⟨rfl, by decide⟩))))))))), y_V3.u (y_U3.fr o7 (z_up_k (by decide)) (z_up_k (by decide)) (z_up_k (by decide)) (z_up_k (by decide)) (fun _ => z_up_k (by decide)) (fun _ => z_up_k (by decide)) (fun _ => z_up_k (by decide)) (fun _ => z_up_k (by decide)) (fun _ => z_up_k (by decide)) (fun _ => z_up_k (by decide)) (fun _ => z_up_k (by decide)) (fun _ => z_up_k (by decide)) (fun _ => z_up_k (by decide)) (fun _ => z_up_k (by decide)) (fun _ => z_up_k (by decide)) (fun _ => z_up_k (by decide)) (fun _ => z_up_k (by decide)) (fun _ => z_up_k (by decide)) (fun _ => z_up_k (by decide)) (fun _ => z_up_k (by decide)) (fun _ => z_up_k (by decide)) (fun _ => z_up_k (by decide)) (fun _ => z_up_k (by decide)) (fun _ => z_up_k (by decide)) (fun _ => z_up_k (by decide))) (y_L3.fr (show y_L3 s1 from (Or.inr o8)) (z_up_j (by decide)) (z_up_k (by decide)) (z_up_k (by decide)) (z_up_k (by decide)) (z_up_k (by decide)) (fun _ => z_up_k (by decide)) (fun _ => z_up_k (by decide)) (fun _ => z_up_k (by decide)) (fun _ => z_up_k (by decide)) (fun _ => z_up_k (by decide)) (fun _ => z_up_k (by decide)) (fun _ => z_up_k (by decide)) (fun _ => z_up_k (by decide)) (fun _ => z_up_k (by decide)) (fun _ => z_up_k (by decide)) (fun _ => z_up_k (by decide)) (fun _ => z_up_k (by decide)) (fun _ => z_up_k (by decide)) (fun _ => z_up_k (by decide)) (fun _ => z_up_k (by decide)) (fun _ => z_up_k (by decide)) (fun _ => z_up_k (by decide)) (fun _ => z_up_k (by decide)) (fun _ => z_up_k (by decide)) (fun _ => z_up_k (by decide)) (z_up_k (by decide)) (fun _ => z_up_k (by decide))), Or.inr (Or.inr rfl)⟩
  refine T_if1 (by decide +kernel) ?_
  refine T_let 220 (by decide +kernel) ?_
  refine T_if1 (by decide +kernel) ?_
  refine T_useI (sf_X5_lengthOf_220K hfu s1 c2 a1 a2 (by omega) (by omega) o7 (by have q8 := CI_b ‹z_CI s1› (k := 240) (j := 6) bd_240_6; have q9 := CI_b ‹z_CI s1› (k := 249) (j := 6) bd_249_6; have q7 := CI_b ‹z_CI s1› (k := 191) (j := 16) bd_191_16; first | exact y_AR.i (by omega) (by omega) (by omega) | exact y_SV.ar o8 (by assumption) (by assumption) rfl (by omega) (by omega) (by omega) (by omega) (by omega))) (fun v32 s27 hq => ?_)
  obtain ⟨c28, f29, o33, ⟨x31, rfl, b34, b35⟩⟩ := hq
  refine T_vI ?_
  have f30 := z_Fr.tr (R := R_X11_longOf_1) f4 f29 rs_X5_lengthOf_220__X11_longOf_1
  have t36 : s27 191 16 = s1 191 16 := f29 191 16 (by decide)
  have r37 := y_SA.fr o8 (f29 191 16 (by decide)) (f29 6 6 (by decide)) (f29 191 17 (by decide)) (f29 191 18 (by decide)) (fun b => f29 3 b (nr_X5_lengthOf_220__3 b)) (fun b => f29 8 b (nr_X5_lengthOf_220__8 b)) (fun b => f29 12 b (nr_X5_lengthOf_220__12 b)) (fun b => f29 14 b (nr_X5_lengthOf_220__14 b)) (fun b => f29 16 b (nr_X5_lengthOf_220__16 b)) (fun b => f29 18 b (nr_X5_lengthOf_220__18 b)) (fun b => f29 193 b (nr_X5_lengthOf_220__193 b)) (fun b => f29 195 b (nr_X5_lengthOf_220__195 b)) (fun b => f29 197 b (nr_X5_lengthOf_220__197 b)) (fun b => f29 199 b (nr_X5_lengthOf_220__199 b)) (fun b => f29 201 b (nr_X5_lengthOf_220__201 b)) (fun b => f29 203 b (nr_X5_lengthOf_220__203 b)) (fun b => f29 205 b (nr_X5_lengthOf_220__205 b)) (fun b => f29 207 b (nr_X5_lengthOf_220__207 b)) (fun b => f29 209 b (nr_X5_lengthOf_220__209 b)) (fun b => f29 211 b (nr_X5_lengthOf_220__211 b)) (fun b => f29 213 b (nr_X5_lengthOf_220__213 b)) (fun b => f29 215 b (nr_X5_lengthOf_220__215 b)) (fun b => f29 217 b (nr_X5_lengthOf_220__217 b)) (fun b => f29 219 b (nr_X5_lengthOf_220__219 b)) (f29 240 6 (by decide)) (fun b => f29 248 b (nr_X5_lengthOf_220__248 b))
  have r38 := y_B0.fr o7.1.1 (f29 211 0 (by decide)) (f29 213 0 (by decide))
  exact T_ret ⟨c28, f30, (y_V3.u o33 (Or.inr r37)), Or.inl (⟨x31, rfl, by omega, by omega⟩)⟩
abbrev P_X11_lines_1K (r0 : z_M) : z_V → z_M → Prop := fun v s' => z_CI s' ∧ z_Fr R_X11_lines_1 r0 s' ∧ (y_V3 s') ∧ ((∃ x, v = vI x ∧ -2147483648 ≤ x ∧ x ≤ 2147483647) ∨ v = vX 1)
theorem nr_X1_go_249__248 (b : Int) : ¬ R_X1_go_249 248 b := by
  unfold R_X1_go_249; omega
theorem sf_X11_lines_1K {fu : Nat} (hfu : 8589934592 ≤ fu) (r0 : z_M) (c0 : z_CI r0) (a1 : Int) (a2 : Int) (b1 : -2147483648 ≤ a1 ∧ a1 ≤ 2147483647) (b2 : -2147483648 ≤ a2 ∧ a2 ≤ 2147483647) (p0 : y_V3 r0) : z_T (fX11_lines fu r0 1 a1 a2) (P_X11_lines_1K r0) := by
  refine T_of (fX11_lines.eq_1 ..) ?_
  refine T_pick (by decide) (fun x1 e2 b3 => ?_)
  have b4 : x1 = (12 : Int) := by rw [← e2]; decide +kernel
  refine T_pick (by decide) (fun x5 e6 b7 => ?_)
  have b8 : x5 = (999 : Int) := by rw [← e6]; decide +kernel
  refine T_if1 (by decide +kernel) ?_
  refine T_nw ?_ (fun h9 h10 => ?_)
  · exact T_ret ⟨CI_up c0 bd_1_15 (z_wb rfl).1, z_Fr.upf (R := R_X11_lines_1) z_Fr.rf (fun a b h => z_up_k h) (fun b h => z_up_j h) (Or.inr (Or.inr (Or.inr (Or.inr (Or.inr (Or.inr (Or.inr (Or.inr (Or.inr (Or.inl (⟨rfl, by decide⟩))))))))))), y_V3.fr p0 (z_up_j (by decide)) (z_up_j (by decide)) (z_up_k (by decide)) (z_up_k (by decide)) (z_up_k (by decide)) (z_up_k (by decide)) (fun _ => z_up_k (by decide)) (fun _ => z_up_k (by decide)) (fun _ => z_up_k (by decide)) (fun _ => z_up_k (by decide)) (fun _ => z_up_k (by decide)) (fun _ => z_up_k (by decide)) (fun _ => z_up_k (by decide)) (fun _ => z_up_k (by decide)) (fun _ => z_up_k (by decide)) (fun _ => z_up_k (by decide)) (fun _ => z_up_k (by decide)) (fun _ => z_up_k (by decide)) (fun _ => z_up_k (by decide)) (fun _ => z_up_k (by decide)) (fun _ => z_up_k (by decide)) (fun _ => z_up_k (by decide)) (fun _ => z_up_k (by decide)) (fun _ => z_up_k (by decide)) (fun _ => z_up_k (by decide)) (fun _ => z_up_k (by decide)) (fun _ => z_up_k (by decide)) (z_up_k (by decide)) (fun _ => z_up_k (by decide)), Or.inr rfl⟩
  refine T_if1 (by decide +kernel) ?_
  refine T_nw ?_ (fun h11 h12 => ?_)
  · exact T_ret ⟨CI_up c0 bd_1_15 (z_wb rfl).1, z_Fr.upf (R := R_X11_lines_1) z_Fr.rf (fun a b h => z_up_k h) (fun b h => z_up_j h) (Or.inr (Or.inr (Or.inr (Or.inr (Or.inr (Or.inr (Or.inr (Or.inr (Or.inr (Or.inl (⟨rfl, by decide⟩))))))))))), y_V3.fr p0 (z_up_j (by decide)) (z_up_j (by decide)) (z_up_k (by decide)) (z_up_k (by decide)) (z_up_k (by decide)) (z_up_k (by decide)) (fun _ => z_up_k (by decide)) (fun _ => z_up_k (by decide)) (fun _ => z_up_k (by decide)) (fun _ => z_up_k (by decide)) (fun _ => z_up_k (by decide)) (fun _ => z_up_k (by decide)) (fun _ => z_up_k (by decide)) (fun _ => z_up_k (by decide)) (fun _ => z_up_k (by decide)) (fun _ => z_up_k (by decide)) (fun _ => z_up_k (by decide)) (fun _ => z_up_k (by decide)) (fun _ => z_up_k (by decide)) (fun _ => z_up_k (by decide)) (fun _ => z_up_k (by decide)) (fun _ => z_up_k (by decide)) (fun _ => z_up_k (by decide)) (fun _ => z_up_k (by decide)) (fun _ => z_up_k (by decide)) (fun _ => z_up_k (by decide)) (fun _ => z_up_k (by decide)) (z_up_k (by decide)) (fun _ => z_up_k (by decide)), Or.inr rfl⟩
  refine T_if1 (by decide +kernel) ?_
  refine T_useN (sf_X11_refresh_1K hfu r0 c0 p0) (fun v18 s13 hq => ?_)
  obtain ⟨c14, f15, o19, o20, rfl⟩ := hq
  refine T_vN ?_
  have f16 := z_Fr.tr (R := R_X11_lines_1) z_Fr.rf f15 rs_X11_refresh_1__X11_lines_1
  have t23 : s13 249 6 = r0 249 6 := f15 249 6 (by decide)
  refine T_if1 (by decide +kernel) ?_
  refine T_let 249 (by decide +kernel) ?_
  refine T_if1 (by decide +kernel) ?_
  refine T_useN (sf_X1_go_249K hfu s13 c14 a1 a2 (by omega) (by omega) o19 (by first | exact y_LNr.i (by omega) | exact y_LNr.t (by assumption) rfl | exact y_LNr.t (by assumption) (by omega))) (fun v29 s24 hq => ?_)
  obtain ⟨c25, f26, o30, o31, rfl⟩ := hq
  refine T_vN ?_
  have f27 := z_Fr.tr (R := R_X11_lines_1) f16 f26 rs_X1_go_249__X11_lines_1
  have u34 := CI_b c25 (k := 249) (j := 6) bd_249_6
  have r35 := y_SA.fr o20 (f26 191 16 (by decide)) (f26 6 6 (by decide)) (f26 191 17 (by decide)) (f26 191 18 (by decide)) (fun b => f26 3 b (nr_X1_go_249__3 b)) (fun b => f26 8 b (nr_X1_go_249__8 b)) (fun b => f26 12 b (nr_X1_go_249__12 b)) (fun b => f26 14 b (nr_X1_go_249__14 b)) (fun b => f26 16 b (nr_X1_go_249__16 b)) (fun b => f26 18 b (nr_X1_go_249__18 b)) (fun b => f26 193 b (nr_X1_go_249__193 b)) (fun b => f26 195 b (nr_X1_go_249__195 b)) (fun b => f26 197 b (nr_X1_go_249__197 b)) (fun b => f26 199 b (nr_X1_go_249__199 b)) (fun b => f26 201 b (nr_X1_go_249__201 b)) (fun b => f26 203 b (nr_X1_go_249__203 b)) (fun b => f26 205 b (nr_X1_go_249__205 b)) (fun b => f26 207 b (nr_X1_go_249__207 b)) (fun b => f26 209 b (nr_X1_go_249__209 b)) (fun b => f26 211 b (nr_X1_go_249__211 b)) (fun b => f26 213 b (nr_X1_go_249__213 b)) (fun b => f26 215 b (nr_X1_go_249__215 b)) (fun b => f26 217 b (nr_X1_go_249__217 b)) (fun b => f26 219 b (nr_X1_go_249__219 b)) (f26 240 6 (by decide)) (fun b => f26 248 b (nr_X1_go_249__248 b))
  have r36 := y_B0.fr o19.1.1 (f26 211 0 (by decide)) (f26 213 0 (by decide))
  refine T_if1 (by decide +kernel) ?_
  refine T_let 249 (by decide +kernel) ?_
  refine T_if1 (by decide +kernel) ?_
  refine T_leq (fun x37 e38 => ?_)
  have u39 := CI_b c25 (k := 249) (j := 6) bd_249_6
  exact T_ret ⟨c25, f27, (y_V3.u o30 (Or.inr r35)), Or.inl (⟨x37, rfl, by omega, by omega⟩)⟩
abbrev P_X1_fewest_249K (r0 : z_M) : z_V → z_M → Prop := fun v s' => z_CI s' ∧ z_Fr R_X1_fewest_249 r0 s' ∧ (y_U3 s') ∧ (∃ x, v = vI x ∧ -2147483648 ≤ x ∧ x ≤ 2147483647)
theorem nr_X10_solid_191__3 (b : Int) : ¬ R_X10_solid_191 3 b := not_false
theorem nr_X10_solid_191__8 (b : Int) : ¬ R_X10_solid_191 8 b := not_false
theorem nr_X10_solid_191__12 (b : Int) : ¬ R_X10_solid_191 12 b := not_false
theorem nr_X10_solid_191__14 (b : Int) : ¬ R_X10_solid_191 14 b := not_false
theorem nr_X10_solid_191__16 (b : Int) : ¬ R_X10_solid_191 16 b := not_false
theorem nr_X10_solid_191__18 (b : Int) : ¬ R_X10_solid_191 18 b := not_false
theorem nr_X10_solid_191__193 (b : Int) : ¬ R_X10_solid_191 193 b := not_false
theorem nr_X10_solid_191__195 (b : Int) : ¬ R_X10_solid_191 195 b := not_false
theorem nr_X10_solid_191__197 (b : Int) : ¬ R_X10_solid_191 197 b := not_false
theorem nr_X10_solid_191__199 (b : Int) : ¬ R_X10_solid_191 199 b := not_false
theorem nr_X10_solid_191__201 (b : Int) : ¬ R_X10_solid_191 201 b := not_false
theorem nr_X10_solid_191__203 (b : Int) : ¬ R_X10_solid_191 203 b := not_false
theorem nr_X10_solid_191__205 (b : Int) : ¬ R_X10_solid_191 205 b := not_false
theorem nr_X10_solid_191__207 (b : Int) : ¬ R_X10_solid_191 207 b := not_false
theorem nr_X10_solid_191__209 (b : Int) : ¬ R_X10_solid_191 209 b := not_false
theorem nr_X10_solid_191__211 (b : Int) : ¬ R_X10_solid_191 211 b := not_false
theorem nr_X10_solid_191__213 (b : Int) : ¬ R_X10_solid_191 213 b := not_false
theorem nr_X10_solid_191__215 (b : Int) : ¬ R_X10_solid_191 215 b := not_false
theorem nr_X10_solid_191__217 (b : Int) : ¬ R_X10_solid_191 217 b := not_false
theorem nr_X10_solid_191__219 (b : Int) : ¬ R_X10_solid_191 219 b := not_false
theorem nr_X10_solid_191__222 (b : Int) : ¬ R_X10_solid_191 222 b := not_false
theorem sj_X1_fewest_249K_J128 {fu : Nat} (hfu : 8589934592 ≤ fu) (r0 s : z_M) (c : z_CI s) (f : z_Fr R_X1_fewest_249 r0 s) (a1 : Int) (a2 : Int) (a3 : Int) (a4 : Int) (a5 : Int) (b1 : -2147483648 ≤ a1 ∧ a1 ≤ 2147483647) (b2 : -2147483648 ≤ a2 ∧ a2 ≤ 2147483647) (b3 : 0 ≤ a3 ∧ a3 ≤ 200) (b4 : -2147483648 ≤ a4 ∧ a4 ≤ 2147483647) (b5 : 0 ≤ a5 ∧ a5 ≤ 199) (p0 : a3 ≤ a5) (p1 : a5 < s 191 16) (p2 : y_U3 s) (M : Int) (pm : 2147483647 - a5 ≤ M) {r : z_M → Int → Int → z_O} {k : z_M → Int → z_O} (hr : ∀ (s' : z_M) (v4 : Int) (v5 : Int), z_CI s' → z_Fr R_X1_fewest_249 r0 s' → (-2147483648 ≤ v4 ∧ v4 ≤ 2147483647) → (0 ≤ v5 ∧ v5 ≤ 200) → (y_U3 s') → (a3 ≤ v5) → (2147483647 - v5 < M) → z_T (r s' v4 v5) (P_X1_fewest_249K r0)) (hk : ∀ (s' : z_M) (v4 : Int), z_CI s' → z_Fr R_X1_fewest_249 r0 s' → (-2147483648 ≤ v4 ∧ v4 ≤ 2147483647) → (y_U3 s') → z_T (k s' v4) (P_X1_fewest_249K r0)) : z_T (fX1_fewest_J128 fu s 249 a1 a2 a3 a4 a5 r k) (P_X1_fewest_249K r0) := by
  refine T_of (fX1_fewest_J128.eq_1 ..) ?_
  have u1 := CI_b c (k := 191) (j := 16) bd_191_16
  refine T_leq (fun x2 e3 => ?_)
  have w4 := z_wb e3
  exact hr s a4 x2 c f (by omega) (by omega) p2 (by omega) (by omega)
theorem sj_X1_fewest_249K_J103 {fu : Nat} (hfu : 8589934592 ≤ fu) (r0 s : z_M) (c : z_CI s) (f : z_Fr R_X1_fewest_249 r0 s) (a1 : Int) (a2 : Int) (a3 : Int) (a4 : Int) (a5 : Int) (a6 : Int) (t0 : Int) (b1 : -2147483648 ≤ a1 ∧ a1 ≤ 2147483647) (b2 : -2147483648 ≤ a2 ∧ a2 ≤ 2147483647) (b3 : 0 ≤ a3 ∧ a3 ≤ 200) (b4 : -2147483648 ≤ a4 ∧ a4 ≤ 2147483647) (b5 : 0 ≤ a5 ∧ a5 ≤ 199) (b6 : -2147483648 ≤ a6 ∧ a6 ≤ 2147483647) (d0 : 0 ≤ t0 ∧ t0 ≤ 1) (p0 : a3 ≤ a5) (p1 : a5 < s 191 16) (p2 : y_U3 s) (M : Int) (pm : 2147483647 - a5 ≤ M) {r : z_M → Int → Int → z_O} {k : z_M → Int → z_O} (hr : ∀ (s' : z_M) (v4 : Int) (v5 : Int), z_CI s' → z_Fr R_X1_fewest_249 r0 s' → (-2147483648 ≤ v4 ∧ v4 ≤ 2147483647) → (0 ≤ v5 ∧ v5 ≤ 200) → (y_U3 s') → (a3 ≤ v5) → (2147483647 - v5 < M) → z_T (r s' v4 v5) (P_X1_fewest_249K r0)) (hk : ∀ (s' : z_M) (v4 : Int), z_CI s' → z_Fr R_X1_fewest_249 r0 s' → (-2147483648 ≤ v4 ∧ v4 ≤ 2147483647) → (y_U3 s') → z_T (k s' v4) (P_X1_fewest_249K r0)) : z_T (fX1_fewest_J103 fu s 249 a1 a2 a3 a4 a5 a6 t0 r k) (P_X1_fewest_249K r0) := by
  refine T_of (fX1_fewest_J103.eq_1 ..) ?_
  have u1 := CI_b c (k := 191) (j := 16) bd_191_16
  refine T_ite (fun h2 => ?_) (fun h2 => ?_)
  · exact sj_X1_fewest_249K_J128 hfu r0 s c f a1 a2 a3 a4 a5 (by omega) (by omega) (by omega) (by omega) (by omega) (by omega) (by omega) p2 M (by omega) (fun s' v4 v5 c' f' w4 w5 z0 z1 pg => hr s' v4 v5 c' f' w4 w5 z0 z1 (by omega)) hk
  · refine T_if1 (by decide +kernel) ?_
    refine T_let 220 (by decide +kernel) ?_
    refine T_if1 (by decide +kernel) ?_
    refine T_useI (sf_X5_lengthOf_220K hfu s c a3 a5 (by omega) (by omega) p2 (by have q8 := CI_b ‹z_CI s› (k := 240) (j := 6) bd_240_6; have q9 := CI_b ‹z_CI s› (k := 249) (j := 6) bd_249_6; have q7 := CI_b ‹z_CI s› (k := 191) (j := 16) bd_191_16; first | exact y_AR.i (by omega) (by omega) (by omega))) (fun v8 s3 hq => ?_)
    obtain ⟨c4, f5, o9, ⟨x7, rfl, b10, b11⟩⟩ := hq
    refine T_vI ?_
    have f6 := z_Fr.tr (R := R_X1_fewest_249) f f5 rs_X5_lengthOf_220__X1_fewest_249
    have t12 : s3 191 16 = s 191 16 := f5 191 16 (by decide)
    have r13 := y_B0.fr p2.1.1 (f5 211 0 (by decide)) (f5 213 0 (by decide))
    refine T_ite (fun h14 => ?_) (fun h14 => ?_)
    · exact sj_X1_fewest_249K_J128 hfu r0 s3 c4 f6 a1 a2 a3 a4 a5 (by omega) (by omega) (by omega) (by omega) (by omega) (by omega) (by omega) o9 M (by omega) (fun s' v4 v5 c' f' w4 w5 z0 z1 pg => hr s' v4 v5 c' f' w4 w5 z0 z1 (by omega)) hk
    · exact sj_X1_fewest_249K_J128 hfu r0 s3 c4 f6 a1 a2 a3 a6 a5 (by omega) (by omega) (by omega) (by omega) (by omega) (by omega) (by omega) o9 M (by omega) (fun s' v4 v5 c' f' w4 w5 z0 z1 pg => hr s' v4 v5 c' f' w4 w5 z0 z1 (by omega)) hk
theorem sj_X1_fewest_249K_J102 {fu : Nat} (hfu : 8589934592 ≤ fu) (r0 s : z_M) (c : z_CI s) (f : z_Fr R_X1_fewest_249 r0 s) (a1 : Int) (a2 : Int) (a3 : Int) (a4 : Int) (a5 : Int) (a6 : Int) (b1 : -2147483648 ≤ a1 ∧ a1 ≤ 2147483647) (b2 : -2147483648 ≤ a2 ∧ a2 ≤ 2147483647) (b3 : 0 ≤ a3 ∧ a3 ≤ 200) (b4 : -2147483648 ≤ a4 ∧ a4 ≤ 2147483647) (b5 : 0 ≤ a5 ∧ a5 ≤ 199) (b6 : -2147483648 ≤ a6 ∧ a6 ≤ 2147483647) (p0 : a3 ≤ a5) (p1 : a5 < s 191 16) (p2 : y_U3 s) (M : Int) (pm : 2147483647 - a5 ≤ M) {r : z_M → Int → Int → z_O} {k : z_M → Int → z_O} (hr : ∀ (s' : z_M) (v4 : Int) (v5 : Int), z_CI s' → z_Fr R_X1_fewest_249 r0 s' → (-2147483648 ≤ v4 ∧ v4 ≤ 2147483647) → (0 ≤ v5 ∧ v5 ≤ 200) → (y_U3 s') → (a3 ≤ v5) → (2147483647 - v5 < M) → z_T (r s' v4 v5) (P_X1_fewest_249K r0)) (hk : ∀ (s' : z_M) (v4 : Int), z_CI s' → z_Fr R_X1_fewest_249 r0 s' → (-2147483648 ≤ v4 ∧ v4 ≤ 2147483647) → (y_U3 s') → z_T (k s' v4) (P_X1_fewest_249K r0)) : z_T (fX1_fewest_J102 fu s 249 a1 a2 a3 a4 a5 a6 r k) (P_X1_fewest_249K r0) := by
  refine T_of (fX1_fewest_J102.eq_1 ..) ?_
  have u1 := CI_b c (k := 191) (j := 16) bd_191_16
  exact sj_X1_fewest_249K_J103 hfu r0 s c f a1 a2 a3 a4 a5 a6 0 (by omega) (by omega) (by omega) (by omega) (by omega) (by omega) (by omega) (by omega) (by omega) p2 M (by omega) (fun s' v4 v5 c' f' w4 w5 z0 z1 pg => hr s' v4 v5 c' f' w4 w5 z0 z1 (by omega)) hk
theorem sj_X1_fewest_249K_J98 {fu : Nat} (hfu : 8589934592 ≤ fu) (r0 s : z_M) (c : z_CI s) (f : z_Fr R_X1_fewest_249 r0 s) (a1 : Int) (a2 : Int) (a3 : Int) (a4 : Int) (a5 : Int) (a6 : Int) (b1 : -2147483648 ≤ a1 ∧ a1 ≤ 2147483647) (b2 : -2147483648 ≤ a2 ∧ a2 ≤ 2147483647) (b3 : 0 ≤ a3 ∧ a3 ≤ 200) (b4 : -2147483648 ≤ a4 ∧ a4 ≤ 2147483647) (b5 : 0 ≤ a5 ∧ a5 ≤ 199) (b6 : -2147483648 ≤ a6 ∧ a6 ≤ 2147483647) (p0 : a3 ≤ a5) (p1 : a5 < s 191 16) (p2 : y_U3 s) (M : Int) (pm : 2147483647 - a5 ≤ M) {r : z_M → Int → Int → z_O} {k : z_M → Int → z_O} (hr : ∀ (s' : z_M) (v4 : Int) (v5 : Int), z_CI s' → z_Fr R_X1_fewest_249 r0 s' → (-2147483648 ≤ v4 ∧ v4 ≤ 2147483647) → (0 ≤ v5 ∧ v5 ≤ 200) → (y_U3 s') → (a3 ≤ v5) → (2147483647 - v5 < M) → z_T (r s' v4 v5) (P_X1_fewest_249K r0)) (hk : ∀ (s' : z_M) (v4 : Int), z_CI s' → z_Fr R_X1_fewest_249 r0 s' → (-2147483648 ≤ v4 ∧ v4 ≤ 2147483647) → (y_U3 s') → z_T (k s' v4) (P_X1_fewest_249K r0)) : z_T (fX1_fewest_J98 fu s 249 a1 a2 a3 a4 a5 a6 r k) (P_X1_fewest_249K r0) := by
  refine T_of (fX1_fewest_J98.eq_1 ..) ?_
  have u1 := CI_b c (k := 191) (j := 16) bd_191_16
  exact sj_X1_fewest_249K_J103 hfu r0 s c f a1 a2 a3 a4 a5 a6 1 (by omega) (by omega) (by omega) (by omega) (by omega) (by omega) (by omega) (by omega) (by omega) p2 M (by omega) (fun s' v4 v5 c' f' w4 w5 z0 z1 pg => hr s' v4 v5 c' f' w4 w5 z0 z1 (by omega)) hk
theorem nr_X1_closesLine_249__3 (b : Int) : ¬ R_X1_closesLine_249 3 b := not_false
theorem nr_X1_closesLine_249__8 (b : Int) : ¬ R_X1_closesLine_249 8 b := not_false
theorem nr_X1_closesLine_249__12 (b : Int) : ¬ R_X1_closesLine_249 12 b := not_false
theorem nr_X1_closesLine_249__14 (b : Int) : ¬ R_X1_closesLine_249 14 b := not_false
theorem nr_X1_closesLine_249__16 (b : Int) : ¬ R_X1_closesLine_249 16 b := not_false
theorem nr_X1_closesLine_249__18 (b : Int) : ¬ R_X1_closesLine_249 18 b := not_false
theorem nr_X1_closesLine_249__193 (b : Int) : ¬ R_X1_closesLine_249 193 b := not_false
theorem nr_X1_closesLine_249__195 (b : Int) : ¬ R_X1_closesLine_249 195 b := not_false
theorem nr_X1_closesLine_249__197 (b : Int) : ¬ R_X1_closesLine_249 197 b := not_false
theorem nr_X1_closesLine_249__199 (b : Int) : ¬ R_X1_closesLine_249 199 b := not_false
theorem nr_X1_closesLine_249__201 (b : Int) : ¬ R_X1_closesLine_249 201 b := not_false
theorem nr_X1_closesLine_249__203 (b : Int) : ¬ R_X1_closesLine_249 203 b := not_false
theorem nr_X1_closesLine_249__205 (b : Int) : ¬ R_X1_closesLine_249 205 b := not_false
theorem nr_X1_closesLine_249__207 (b : Int) : ¬ R_X1_closesLine_249 207 b := not_false
theorem nr_X1_closesLine_249__209 (b : Int) : ¬ R_X1_closesLine_249 209 b := not_false
theorem nr_X1_closesLine_249__211 (b : Int) : ¬ R_X1_closesLine_249 211 b := not_false
theorem nr_X1_closesLine_249__213 (b : Int) : ¬ R_X1_closesLine_249 213 b := not_false
theorem nr_X1_closesLine_249__215 (b : Int) : ¬ R_X1_closesLine_249 215 b := not_false
theorem nr_X1_closesLine_249__217 (b : Int) : ¬ R_X1_closesLine_249 217 b := not_false
theorem nr_X1_closesLine_249__219 (b : Int) : ¬ R_X1_closesLine_249 219 b := not_false
theorem nr_X1_closesLine_249__222 (b : Int) : ¬ R_X1_closesLine_249 222 b := not_false
theorem sl_X1_fewest_249K_L37 {fu : Nat} (hfu : 8589934592 ≤ fu) (r0 : z_M) (a1 : Int) (a2 : Int) (a3 : Int) (b1 : -2147483648 ≤ a1 ∧ a1 ≤ 2147483647) (b2 : -2147483648 ≤ a2 ∧ a2 ≤ 2147483647) (b3 : 0 ≤ a3 ∧ a3 ≤ 200) {k : z_M → Int → z_O} (hk : ∀ (s' : z_M) (v4 : Int), z_CI s' → z_Fr R_X1_fewest_249 r0 s' → (-2147483648 ≤ v4 ∧ v4 ≤ 2147483647) → (y_U3 s') → z_T (k s' v4) (P_X1_fewest_249K r0)) : ∀ (F : Nat) (s : z_M) (a4 : Int) (a5 : Int), z_CI s → z_Fr R_X1_fewest_249 r0 s → (-2147483648 ≤ a4 ∧ a4 ≤ 2147483647) → (0 ≤ a5 ∧ a5 ≤ 200) → (y_U3 s) → (a3 ≤ a5) → (2147483647 - a5 < (F : Int)) → z_T (fX1_fewest_L37 fu 249 a1 a2 a3 F s a4 a5 k) (P_X1_fewest_249K r0) := by
  intro F
  induction F with
  | zero =>
    intro s a4 a5 c f b4 b5 i0 i1 hm
    have u43 := CI_b c (k := 191) (j := 16) bd_191_16
    exfalso; omega
  | succ F ih =>
    intro s a4 a5 c f b4 b5 i0 i1 hm
    refine T_of (fX1_fewest_L37.eq_2 ..) ?_
    have u1 := CI_b c (k := 191) (j := 16) bd_191_16
    refine T_if1 (by decide +kernel) ?_
    refine T_let 191 (by decide +kernel) ?_
    refine T_if1 (by decide +kernel) ?_
    refine T_leq (fun x2 e3 => ?_)
    have u4 := CI_b c (k := 191) (j := 16) bd_191_16
    refine T_ite (fun h5 => ?_) (fun h5 => ?_)
    · exact hk s a4 c f (by omega) i0
    · refine T_if1 (by decide +kernel) ?_
      refine T_let 191 (by decide +kernel) ?_
      refine T_if1 (by decide +kernel) ?_
      refine T_useI (sf_X10_solid_191 hfu s c a3 a5 (by omega) (by omega)) (fun v11 s6 hq => ?_)
      obtain ⟨c7, f8, ⟨x10, rfl, b12, b13⟩⟩ := hq
      refine T_vI ?_
      have f9 := z_Fr.tr (R := R_X1_fewest_249) f f8 (fun a b h => absurd h not_false)
      have t14 : s6 191 16 = s 191 16 := f8 191 16 (by decide)
      have r15 := y_U3.fr i0 (f8 191 16 (by decide)) (f8 6 6 (by decide)) (f8 191 17 (by decide)) (f8 191 18 (by decide)) (fun b => f8 3 b (nr_X10_solid_191__3 b)) (fun b => f8 8 b (nr_X10_solid_191__8 b)) (fun b => f8 12 b (nr_X10_solid_191__12 b)) (fun b => f8 14 b (nr_X10_solid_191__14 b)) (fun b => f8 16 b (nr_X10_solid_191__16 b)) (fun b => f8 18 b (nr_X10_solid_191__18 b)) (fun b => f8 193 b (nr_X10_solid_191__193 b)) (fun b => f8 195 b (nr_X10_solid_191__195 b)) (fun b => f8 197 b (nr_X10_solid_191__197 b)) (fun b => f8 199 b (nr_X10_solid_191__199 b)) (fun b => f8 201 b (nr_X10_solid_191__201 b)) (fun b => f8 203 b (nr_X10_solid_191__203 b)) (fun b => f8 205 b (nr_X10_solid_191__205 b)) (fun b => f8 207 b (nr_X10_solid_191__207 b)) (fun b => f8 209 b (nr_X10_solid_191__209 b)) (fun b => f8 211 b (nr_X10_solid_191__211 b)) (fun b => f8 213 b (nr_X10_solid_191__213 b)) (fun b => f8 215 b (nr_X10_solid_191__215 b)) (fun b => f8 217 b (nr_X10_solid_191__217 b)) (fun b => f8 219 b (nr_X10_solid_191__219 b)) (fun b => f8 222 b (nr_X10_solid_191__222 b))
      have r16 := y_B0.fr i0.1.1 (f8 211 0 (by decide)) (f8 213 0 (by decide))
      refine T_ite (fun h17 => ?_) (fun h17 => ?_)
      · exact hk s6 a4 c7 f9 (by omega) r15
      · refine T_if1 (by decide +kernel) ?_
        refine T_let 254 (by decide +kernel) ?_
        refine T_leq (fun x18 e19 => ?_)
        have w20 := z_wb e19
        refine T_if1 (by decide +kernel) ?_
        refine T_get (by decide +kernel) (c := 255) (by decide +kernel) bdr_255 (by decide) c7 (fun x21 e22 b23 w24 => ?_)
        have l25 : z_ln 254 = 201 := by decide +kernel
        refine T_leq (fun x26 e27 => ?_)
        have w28 := z_wb e27
        refine T_ite (fun h29 => ?_) (fun h29 => ?_)
        · exact sj_X1_fewest_249K_J102 hfu r0 s6 c7 f9 a1 a2 a3 a4 a5 x26 (by omega) (by omega) (by omega) (by omega) (by omega) (by omega) (by omega) (by omega) r15 (2147483647 - a5) (by omega) (fun s' v4 v5 c' f' w4 w5 z0 z1 pg => ih s' v4 v5 c' f' w4 w5 z0 z1 (by omega)) hk
        · refine T_ite (fun h30 => ?_) (fun h30 => ?_)
          · exact sj_X1_fewest_249K_J98 hfu r0 s6 c7 f9 a1 a2 a3 a4 a5 x26 (by omega) (by omega) (by omega) (by omega) (by omega) (by omega) (by omega) (by omega) r15 (2147483647 - a5) (by omega) (fun s' v4 v5 c' f' w4 w5 z0 z1 pg => ih s' v4 v5 c' f' w4 w5 z0 z1 (by omega)) hk
          · refine T_if1 (by decide +kernel) ?_
            refine T_useI (sf_X1_closesLine_249 hfu s6 c7 a5 (by omega)) (fun v36 s31 hq => ?_)
            obtain ⟨c32, f33, ⟨x35, rfl, b37, b38⟩⟩ := hq
            refine T_vI ?_
            have f34 := z_Fr.tr (R := R_X1_fewest_249) f9 f33 (fun a b h => absurd h not_false)
            have t39 : s31 191 16 = s6 191 16 := f33 191 16 (by decide)
            have r40 := y_U3.fr r15 (f33 191 16 (by decide)) (f33 6 6 (by decide)) (f33 191 17 (by decide)) (f33 191 18 (by decide)) (fun b => f33 3 b (nr_X1_closesLine_249__3 b)) (fun b => f33 8 b (nr_X1_closesLine_249__8 b)) (fun b => f33 12 b (nr_X1_closesLine_249__12 b)) (fun b => f33 14 b (nr_X1_closesLine_249__14 b)) (fun b => f33 16 b (nr_X1_closesLine_249__16 b)) (fun b => f33 18 b (nr_X1_closesLine_249__18 b)) (fun b => f33 193 b (nr_X1_closesLine_249__193 b)) (fun b => f33 195 b (nr_X1_closesLine_249__195 b)) (fun b => f33 197 b (nr_X1_closesLine_249__197 b)) (fun b => f33 199 b (nr_X1_closesLine_249__199 b)) (fun b => f33 201 b (nr_X1_closesLine_249__201 b)) (fun b => f33 203 b (nr_X1_closesLine_249__203 b)) (fun b => f33 205 b (nr_X1_closesLine_249__205 b)) (fun b => f33 207 b (nr_X1_closesLine_249__207 b)) (fun b => f33 209 b (nr_X1_closesLine_249__209 b)) (fun b => f33 211 b (nr_X1_closesLine_249__211 b)) (fun b => f33 213 b (nr_X1_closesLine_249__213 b)) (fun b => f33 215 b (nr_X1_closesLine_249__215 b)) (fun b => f33 217 b (nr_X1_closesLine_249__217 b)) (fun b => f33 219 b (nr_X1_closesLine_249__219 b)) (fun b => f33 222 b (nr_X1_closesLine_249__222 b))
            have r41 := y_B0.fr r16 (f33 211 0 (by decide)) (f33 213 0 (by decide))
            refine T_ite (fun h42 => ?_) (fun h42 => ?_)
            · exact sj_X1_fewest_249K_J102 hfu r0 s31 c32 f34 a1 a2 a3 a4 a5 x26 (by omega) (by omega) (by omega) (by omega) (by omega) (by omega) (by omega) (by omega) r40 (2147483647 - a5) (by omega) (fun s' v4 v5 c' f' w4 w5 z0 z1 pg => ih s' v4 v5 c' f' w4 w5 z0 z1 (by omega)) hk
            · exact sj_X1_fewest_249K_J98 hfu r0 s31 c32 f34 a1 a2 a3 a4 a5 x26 (by omega) (by omega) (by omega) (by omega) (by omega) (by omega) (by omega) (by omega) r40 (2147483647 - a5) (by omega) (fun s' v4 v5 c' f' w4 w5 z0 z1 pg => ih s' v4 v5 c' f' w4 w5 z0 z1 (by omega)) hk
theorem sj_X1_fewest_249K_J134 {fu : Nat} (hfu : 8589934592 ≤ fu) (r0 s : z_M) (c : z_CI s) (f : z_Fr R_X1_fewest_249 r0 s) (a1 : Int) (a2 : Int) (a3 : Int) (a4 : Int) (b1 : -2147483648 ≤ a1 ∧ a1 ≤ 2147483647) (b2 : -2147483648 ≤ a2 ∧ a2 ≤ 2147483647) (b3 : 0 ≤ a3 ∧ a3 ≤ 200) (b4 : -2147483648 ≤ a4 ∧ a4 ≤ 2147483647) (p0 : y_U3 s) (M : Int) (pm : a3 + 2147483648 ≤ M) {r : z_M → Int → z_O} {k : z_M → z_O} (hr : ∀ (s' : z_M) (v3 : Int), z_CI s' → z_Fr R_X1_fewest_249 r0 s' → ((-1) ≤ v3 ∧ v3 ≤ 199) → (y_U3 s') → (v3 + 2147483648 < M) → z_T (r s' v3) (P_X1_fewest_249K r0)) (hk : ∀ (s' : z_M), z_CI s' → z_Fr R_X1_fewest_249 r0 s' → (y_U3 s') → z_T (k s') (P_X1_fewest_249K r0)) : z_T (fX1_fewest_J134 fu s 249 a1 a2 a3 a4 r k) (P_X1_fewest_249K r0) := by
  refine T_of (fX1_fewest_J134.eq_1 ..) ?_
  have u1 := CI_b c (k := 191) (j := 16) bd_191_16
  refine T_if1 (by decide +kernel) ?_
  refine T_let 254 (by decide +kernel) ?_
  refine T_if1 (by decide +kernel) ?_
  refine T_put (by decide +kernel) (c := 255) (by decide +kernel) bdr_255 (by omega) c (fun s2 e5 c3 g6 => ?_)
  have f4 := z_Fr.up (R := R_X1_fewest_249) f g6 (fun _ => (Or.inr (Or.inr (Or.inl (⟨by decide, by decide⟩)))))
  have t7 : s2 191 16 = s 191 16 := g6 191 16 (by decide)
  have r8 := y_U3.fr p0 (g6 191 16 (by decide)) (g6 6 6 (by decide)) (g6 191 17 (by decide)) (g6 191 18 (by decide)) (fun b => g6 3 b (by decide)) (fun b => g6 8 b (by decide)) (fun b => g6 12 b (by decide)) (fun b => g6 14 b (by decide)) (fun b => g6 16 b (by decide)) (fun b => g6 18 b (by decide)) (fun b => g6 193 b (by decide)) (fun b => g6 195 b (by decide)) (fun b => g6 197 b (by decide)) (fun b => g6 199 b (by decide)) (fun b => g6 201 b (by decide)) (fun b => g6 203 b (by decide)) (fun b => g6 205 b (by decide)) (fun b => g6 207 b (by decide)) (fun b => g6 209 b (by decide)) (fun b => g6 211 b (by decide)) (fun b => g6 213 b (by decide)) (fun b => g6 215 b (by decide)) (fun b => g6 217 b (by decide)) (fun b => g6 219 b (by decide)) (fun b => g6 222 b (by decide))
  have r9 := y_B0.fr p0.1.1 (g6 211 0 (by decide)) (g6 213 0 (by decide))
  refine T_leq (fun x10 e11 => ?_)
  have w12 := z_wb e11
  exact hr s2 x10 c3 f4 (by omega) r8 (by omega)
theorem sl_X1_fewest_249K_L25 {fu : Nat} (hfu : 8589934592 ≤ fu) (r0 : z_M) (a1 : Int) (a2 : Int) (b1 : -2147483648 ≤ a1 ∧ a1 ≤ 2147483647) (b2 : -2147483648 ≤ a2 ∧ a2 ≤ 2147483647) {k : z_M → z_O} (hk : ∀ (s' : z_M), z_CI s' → z_Fr R_X1_fewest_249 r0 s' → (y_U3 s') → z_T (k s') (P_X1_fewest_249K r0)) : ∀ (F : Nat) (s : z_M) (a3 : Int), z_CI s → z_Fr R_X1_fewest_249 r0 s → ((-1) ≤ a3 ∧ a3 ≤ 199) → (y_U3 s) → (a3 + 2147483648 < (F : Int)) → z_T (fX1_fewest_L25 fu 249 a1 a2 F s a3 k) (P_X1_fewest_249K r0) := by
  intro F
  induction F with
  | zero =>
    intro s a3 c f b3 i0 hm
    have u10 := CI_b c (k := 191) (j := 16) bd_191_16
    exfalso; omega
  | succ F ih =>
    intro s a3 c f b3 i0 hm
    refine T_of (fX1_fewest_L25.eq_2 ..) ?_
    have u1 := CI_b c (k := 191) (j := 16) bd_191_16
    refine T_ite (fun h2 => ?_) (fun h2 => ?_)
    · exact hk s c f i0
    · refine sl_X1_fewest_249K_L37 hfu r0 a1 a2 a3 (by omega) (by omega) (by omega) (fun s3 y6 c4 f5 b7 g8 => ?_) fu s 201 a3 c f (by omega) (by omega) i0 (by omega) (by omega)
      have u9 := CI_b c4 (k := 191) (j := 16) bd_191_16
      exact sj_X1_fewest_249K_J134 hfu r0 s3 c4 f5 a1 a2 a3 y6 (by omega) (by omega) (by omega) (by omega) g8 (a3 + 2147483648) (by omega) (fun s' v3 c' f' w3 z0 pg => ih s' v3 c' f' w3 z0 (by omega)) hk
theorem sf_X1_fewest_249K {fu : Nat} (hfu : 8589934592 ≤ fu) (r0 : z_M) (c0 : z_CI r0) (a1 : Int) (a2 : Int) (b1 : -2147483648 ≤ a1 ∧ a1 ≤ 2147483647) (b2 : -2147483648 ≤ a2 ∧ a2 ≤ 2147483647) (p0 : y_U3 r0) : z_T (fX1_fewest fu r0 249 a1 a2) (P_X1_fewest_249K r0) := by
  refine T_of (fX1_fewest.eq_1 ..) ?_
  refine T_if1 (by decide +kernel) ?_
  refine T_let 254 (by decide +kernel) ?_
  refine T_if1 (by decide +kernel) ?_
  refine T_let 191 (by decide +kernel) ?_
  refine T_if1 (by decide +kernel) ?_
  refine T_leq (fun x1 e2 => ?_)
  have u3 := CI_b c0 (k := 191) (j := 16) bd_191_16
  refine T_if1 (by decide +kernel) ?_
  refine T_put (by decide +kernel) (c := 255) (by decide +kernel) bdr_255 (by omega) c0 (fun s4 e7 c5 g8 => ?_)
  have f6 := z_Fr.up (R := R_X1_fewest_249) z_Fr.rf g8 (fun _ => (Or.inr (Or.inr (Or.inl (⟨by decide, by decide⟩)))))
  have t9 : s4 191 16 = r0 191 16 := g8 191 16 (by decide)
  have r10 := y_U3.fr p0 (g8 191 16 (by decide)) (g8 6 6 (by decide)) (g8 191 17 (by decide)) (g8 191 18 (by decide)) (fun b => g8 3 b (by decide)) (fun b => g8 8 b (by decide)) (fun b => g8 12 b (by decide)) (fun b => g8 14 b (by decide)) (fun b => g8 16 b (by decide)) (fun b => g8 18 b (by decide)) (fun b => g8 193 b (by decide)) (fun b => g8 195 b (by decide)) (fun b => g8 197 b (by decide)) (fun b => g8 199 b (by decide)) (fun b => g8 201 b (by decide)) (fun b => g8 203 b (by decide)) (fun b => g8 205 b (by decide)) (fun b => g8 207 b (by decide)) (fun b => g8 209 b (by decide)) (fun b => g8 211 b (by decide)) (fun b => g8 213 b (by decide)) (fun b => g8 215 b (by decide)) (fun b => g8 217 b (by decide)) (fun b => g8 219 b (by decide)) (fun b => g8 222 b (by decide))
  have r11 := y_B0.fr p0.1.1 (g8 211 0 (by decide)) (g8 213 0 (by decide))
  refine T_if1 (by decide +kernel) ?_
  refine T_let 191 (by decide +kernel) ?_
  refine T_if1 (by decide +kernel) ?_
  refine T_leq (fun x12 e13 => ?_)
  have u14 := CI_b c5 (k := 191) (j := 16) bd_191_16
  refine T_leq (fun x15 e16 => ?_)
  have w17 := z_wb e16
  refine sl_X1_fewest_249K_L25 hfu r0 a1 a2 (by omega) (by omega) (fun s18 c19 f20 g21 => ?_) fu s4 x15 c5 f6 (by omega) r10 (by omega)
  have u22 := CI_b c19 (k := 191) (j := 16) bd_191_16
  refine T_if1 (by decide +kernel) ?_
  refine T_let 254 (by decide +kernel) ?_
  refine T_if1 (by decide +kernel) ?_
  refine T_get (by decide +kernel) (c := 255) (by decide +kernel) bdr_255 (by decide) c19 (fun x23 e24 b25 w26 => ?_)
  have l27 : z_ln 254 = 201 := by decide +kernel
  exact T_ret ⟨c19, f20, g21, ⟨x23, rfl, by omega, by omega⟩⟩
abbrev P_X11_shortestFor_1K (r0 : z_M) : z_V → z_M → Prop := fun v s' => z_CI s' ∧ z_Fr R_X11_shortestFor_1 r0 s' ∧ (y_U3 s') ∧ (∃ x, v = vI x ∧ -2147483648 ≤ x ∧ x ≤ 2147483647 ∧ (12 ≤ x ∧ x ≤ 1000))
theorem sj_X11_shortestFor_1K_J59 {fu : Nat} (hfu : 8589934592 ≤ fu) (r0 s : z_M) (c : z_CI s) (f : z_Fr R_X11_shortestFor_1 r0 s) (a1 : Int) (a2 : Int) (a3 : Int) (a4 : Int) (b1 : -2147483648 ≤ a1 ∧ a1 ≤ 2147483647) (b2 : -2147483648 ≤ a2 ∧ a2 ≤ 2147483647) (b3 : 12 ≤ a3 ∧ a3 ≤ 1000) (b4 : 12 ≤ a4 ∧ a4 ≤ 1000) (p0 : a3 ≤ a4) (p1 : y_U3 s) (M : Int) (pm : a4 - a3 < M) {r : z_M → Int → Int → z_O} {k : z_M → Int → z_O} (hr : ∀ (s' : z_M) (v3 : Int) (v4 : Int), z_CI s' → z_Fr R_X11_shortestFor_1 r0 s' → (12 ≤ v3 ∧ v3 ≤ 1000) → (12 ≤ v4 ∧ v4 ≤ 1000) → (v3 ≤ v4) → (y_U3 s') → (v4 - v3 < M) → z_T (r s' v3 v4) (P_X11_shortestFor_1K r0)) (hk : ∀ (s' : z_M) (v3 : Int), z_CI s' → z_Fr R_X11_shortestFor_1 r0 s' → (12 ≤ v3 ∧ v3 ≤ 1000) → (y_U3 s') → z_T (k s' v3) (P_X11_shortestFor_1K r0)) : z_T (fX11_shortestFor_J59 fu s 1 a1 a2 a3 a4 r k) (P_X11_shortestFor_1K r0) := by
  refine T_of (fX11_shortestFor_J59.eq_1 ..) ?_
  exact hr s a3 a4 c f (by omega) (by omega) (by omega) p1 (by omega)
theorem sl_X11_shortestFor_1K_L19 {fu : Nat} (hfu : 8589934592 ≤ fu) (r0 : z_M) (a1 : Int) (a2 : Int) (b1 : -2147483648 ≤ a1 ∧ a1 ≤ 2147483647) (b2 : -2147483648 ≤ a2 ∧ a2 ≤ 2147483647) {k : z_M → Int → z_O} (hk : ∀ (s' : z_M) (v3 : Int), z_CI s' → z_Fr R_X11_shortestFor_1 r0 s' → (12 ≤ v3 ∧ v3 ≤ 1000) → (y_U3 s') → z_T (k s' v3) (P_X11_shortestFor_1K r0)) : ∀ (F : Nat) (s : z_M) (a3 : Int) (a4 : Int), z_CI s → z_Fr R_X11_shortestFor_1 r0 s → (12 ≤ a3 ∧ a3 ≤ 1000) → (12 ≤ a4 ∧ a4 ≤ 1000) → (a3 ≤ a4) → (y_U3 s) → (a4 - a3 < (F : Int)) → z_T (fX11_shortestFor_L19 fu 1 a1 a2 F s a3 a4 k) (P_X11_shortestFor_1K r0) := by
  intro F
  induction F with
  | zero =>
    intro s a3 a4 c f b3 b4 i0 i1 hm
    exfalso; omega
  | succ F ih =>
    intro s a3 a4 c f b3 b4 i0 i1 hm
    refine T_of (fX11_shortestFor_L19.eq_2 ..) ?_
    refine T_ite (fun h1 => ?_) (fun h1 => ?_)
    · exact hk s a3 c f (by omega) i1
    · refine T_leq (fun x2 e3 => ?_)
      have w4 := z_wb e3
      refine T_if1 (by omega) ?_
      refine T_leq (fun x5 e6 => ?_)
      have w7 := z_wb e6
      have w8 := z_td2 (e := x2)
      refine T_if1 (by decide +kernel) ?_
      refine T_let 249 (by decide +kernel) ?_
      refine T_if1 (by decide +kernel) ?_
      refine T_useI (sf_X1_fewest_249K hfu s c x5 a2 (by omega) (by omega) i1) (fun v14 s9 hq => ?_)
      obtain ⟨c10, f11, o15, ⟨x13, rfl, b16, b17⟩⟩ := hq
      refine T_vI ?_
      have f12 := z_Fr.tr (R := R_X11_shortestFor_1) f f11 rs_X1_fewest_249__X11_shortestFor_1
      have r18 := y_B0.fr i1.1.1 (f11 211 0 (by decide)) (f11 213 0 (by decide))
      refine T_ite (fun h19 => ?_) (fun h19 => ?_)
      · refine T_leq (fun x20 e21 => ?_)
        have w22 := z_wb e21
        exact sj_X11_shortestFor_1K_J59 hfu r0 s9 c10 f12 a1 a2 x20 a4 (by omega) (by omega) (by omega) (by omega) (by omega) o15 (a4 - a3) (by omega) (fun s' v3 v4 c' f' w3 w4 z0 z1 pg => ih s' v3 v4 c' f' w3 w4 z0 z1 (by omega)) hk
      · exact sj_X11_shortestFor_1K_J59 hfu r0 s9 c10 f12 a1 a2 a3 x5 (by omega) (by omega) (by omega) (by omega) (by omega) o15 (a4 - a3) (by omega) (fun s' v3 v4 c' f' w3 w4 z0 z1 pg => ih s' v3 v4 c' f' w3 w4 z0 z1 (by omega)) hk
theorem sf_X11_shortestFor_1K {fu : Nat} (hfu : 8589934592 ≤ fu) (r0 : z_M) (c0 : z_CI r0) (a1 : Int) (a2 : Int) (b1 : -2147483648 ≤ a1 ∧ a1 ≤ 2147483647) (b2 : -2147483648 ≤ a2 ∧ a2 ≤ 2147483647) (p0 : y_U3 r0) : z_T (fX11_shortestFor fu r0 1 a1 a2) (P_X11_shortestFor_1K r0) := by
  refine T_of (fX11_shortestFor.eq_1 ..) ?_
  refine T_pick (by decide) (fun x1 e2 b3 => ?_)
  have b4 : x1 = (12 : Int) := by rw [← e2]; decide +kernel
  refine T_pick (by decide) (fun x5 e6 b7 => ?_)
  have b8 : x5 = (999 : Int) := by rw [← e6]; decide +kernel
  refine T_leq (fun x9 e10 => ?_)
  have w11 := z_wb e10
  refine sl_X11_shortestFor_1K_L19 hfu r0 a1 a2 (by omega) (by omega) (fun s12 y15 c13 f14 b16 g17 => ?_) fu r0 x1 x9 c0 z_Fr.rf (by omega) (by omega) (by omega) p0 (by omega)
  exact T_ret ⟨c13, f14, g17, ⟨y15, rfl, by omega, by omega, by omega⟩⟩
abbrev P_X1_longOfLine_249K (r0 : z_M) : z_V → z_M → Prop := fun v s' => z_CI s' ∧ z_Fr R_X1_longOfLine_249 r0 s' ∧ (y_U3 s') ∧ (∃ x, v = vI x ∧ -2147483648 ≤ x ∧ x ≤ 2147483647)
theorem sf_X1_longOfLine_249K {fu : Nat} (hfu : 8589934592 ≤ fu) (r0 : z_M) (c0 : z_CI r0) (a1 : Int) (b1 : -2147483648 ≤ a1 ∧ a1 ≤ 2147483647) (p0 : y_U3 r0) (p1 : y_SV 249 r0) (p2 : 0 ≤ a1) (p3 : a1 < r0 249 6) : z_T (fX1_longOfLine fu r0 249 a1) (P_X1_longOfLine_249K r0) := by
  refine T_of (fX1_longOfLine.eq_1 ..) ?_
  refine T_if1 (by decide +kernel) ?_
  refine T_let 220 (by decide +kernel) ?_
  refine T_if1 (by decide +kernel) ?_
  refine T_let 256 (by decide +kernel) ?_
  refine T_if1 (by decide +kernel) ?_
  refine T_get (by decide +kernel) (c := 257) (by decide +kernel) bdr_257 (by decide) c0 (fun x1 e2 b3 w4 => ?_)
  have l5 : z_ln 256 = 201 := by decide +kernel
  refine T_if1 (by decide +kernel) ?_
  refine T_let 256 (by decide +kernel) ?_
  refine T_leq (fun x6 e7 => ?_)
  have w8 := z_wb e7
  refine T_if1 (by decide +kernel) ?_
  refine T_get (by decide +kernel) (c := 257) (by decide +kernel) bdr_257 (by decide) c0 (fun x9 e10 b11 w12 => ?_)
  have l13 : z_ln 256 = 201 := by decide +kernel
  refine T_leq (fun x14 e15 => ?_)
  have w16 := z_wb e15
  refine T_if1 (by decide +kernel) ?_
  refine T_useI (sf_X5_lengthOf_220K hfu r0 c0 x1 x14 (by omega) (by omega) p0 (by have q8 := CI_b ‹z_CI r0› (k := 240) (j := 6) bd_240_6; have q9 := CI_b ‹z_CI r0› (k := 249) (j := 6) bd_249_6; have q7 := CI_b ‹z_CI r0› (k := 191) (j := 16) bd_191_16; first | exact y_AR.i (by omega) (by omega) (by omega) | exact y_SV.ar p1 (by assumption) (by assumption) rfl (by omega) (by omega) (by omega) (by omega) (by omega))) (fun v22 s17 hq => ?_)
  obtain ⟨c18, f19, o23, ⟨x21, rfl, b24, b25⟩⟩ := hq
  refine T_vI ?_
  have f20 := z_Fr.tr (R := R_X1_longOfLine_249) z_Fr.rf f19 rs_X5_lengthOf_220__X1_longOfLine_249
  have t26 : s17 240 6 = r0 240 6 := f19 240 6 (by decide)
  have t27 : s17 249 6 = r0 249 6 := f19 249 6 (by decide)
  have r28 := y_SV.fr p1 (f19 191 16 (by decide)) (f19 6 6 (by decide)) (f19 191 17 (by decide)) (f19 191 18 (by decide)) (fun b => f19 3 b (nr_X5_lengthOf_220__3 b)) (fun b => f19 8 b (nr_X5_lengthOf_220__8 b)) (fun b => f19 12 b (nr_X5_lengthOf_220__12 b)) (fun b => f19 14 b (nr_X5_lengthOf_220__14 b)) (fun b => f19 16 b (nr_X5_lengthOf_220__16 b)) (fun b => f19 18 b (nr_X5_lengthOf_220__18 b)) (fun b => f19 193 b (nr_X5_lengthOf_220__193 b)) (fun b => f19 195 b (nr_X5_lengthOf_220__195 b)) (fun b => f19 197 b (nr_X5_lengthOf_220__197 b)) (fun b => f19 199 b (nr_X5_lengthOf_220__199 b)) (fun b => f19 201 b (nr_X5_lengthOf_220__201 b)) (fun b => f19 203 b (nr_X5_lengthOf_220__203 b)) (fun b => f19 205 b (nr_X5_lengthOf_220__205 b)) (fun b => f19 207 b (nr_X5_lengthOf_220__207 b)) (fun b => f19 209 b (nr_X5_lengthOf_220__209 b)) (fun b => f19 211 b (nr_X5_lengthOf_220__211 b)) (fun b => f19 213 b (nr_X5_lengthOf_220__213 b)) (fun b => f19 215 b (nr_X5_lengthOf_220__215 b)) (fun b => f19 217 b (nr_X5_lengthOf_220__217 b)) (fun b => f19 219 b (nr_X5_lengthOf_220__219 b)) (f19 240 6 (by decide)) (fun b => f19 248 b (nr_X5_lengthOf_220__248 b)) (f19 249 6 (by decide)) (fun b => f19 257 b (nr_X5_lengthOf_220__257 b))
  have r29 := y_B0.fr p0.1.1 (f19 211 0 (by decide)) (f19 213 0 (by decide))
  exact T_ret ⟨c18, f20, o23, ⟨x21, rfl, by omega, by omega⟩⟩
abbrev P_X1_tooLong_249K (r0 : z_M) : z_V → z_M → Prop := fun v s' => z_CI s' ∧ z_Fr R_X1_tooLong_249 r0 s' ∧ (y_U3 s') ∧ (∃ x, v = vI x ∧ -2147483648 ≤ x ∧ x ≤ 2147483647)
theorem nr_X1_longOfLine_249__3 (b : Int) : ¬ R_X1_longOfLine_249 3 b := by
  unfold R_X1_longOfLine_249; omega
theorem nr_X1_longOfLine_249__8 (b : Int) : ¬ R_X1_longOfLine_249 8 b := by
  unfold R_X1_longOfLine_249; omega
theorem nr_X1_longOfLine_249__12 (b : Int) : ¬ R_X1_longOfLine_249 12 b := by
  unfold R_X1_longOfLine_249; omega
theorem nr_X1_longOfLine_249__14 (b : Int) : ¬ R_X1_longOfLine_249 14 b := by
  unfold R_X1_longOfLine_249; omega
theorem nr_X1_longOfLine_249__16 (b : Int) : ¬ R_X1_longOfLine_249 16 b := by
  unfold R_X1_longOfLine_249; omega
theorem nr_X1_longOfLine_249__18 (b : Int) : ¬ R_X1_longOfLine_249 18 b := by
  unfold R_X1_longOfLine_249; omega
theorem nr_X1_longOfLine_249__193 (b : Int) : ¬ R_X1_longOfLine_249 193 b := by
  unfold R_X1_longOfLine_249; omega
theorem nr_X1_longOfLine_249__195 (b : Int) : ¬ R_X1_longOfLine_249 195 b := by
  unfold R_X1_longOfLine_249; omega
theorem nr_X1_longOfLine_249__197 (b : Int) : ¬ R_X1_longOfLine_249 197 b := by
  unfold R_X1_longOfLine_249; omega
theorem nr_X1_longOfLine_249__199 (b : Int) : ¬ R_X1_longOfLine_249 199 b := by
  unfold R_X1_longOfLine_249; omega
theorem nr_X1_longOfLine_249__201 (b : Int) : ¬ R_X1_longOfLine_249 201 b := by
  unfold R_X1_longOfLine_249; omega
theorem nr_X1_longOfLine_249__203 (b : Int) : ¬ R_X1_longOfLine_249 203 b := by
  unfold R_X1_longOfLine_249; omega
theorem nr_X1_longOfLine_249__205 (b : Int) : ¬ R_X1_longOfLine_249 205 b := by
  unfold R_X1_longOfLine_249; omega
theorem nr_X1_longOfLine_249__207 (b : Int) : ¬ R_X1_longOfLine_249 207 b := by
  unfold R_X1_longOfLine_249; omega
theorem nr_X1_longOfLine_249__209 (b : Int) : ¬ R_X1_longOfLine_249 209 b := by
  unfold R_X1_longOfLine_249; omega
theorem nr_X1_longOfLine_249__211 (b : Int) : ¬ R_X1_longOfLine_249 211 b := by
  unfold R_X1_longOfLine_249; omega
theorem nr_X1_longOfLine_249__213 (b : Int) : ¬ R_X1_longOfLine_249 213 b := by
  unfold R_X1_longOfLine_249; omega
theorem nr_X1_longOfLine_249__215 (b : Int) : ¬ R_X1_longOfLine_249 215 b := by
  unfold R_X1_longOfLine_249; omega
theorem nr_X1_longOfLine_249__217 (b : Int) : ¬ R_X1_longOfLine_249 217 b := by
  unfold R_X1_longOfLine_249; omega
theorem nr_X1_longOfLine_249__219 (b : Int) : ¬ R_X1_longOfLine_249 219 b := by
  unfold R_X1_longOfLine_249; omega
theorem nr_X1_longOfLine_249__248 (b : Int) : ¬ R_X1_longOfLine_249 248 b := by
  unfold R_X1_longOfLine_249; omega
theorem nr_X1_longOfLine_249__257 (b : Int) : ¬ R_X1_longOfLine_249 257 b := by
  unfold R_X1_longOfLine_249; omega
theorem sj_X1_tooLong_249K_J27 {fu : Nat} (hfu : 8589934592 ≤ fu) (r0 s : z_M) (c : z_CI s) (f : z_Fr R_X1_tooLong_249 r0 s) (a1 : Int) (a3 : Int) (t0 : Int) (t1 : Int) (b1 : -2147483648 ≤ a1 ∧ a1 ≤ 2147483647) (b3 : 0 ≤ a3 ∧ a3 ≤ 2147483646) (d0 : -2147483648 ≤ t0 ∧ t0 ≤ 2147483647) (d1 : 0 ≤ t1 ∧ t1 ≤ 1) (p0 : y_U3 s) (p1 : y_SV 249 s) (M : Int) (pm : 2147483647 - a3 ≤ M) {r : z_M → Int → Int → z_O} {k : z_M → Int → z_O} (hr : ∀ (s' : z_M) (v2 : Int) (v3 : Int), z_CI s' → z_Fr R_X1_tooLong_249 r0 s' → (-2147483648 ≤ v2 ∧ v2 ≤ 2147483647) → (0 ≤ v3 ∧ v3 ≤ 2147483647) → (y_U3 s') → (y_SV 249 s') → (2147483647 - v3 < M) → z_T (r s' v2 v3) (P_X1_tooLong_249K r0)) (hk : ∀ (s' : z_M) (v2 : Int), z_CI s' → z_Fr R_X1_tooLong_249 r0 s' → (-2147483648 ≤ v2 ∧ v2 ≤ 2147483647) → (y_U3 s') → (y_SV 249 s') → z_T (k s' v2) (P_X1_tooLong_249K r0)) : z_T (fX1_tooLong_J27 fu s 249 a1 a3 t0 t1 r k) (P_X1_tooLong_249K r0) := by
  refine T_of (fX1_tooLong_J27.eq_1 ..) ?_
  have u1 := CI_b c (k := 249) (j := 6) bd_249_6
  refine T_leq (fun x2 e3 => ?_)
  have w4 := z_wb e3
  refine T_leq (fun x5 e6 => ?_)
  have w7 := z_wb e6
  exact hr s x2 x5 c f (by omega) (by omega) p0 p1 (by omega)
theorem sl_X1_tooLong_249K_L4 {fu : Nat} (hfu : 8589934592 ≤ fu) (r0 : z_M) (a1 : Int) (b1 : -2147483648 ≤ a1 ∧ a1 ≤ 2147483647) {k : z_M → Int → z_O} (hk : ∀ (s' : z_M) (v2 : Int), z_CI s' → z_Fr R_X1_tooLong_249 r0 s' → (-2147483648 ≤ v2 ∧ v2 ≤ 2147483647) → (y_U3 s') → (y_SV 249 s') → z_T (k s' v2) (P_X1_tooLong_249K r0)) : ∀ (F : Nat) (s : z_M) (a2 : Int) (a3 : Int), z_CI s → z_Fr R_X1_tooLong_249 r0 s → (-2147483648 ≤ a2 ∧ a2 ≤ 2147483647) → (0 ≤ a3 ∧ a3 ≤ 2147483647) → (y_U3 s) → (y_SV 249 s) → (2147483647 - a3 < (F : Int)) → z_T (fX1_tooLong_L4 fu 249 a1 F s a2 a3 k) (P_X1_tooLong_249K r0) := by
  intro F
  induction F with
  | zero =>
    intro s a2 a3 c f b2 b3 i0 i1 hm
    have u19 := CI_b c (k := 249) (j := 6) bd_249_6
    exfalso; omega
  | succ F ih =>
    intro s a2 a3 c f b2 b3 i0 i1 hm
    refine T_of (fX1_tooLong_L4.eq_2 ..) ?_
    have u1 := CI_b c (k := 249) (j := 6) bd_249_6
    refine T_if1 (by decide +kernel) ?_
    refine T_leq (fun x2 e3 => ?_)
    have u4 := CI_b c (k := 249) (j := 6) bd_249_6
    refine T_ite (fun h5 => ?_) (fun h5 => ?_)
    · exact hk s a2 c f (by omega) i0 i1
    · refine T_if1 (by decide +kernel) ?_
      refine T_useI (sf_X1_longOfLine_249K hfu s c a3 (by omega) i0 i1 (by omega) (by omega)) (fun v11 s6 hq => ?_)
      obtain ⟨c7, f8, o12, ⟨x10, rfl, b13, b14⟩⟩ := hq
      refine T_vI ?_
      have f9 := z_Fr.tr (R := R_X1_tooLong_249) f f8 rs_X1_longOfLine_249__X1_tooLong_249
      have t15 : s6 249 6 = s 249 6 := f8 249 6 (by decide)
      have r16 := y_SV.fr i1 (f8 191 16 (by decide)) (f8 6 6 (by decide)) (f8 191 17 (by decide)) (f8 191 18 (by decide)) (fun b => f8 3 b (nr_X1_longOfLine_249__3 b)) (fun b => f8 8 b (nr_X1_longOfLine_249__8 b)) (fun b => f8 12 b (nr_X1_longOfLine_249__12 b)) (fun b => f8 14 b (nr_X1_longOfLine_249__14 b)) (fun b => f8 16 b (nr_X1_longOfLine_249__16 b)) (fun b => f8 18 b (nr_X1_longOfLine_249__18 b)) (fun b => f8 193 b (nr_X1_longOfLine_249__193 b)) (fun b => f8 195 b (nr_X1_longOfLine_249__195 b)) (fun b => f8 197 b (nr_X1_longOfLine_249__197 b)) (fun b => f8 199 b (nr_X1_longOfLine_249__199 b)) (fun b => f8 201 b (nr_X1_longOfLine_249__201 b)) (fun b => f8 203 b (nr_X1_longOfLine_249__203 b)) (fun b => f8 205 b (nr_X1_longOfLine_249__205 b)) (fun b => f8 207 b (nr_X1_longOfLine_249__207 b)) (fun b => f8 209 b (nr_X1_longOfLine_249__209 b)) (fun b => f8 211 b (nr_X1_longOfLine_249__211 b)) (fun b => f8 213 b (nr_X1_longOfLine_249__213 b)) (fun b => f8 215 b (nr_X1_longOfLine_249__215 b)) (fun b => f8 217 b (nr_X1_longOfLine_249__217 b)) (fun b => f8 219 b (nr_X1_longOfLine_249__219 b)) (f8 240 6 (by decide)) (fun b => f8 248 b (nr_X1_longOfLine_249__248 b)) (f8 249 6 (by decide)) (fun b => f8 257 b (nr_X1_longOfLine_249__257 b))
      have r17 := y_B0.fr i0.1.1 (f8 211 0 (by decide)) (f8 213 0 (by decide))
      refine T_ite (fun h18 => ?_) (fun h18 => ?_)
      · exact sj_X1_tooLong_249K_J27 hfu r0 s6 c7 f9 a1 a3 a2 0 (by omega) (by omega) (by omega) (by omega) o12 r16 (2147483647 - a3) (by omega) (fun s' v2 v3 c' f' w2 w3 z0 z1 pg => ih s' v2 v3 c' f' w2 w3 z0 z1 (by omega)) hk
      · exact sj_X1_tooLong_249K_J27 hfu r0 s6 c7 f9 a1 a3 a2 1 (by omega) (by omega) (by omega) (by omega) o12 r16 (2147483647 - a3) (by omega) (fun s' v2 v3 c' f' w2 w3 z0 z1 pg => ih s' v2 v3 c' f' w2 w3 z0 z1 (by omega)) hk
theorem sf_X1_tooLong_249K {fu : Nat} (hfu : 8589934592 ≤ fu) (r0 : z_M) (c0 : z_CI r0) (a1 : Int) (b1 : -2147483648 ≤ a1 ∧ a1 ≤ 2147483647) (p0 : y_U3 r0) (p1 : y_SV 249 r0) : z_T (fX1_tooLong fu r0 249 a1) (P_X1_tooLong_249K r0) := by
  refine T_of (fX1_tooLong.eq_1 ..) ?_
  refine sl_X1_tooLong_249K_L4 hfu r0 a1 (by omega) (fun s1 y4 c2 f3 b5 g6 g7 => ?_) fu r0 0 0 c0 z_Fr.rf (by omega) (by omega) p0 p1 (by omega)
  have u8 := CI_b c2 (k := 249) (j := 6) bd_249_6
  exact T_ret ⟨c2, f3, g6, ⟨y4, rfl, by omega, by omega⟩⟩
abbrev P_X11_least_1K (r0 : z_M) : z_V → z_M → Prop := fun v s' => z_CI s' ∧ z_Fr R_X11_least_1 r0 s' ∧ (y_V3 s') ∧ ((∃ x, v = vI x ∧ -2147483648 ≤ x ∧ x ≤ 2147483647) ∨ v = vX 1)
theorem nr_X11_shortestFor_1__248 (b : Int) : ¬ R_X11_shortestFor_1 248 b := by
  unfold R_X11_shortestFor_1; omega
theorem sj_X11_least_1K_J80 {fu : Nat} (hfu : 8589934592 ≤ fu) (r0 s : z_M) (c : z_CI s) (f : z_Fr R_X11_least_1 r0 s) (a1 : Int) (a2 : Int) (a3 : Int) (a4 : Int) (b1 : -2147483648 ≤ a1 ∧ a1 ≤ 2147483647) (b2 : -2147483648 ≤ a2 ∧ a2 ≤ 2147483647) (b3 : 999 ≤ a3 ∧ a3 ≤ 999) (b4 : 12 ≤ a4 ∧ a4 ≤ 999) (p0 : y_U3 s) (p1 : y_SV 240 s) (M : Int) (pm : 2147483647 - a4 ≤ M) {r : z_M → Int → z_O} {k : z_M → z_O} (hr : ∀ (s' : z_M) (v4 : Int), z_CI s' → z_Fr R_X11_least_1 r0 s' → (12 ≤ v4 ∧ v4 ≤ 1000) → (y_U3 s') → (y_SV 240 s') → (2147483647 - v4 < M) → z_T (r s' v4) (P_X11_least_1K r0)) (hk : ∀ (s' : z_M), z_CI s' → z_Fr R_X11_least_1 r0 s' → (y_V3 s') → z_T (k s') (P_X11_least_1K r0)) : z_T (fX11_least_J80 fu s 1 a1 a2 a3 a4 r k) (P_X11_least_1K r0) := by
  refine T_of (fX11_least_J80.eq_1 ..) ?_
  have u1 := CI_b c (k := 249) (j := 6) bd_249_6
  refine T_leq (fun x2 e3 => ?_)
  have w4 := z_wb e3
  exact hr s x2 c f (by omega) p0 p1 (by omega)
theorem nr_X1_tooLong_249__248 (b : Int) : ¬ R_X1_tooLong_249 248 b := by
  unfold R_X1_tooLong_249; omega
theorem nr_X1_tooLong_249__257 (b : Int) : ¬ R_X1_tooLong_249 257 b := by
  unfold R_X1_tooLong_249; omega
theorem sl_X11_least_1K_L38 {fu : Nat} (hfu : 8589934592 ≤ fu) (r0 : z_M) (a1 : Int) (a2 : Int) (a3 : Int) (b1 : -2147483648 ≤ a1 ∧ a1 ≤ 2147483647) (b2 : -2147483648 ≤ a2 ∧ a2 ≤ 2147483647) (b3 : 999 ≤ a3 ∧ a3 ≤ 999) {k : z_M → z_O} (hk : ∀ (s' : z_M), z_CI s' → z_Fr R_X11_least_1 r0 s' → (y_V3 s') → z_T (k s') (P_X11_least_1K r0)) : ∀ (F : Nat) (s : z_M) (a4 : Int), z_CI s → z_Fr R_X11_least_1 r0 s → (12 ≤ a4 ∧ a4 ≤ 1000) → (y_U3 s) → (y_SV 240 s) → (2147483647 - a4 < (F : Int)) → z_T (fX11_least_L38 fu 1 a1 a2 a3 F s a4 k) (P_X11_least_1K r0) := by
  intro F
  induction F with
  | zero =>
    intro s a4 c f b4 i0 i1 hm
    have u34 := CI_b c (k := 249) (j := 6) bd_249_6
    exfalso; omega
  | succ F ih =>
    intro s a4 c f b4 i0 i1 hm
    refine T_of (fX11_least_L38.eq_2 ..) ?_
    have u1 := CI_b c (k := 249) (j := 6) bd_249_6
    refine T_ite (fun h2 => ?_) (fun h2 => ?_)
    · exact hk s c f (y_V3.u i0 (Or.inr i1))
    · refine T_if1 (by decide +kernel) ?_
      refine T_let 249 (by decide +kernel) ?_
      refine T_if1 (by decide +kernel) ?_
      refine T_useN (sf_X1_go_249K hfu s c a4 a2 (by omega) (by omega) i0 (by first | exact y_LNr.i (by omega) | exact y_LNr.t (by assumption) rfl | exact y_LNr.t (by assumption) (by omega))) (fun v8 s3 hq => ?_)
      obtain ⟨c4, f5, o9, o10, rfl⟩ := hq
      refine T_vN ?_
      have f6 := z_Fr.tr (R := R_X11_least_1) f f5 rs_X1_go_249__X11_least_1
      have u13 := CI_b c4 (k := 249) (j := 6) bd_249_6
      have r14 := y_SA.fr i1 (f5 191 16 (by decide)) (f5 6 6 (by decide)) (f5 191 17 (by decide)) (f5 191 18 (by decide)) (fun b => f5 3 b (nr_X1_go_249__3 b)) (fun b => f5 8 b (nr_X1_go_249__8 b)) (fun b => f5 12 b (nr_X1_go_249__12 b)) (fun b => f5 14 b (nr_X1_go_249__14 b)) (fun b => f5 16 b (nr_X1_go_249__16 b)) (fun b => f5 18 b (nr_X1_go_249__18 b)) (fun b => f5 193 b (nr_X1_go_249__193 b)) (fun b => f5 195 b (nr_X1_go_249__195 b)) (fun b => f5 197 b (nr_X1_go_249__197 b)) (fun b => f5 199 b (nr_X1_go_249__199 b)) (fun b => f5 201 b (nr_X1_go_249__201 b)) (fun b => f5 203 b (nr_X1_go_249__203 b)) (fun b => f5 205 b (nr_X1_go_249__205 b)) (fun b => f5 207 b (nr_X1_go_249__207 b)) (fun b => f5 209 b (nr_X1_go_249__209 b)) (fun b => f5 211 b (nr_X1_go_249__211 b)) (fun b => f5 213 b (nr_X1_go_249__213 b)) (fun b => f5 215 b (nr_X1_go_249__215 b)) (fun b => f5 217 b (nr_X1_go_249__217 b)) (fun b => f5 219 b (nr_X1_go_249__219 b)) (f5 240 6 (by decide)) (fun b => f5 248 b (nr_X1_go_249__248 b))
      have r15 := y_B0.fr i0.1.1 (f5 211 0 (by decide)) (f5 213 0 (by decide))
      refine T_if1 (by decide +kernel) ?_
      refine T_let 249 (by decide +kernel) ?_
      refine T_if1 (by decide +kernel) ?_
      refine T_leq (fun x16 e17 => ?_)
      have u18 := CI_b c4 (k := 249) (j := 6) bd_249_6
      refine T_ite (fun h19 => ?_) (fun h19 => ?_)
      · exact sj_X11_least_1K_J80 hfu r0 s3 c4 f6 a1 a2 a3 a4 (by omega) (by omega) (by omega) (by omega) o9 r14 (2147483647 - a4) (by omega) (fun s' v4 c' f' w4 z0 z1 pg => ih s' v4 c' f' w4 z0 z1 (by omega)) hk
      · refine T_if1 (by decide +kernel) ?_
        refine T_let 249 (by decide +kernel) ?_
        refine T_if1 (by decide +kernel) ?_
        refine T_useI (sf_X1_tooLong_249K hfu s3 c4 a4 (by omega) o9 o10) (fun v25 s20 hq => ?_)
        obtain ⟨c21, f22, o26, ⟨x24, rfl, b27, b28⟩⟩ := hq
        refine T_vI ?_
        have f23 := z_Fr.tr (R := R_X11_least_1) f6 f22 rs_X1_tooLong_249__X11_least_1
        have t29 : s20 249 6 = s3 249 6 := f22 249 6 (by decide)
        have r30 := y_SA.fr r14 (f22 191 16 (by decide)) (f22 6 6 (by decide)) (f22 191 17 (by decide)) (f22 191 18 (by decide)) (fun b => f22 3 b (nr_X1_tooLong_249__3 b)) (fun b => f22 8 b (nr_X1_tooLong_249__8 b)) (fun b => f22 12 b (nr_X1_tooLong_249__12 b)) (fun b => f22 14 b (nr_X1_tooLong_249__14 b)) (fun b => f22 16 b (nr_X1_tooLong_249__16 b)) (fun b => f22 18 b (nr_X1_tooLong_249__18 b)) (fun b => f22 193 b (nr_X1_tooLong_249__193 b)) (fun b => f22 195 b (nr_X1_tooLong_249__195 b)) (fun b => f22 197 b (nr_X1_tooLong_249__197 b)) (fun b => f22 199 b (nr_X1_tooLong_249__199 b)) (fun b => f22 201 b (nr_X1_tooLong_249__201 b)) (fun b => f22 203 b (nr_X1_tooLong_249__203 b)) (fun b => f22 205 b (nr_X1_tooLong_249__205 b)) (fun b => f22 207 b (nr_X1_tooLong_249__207 b)) (fun b => f22 209 b (nr_X1_tooLong_249__209 b)) (fun b => f22 211 b (nr_X1_tooLong_249__211 b)) (fun b => f22 213 b (nr_X1_tooLong_249__213 b)) (fun b => f22 215 b (nr_X1_tooLong_249__215 b)) (fun b => f22 217 b (nr_X1_tooLong_249__217 b)) (fun b => f22 219 b (nr_X1_tooLong_249__219 b)) (f22 240 6 (by decide)) (fun b => f22 248 b (nr_X1_tooLong_249__248 b))
        have r31 := y_B0.fr o9.1.1 (f22 211 0 (by decide)) (f22 213 0 (by decide))
        have r32 := y_SV.fr o10 (f22 191 16 (by decide)) (f22 6 6 (by decide)) (f22 191 17 (by decide)) (f22 191 18 (by decide)) (fun b => f22 3 b (nr_X1_tooLong_249__3 b)) (fun b => f22 8 b (nr_X1_tooLong_249__8 b)) (fun b => f22 12 b (nr_X1_tooLong_249__12 b)) (fun b => f22 14 b (nr_X1_tooLong_249__14 b)) (fun b => f22 16 b (nr_X1_tooLong_249__16 b)) (fun b => f22 18 b (nr_X1_tooLong_249__18 b)) (fun b => f22 193 b (nr_X1_tooLong_249__193 b)) (fun b => f22 195 b (nr_X1_tooLong_249__195 b)) (fun b => f22 197 b (nr_X1_tooLong_249__197 b)) (fun b => f22 199 b (nr_X1_tooLong_249__199 b)) (fun b => f22 201 b (nr_X1_tooLong_249__201 b)) (fun b => f22 203 b (nr_X1_tooLong_249__203 b)) (fun b => f22 205 b (nr_X1_tooLong_249__205 b)) (fun b => f22 207 b (nr_X1_tooLong_249__207 b)) (fun b => f22 209 b (nr_X1_tooLong_249__209 b)) (fun b => f22 211 b (nr_X1_tooLong_249__211 b)) (fun b => f22 213 b (nr_X1_tooLong_249__213 b)) (fun b => f22 215 b (nr_X1_tooLong_249__215 b)) (fun b => f22 217 b (nr_X1_tooLong_249__217 b)) (fun b => f22 219 b (nr_X1_tooLong_249__219 b)) (f22 240 6 (by decide)) (fun b => f22 248 b (nr_X1_tooLong_249__248 b)) (f22 249 6 (by decide)) (fun b => f22 257 b (nr_X1_tooLong_249__257 b))
        refine T_ite (fun h33 => ?_) (fun h33 => ?_)
        · exact sj_X11_least_1K_J80 hfu r0 s20 c21 f23 a1 a2 a3 a4 (by omega) (by omega) (by omega) (by omega) o26 r30 (2147483647 - a4) (by omega) (fun s' v4 c' f' w4 z0 z1 pg => ih s' v4 c' f' w4 z0 z1 (by omega)) hk
        · exact T_ret ⟨c21, f23, (y_V3.u o26 (Or.inr r30)), Or.inl (⟨a4, rfl, by omega, by omega⟩)⟩
theorem sf_X11_least_1K {fu : Nat} (hfu : 8589934592 ≤ fu) (r0 : z_M) (c0 : z_CI r0) (a1 : Int) (b1 : -2147483648 ≤ a1 ∧ a1 ≤ 2147483647) (p0 : y_V3 r0) : z_T (fX11_least fu r0 1 a1) (P_X11_least_1K r0) := by
  refine T_of (fX11_least.eq_1 ..) ?_
  refine T_if1 (by decide +kernel) ?_
  refine T_nw ?_ (fun h1 h2 => ?_)
  · exact T_ret ⟨CI_up c0 bd_1_15 (z_wb rfl).1, z_Fr.upf (R := R_X11_least_1) z_Fr.rf (fun a b h => z_up_k h) (fun b h => z_up_j h) (Or.inr (Or.inr (Or.inr (Or.inr (Or.inr (Or.inr (Or.inr (Or.inr (Or.inl (⟨rfl, by decide⟩)))))))))), y_V3.fr p0 (z_up_j (by decide)) (z_up_j (by decide)) (z_up_k (by decide)) (z_up_k (by decide)) (z_up_k (by decide)) (z_up_k (by decide)) (fun _ => z_up_k (by decide)) (fun _ => z_up_k (by decide)) (fun _ => z_up_k (by decide)) (fun _ => z_up_k (by decide)) (fun _ => z_up_k (by decide)) (fun _ => z_up_k (by decide)) (fun _ => z_up_k (by decide)) (fun _ => z_up_k (by decide)) (fun _ => z_up_k (by decide)) (fun _ => z_up_k (by decide)) (fun _ => z_up_k (by decide)) (fun _ => z_up_k (by decide)) (fun _ => z_up_k (by decide)) (fun _ => z_up_k (by decide)) (fun _ => z_up_k (by decide)) (fun _ => z_up_k (by decide)) (fun _ => z_up_k (by decide)) (fun _ => z_up_k (by decide)) (fun _ => z_up_k (by decide)) (fun _ => z_up_k (by decide)) (fun _ => z_up_k (by decide)) (z_up_k (by decide)) (fun _ => z_up_k (by decide)), Or.inr rfl⟩
  refine T_if1 (by decide +kernel) ?_
  refine T_useN (sf_X11_refresh_1K hfu r0 c0 p0) (fun v8 s3 hq => ?_)
  obtain ⟨c4, f5, o9, o10, rfl⟩ := hq
  refine T_vN ?_
  have f6 := z_Fr.tr (R := R_X11_least_1) z_Fr.rf f5 rs_X11_refresh_1__X11_least_1
  have t13 : s3 249 6 = r0 249 6 := f5 249 6 (by decide)
  refine T_if1 (by decide +kernel) ?_
  refine T_let 2 (by decide +kernel) ?_
  refine T_if1 (by decide +kernel) ?_
  refine T_get (by decide +kernel) (c := 3) (by decide +kernel) bdr_3 (by decide) c4 (fun x14 e15 b16 w17 => ?_)
  have l18 : z_ln 2 = 9 := by decide +kernel
  refine T_pick (by decide) (fun x19 e20 b21 => ?_)
  have b22 : x19 = (999 : Int) := by rw [← e20]; decide +kernel
  refine T_if1 (by decide +kernel) ?_
  refine T_useI (sf_X11_shortestFor_1K hfu s3 c4 a1 x14 (by omega) (by omega) o9) (fun v28 s23 hq => ?_)
  obtain ⟨c24, f25, o29, ⟨x27, rfl, b30, b31, o32⟩⟩ := hq
  refine T_vI ?_
  have f26 := z_Fr.tr (R := R_X11_least_1) f6 f25 rs_X11_shortestFor_1__X11_least_1
  have t33 : s23 249 6 = s3 249 6 := f25 249 6 (by decide)
  have r34 := y_SA.fr o10 (f25 191 16 (by decide)) (f25 6 6 (by decide)) (f25 191 17 (by decide)) (f25 191 18 (by decide)) (fun b => f25 3 b (nr_X11_shortestFor_1__3 b)) (fun b => f25 8 b (nr_X11_shortestFor_1__8 b)) (fun b => f25 12 b (nr_X11_shortestFor_1__12 b)) (fun b => f25 14 b (nr_X11_shortestFor_1__14 b)) (fun b => f25 16 b (nr_X11_shortestFor_1__16 b)) (fun b => f25 18 b (nr_X11_shortestFor_1__18 b)) (fun b => f25 193 b (nr_X11_shortestFor_1__193 b)) (fun b => f25 195 b (nr_X11_shortestFor_1__195 b)) (fun b => f25 197 b (nr_X11_shortestFor_1__197 b)) (fun b => f25 199 b (nr_X11_shortestFor_1__199 b)) (fun b => f25 201 b (nr_X11_shortestFor_1__201 b)) (fun b => f25 203 b (nr_X11_shortestFor_1__203 b)) (fun b => f25 205 b (nr_X11_shortestFor_1__205 b)) (fun b => f25 207 b (nr_X11_shortestFor_1__207 b)) (fun b => f25 209 b (nr_X11_shortestFor_1__209 b)) (fun b => f25 211 b (nr_X11_shortestFor_1__211 b)) (fun b => f25 213 b (nr_X11_shortestFor_1__213 b)) (fun b => f25 215 b (nr_X11_shortestFor_1__215 b)) (fun b => f25 217 b (nr_X11_shortestFor_1__217 b)) (fun b => f25 219 b (nr_X11_shortestFor_1__219 b)) (f25 240 6 (by decide)) (fun b => f25 248 b (nr_X11_shortestFor_1__248 b))
  have r35 := y_B0.fr o9.1.1 (f25 211 0 (by decide)) (f25 213 0 (by decide))
  refine sl_X11_least_1K_L38 hfu r0 a1 x14 x19 (by omega) (by omega) (by omega) (fun s36 c37 f38 g39 => ?_) fu s23 x27 c24 f26 (by omega) o29 r34 (by omega)
  have u40 := CI_b c37 (k := 249) (j := 6) bd_249_6
  exact T_ret ⟨c37, f38, g39, Or.inl (⟨(-1), rfl, by omega, by omega⟩)⟩
abbrev P_X1_costs_249K (r0 : z_M) : z_V → z_M → Prop := fun v s' => z_CI s' ∧ z_Fr R_X1_costs_249 r0 s' ∧ (y_U3 s') ∧ (∃ x, v = vL x ∧ -9223372036854775808 ≤ x ∧ x ≤ 9223372036854775807)
theorem sj_X1_costs_249K_J38 {fu : Nat} (hfu : 8589934592 ≤ fu) (r0 s : z_M) (c : z_CI s) (f : z_Fr R_X1_costs_249 r0 s) (a1 : Int) (a4 : Int) (t0 : Int) (t1 : Int) (t2 : Int) (t3 : Int) (b1 : -2147483648 ≤ a1 ∧ a1 ≤ 2147483647) (b4 : 0 ≤ a4 ∧ a4 ≤ 2147483646) (d0 : -9223372036854775808 ≤ t0 ∧ t0 ≤ 9223372036854775807) (d1 : -2147483648 ≤ t1 ∧ t1 ≤ 2147483647) (d2 : -2147483648 ≤ t2 ∧ t2 ≤ 2147483647) (d3 : 0 ≤ t3 ∧ t3 ≤ 1) (p0 : y_U3 s) (p1 : y_SV 249 s) (M : Int) (pm : 2147483647 - a4 ≤ M) {r : z_M → Int → Int → z_O} {k : z_M → Int → z_O} (hr : ∀ (s' : z_M) (v2 : Int) (v4 : Int), z_CI s' → z_Fr R_X1_costs_249 r0 s' → (-9223372036854775808 ≤ v2 ∧ v2 ≤ 9223372036854775807) → (0 ≤ v4 ∧ v4 ≤ 2147483647) → (y_U3 s') → (y_SV 249 s') → (2147483647 - v4 < M) → z_T (r s' v2 v4) (P_X1_costs_249K r0)) (hk : ∀ (s' : z_M) (v2 : Int), z_CI s' → z_Fr R_X1_costs_249 r0 s' → (-9223372036854775808 ≤ v2 ∧ v2 ≤ 9223372036854775807) → (y_U3 s') → (y_SV 249 s') → z_T (k s' v2) (P_X1_costs_249K r0)) : z_T (fX1_costs_J38 fu s 249 a1 a4 t0 t1 t2 t3 r k) (P_X1_costs_249K r0) := by
  refine T_of (fX1_costs_J38.eq_1 ..) ?_
  have u1 := CI_b c (k := 249) (j := 6) bd_249_6
  refine T_useL (sf_X1_costFor hfu s c t1 t2 t3 (by omega) (by omega) (by omega)) (fun v7 s2 hq => ?_)
  obtain ⟨c3, f4, ⟨x6, rfl, b8, b9⟩⟩ := hq
  refine T_vL ?_
  have f5 := z_Fr.tr (R := R_X1_costs_249) f f4 (fun a b h => absurd h not_false)
  have t10 : s2 249 6 = s 249 6 := f4 249 6 (by decide)
  have r11 := y_U3.fr p0 (f4 191 16 (by decide)) (f4 6 6 (by decide)) (f4 191 17 (by decide)) (f4 191 18 (by decide)) (fun b => f4 3 b (nr_X1_costFor__3 b)) (fun b => f4 8 b (nr_X1_costFor__8 b)) (fun b => f4 12 b (nr_X1_costFor__12 b)) (fun b => f4 14 b (nr_X1_costFor__14 b)) (fun b => f4 16 b (nr_X1_costFor__16 b)) (fun b => f4 18 b (nr_X1_costFor__18 b)) (fun b => f4 193 b (nr_X1_costFor__193 b)) (fun b => f4 195 b (nr_X1_costFor__195 b)) (fun b => f4 197 b (nr_X1_costFor__197 b)) (fun b => f4 199 b (nr_X1_costFor__199 b)) (fun b => f4 201 b (nr_X1_costFor__201 b)) (fun b => f4 203 b (nr_X1_costFor__203 b)) (fun b => f4 205 b (nr_X1_costFor__205 b)) (fun b => f4 207 b (nr_X1_costFor__207 b)) (fun b => f4 209 b (nr_X1_costFor__209 b)) (fun b => f4 211 b (nr_X1_costFor__211 b)) (fun b => f4 213 b (nr_X1_costFor__213 b)) (fun b => f4 215 b (nr_X1_costFor__215 b)) (fun b => f4 217 b (nr_X1_costFor__217 b)) (fun b => f4 219 b (nr_X1_costFor__219 b)) (fun b => f4 222 b (nr_X1_costFor__222 b))
  have r12 := y_SV.fr p1 (f4 191 16 (by decide)) (f4 6 6 (by decide)) (f4 191 17 (by decide)) (f4 191 18 (by decide)) (fun b => f4 3 b (nr_X1_costFor__3 b)) (fun b => f4 8 b (nr_X1_costFor__8 b)) (fun b => f4 12 b (nr_X1_costFor__12 b)) (fun b => f4 14 b (nr_X1_costFor__14 b)) (fun b => f4 16 b (nr_X1_costFor__16 b)) (fun b => f4 18 b (nr_X1_costFor__18 b)) (fun b => f4 193 b (nr_X1_costFor__193 b)) (fun b => f4 195 b (nr_X1_costFor__195 b)) (fun b => f4 197 b (nr_X1_costFor__197 b)) (fun b => f4 199 b (nr_X1_costFor__199 b)) (fun b => f4 201 b (nr_X1_costFor__201 b)) (fun b => f4 203 b (nr_X1_costFor__203 b)) (fun b => f4 205 b (nr_X1_costFor__205 b)) (fun b => f4 207 b (nr_X1_costFor__207 b)) (fun b => f4 209 b (nr_X1_costFor__209 b)) (fun b => f4 211 b (nr_X1_costFor__211 b)) (fun b => f4 213 b (nr_X1_costFor__213 b)) (fun b => f4 215 b (nr_X1_costFor__215 b)) (fun b => f4 217 b (nr_X1_costFor__217 b)) (fun b => f4 219 b (nr_X1_costFor__219 b)) (f4 240 6 (by decide)) (fun b => f4 248 b (nr_X1_costFor__248 b)) (f4 249 6 (by decide)) (fun b => f4 257 b (nr_X1_costFor__257 b))
  have r13 := y_B0.fr p0.1.1 (f4 211 0 (by decide)) (f4 213 0 (by decide))
  refine T_leq (fun x14 e15 => ?_)
  have w16 := z_wlr e15
  refine T_leq (fun x17 e18 => ?_)
  have w19 := z_wb e18
  exact hr s2 x14 x17 c3 f5 (by omega) (by omega) r11 r12 (by omega)
theorem sl_X1_costs_249K_L5 {fu : Nat} (hfu : 8589934592 ≤ fu) (r0 : z_M) (a1 : Int) (b1 : -2147483648 ≤ a1 ∧ a1 ≤ 2147483647) {k : z_M → Int → z_O} (hk : ∀ (s' : z_M) (v2 : Int), z_CI s' → z_Fr R_X1_costs_249 r0 s' → (-9223372036854775808 ≤ v2 ∧ v2 ≤ 9223372036854775807) → (y_U3 s') → (y_SV 249 s') → z_T (k s' v2) (P_X1_costs_249K r0)) : ∀ (F : Nat) (s : z_M) (a2 : Int) (a4 : Int), z_CI s → z_Fr R_X1_costs_249 r0 s → (-9223372036854775808 ≤ a2 ∧ a2 ≤ 9223372036854775807) → (0 ≤ a4 ∧ a4 ≤ 2147483647) → (y_U3 s) → (y_SV 249 s) → (2147483647 - a4 < (F : Int)) → z_T (fX1_costs_L5 fu 249 a1 F s a2 a4 k) (P_X1_costs_249K r0) := by
  intro F
  induction F with
  | zero =>
    intro s a2 a4 c f b2 b4 i0 i1 hm
    have u25 := CI_b c (k := 249) (j := 6) bd_249_6
    exfalso; omega
  | succ F ih =>
    intro s a2 a4 c f b2 b4 i0 i1 hm
    refine T_of (fX1_costs_L5.eq_2 ..) ?_
    have u1 := CI_b c (k := 249) (j := 6) bd_249_6
    refine T_if1 (by decide +kernel) ?_
    refine T_leq (fun x2 e3 => ?_)
    have u4 := CI_b c (k := 249) (j := 6) bd_249_6
    refine T_ite (fun h5 => ?_) (fun h5 => ?_)
    · exact hk s a2 c f (by omega) i0 i1
    · refine T_if1 (by decide +kernel) ?_
      refine T_useI (sf_X1_longOfLine_249K hfu s c a4 (by omega) i0 i1 (by omega) (by omega)) (fun v11 s6 hq => ?_)
      obtain ⟨c7, f8, o12, ⟨x10, rfl, b13, b14⟩⟩ := hq
      refine T_vI ?_
      have f9 := z_Fr.tr (R := R_X1_costs_249) f f8 rs_X1_longOfLine_249__X1_costs_249
      have t15 : s6 249 6 = s 249 6 := f8 249 6 (by decide)
      have r16 := y_SV.fr i1 (f8 191 16 (by decide)) (f8 6 6 (by decide)) (f8 191 17 (by decide)) (f8 191 18 (by decide)) (fun b => f8 3 b (nr_X1_longOfLine_249__3 b)) (fun b => f8 8 b (nr_X1_longOfLine_249__8 b)) (fun b => f8 12 b (nr_X1_longOfLine_249__12 b)) (fun b => f8 14 b (nr_X1_longOfLine_249__14 b)) (fun b => f8 16 b (nr_X1_longOfLine_249__16 b)) (fun b => f8 18 b (nr_X1_longOfLine_249__18 b)) (fun b => f8 193 b (nr_X1_longOfLine_249__193 b)) (fun b => f8 195 b (nr_X1_longOfLine_249__195 b)) (fun b => f8 197 b (nr_X1_longOfLine_249__197 b)) (fun b => f8 199 b (nr_X1_longOfLine_249__199 b)) (fun b => f8 201 b (nr_X1_longOfLine_249__201 b)) (fun b => f8 203 b (nr_X1_longOfLine_249__203 b)) (fun b => f8 205 b (nr_X1_longOfLine_249__205 b)) (fun b => f8 207 b (nr_X1_longOfLine_249__207 b)) (fun b => f8 209 b (nr_X1_longOfLine_249__209 b)) (fun b => f8 211 b (nr_X1_longOfLine_249__211 b)) (fun b => f8 213 b (nr_X1_longOfLine_249__213 b)) (fun b => f8 215 b (nr_X1_longOfLine_249__215 b)) (fun b => f8 217 b (nr_X1_longOfLine_249__217 b)) (fun b => f8 219 b (nr_X1_longOfLine_249__219 b)) (f8 240 6 (by decide)) (fun b => f8 248 b (nr_X1_longOfLine_249__248 b)) (f8 249 6 (by decide)) (fun b => f8 257 b (nr_X1_longOfLine_249__257 b))
      have r17 := y_B0.fr i0.1.1 (f8 211 0 (by decide)) (f8 213 0 (by decide))
      refine T_if1 (by decide +kernel) ?_
      refine T_leq (fun x18 e19 => ?_)
      have u20 := CI_b c7 (k := 249) (j := 6) bd_249_6
      refine T_leq (fun x21 e22 => ?_)
      have w23 := z_wb e22
      refine T_ite (fun h24 => ?_) (fun h24 => ?_)
      · exact sj_X1_costs_249K_J38 hfu r0 s6 c7 f9 a1 a4 a2 x10 a1 0 (by omega) (by omega) (by omega) (by omega) (by omega) (by omega) o12 r16 (2147483647 - a4) (by omega) (fun s' v2 v4 c' f' w2 w4 z0 z1 pg => ih s' v2 v4 c' f' w2 w4 z0 z1 (by omega)) hk
      · exact sj_X1_costs_249K_J38 hfu r0 s6 c7 f9 a1 a4 a2 x10 a1 1 (by omega) (by omega) (by omega) (by omega) (by omega) (by omega) o12 r16 (2147483647 - a4) (by omega) (fun s' v2 v4 c' f' w2 w4 z0 z1 pg => ih s' v2 v4 c' f' w2 w4 z0 z1 (by omega)) hk
theorem sf_X1_costs_249K {fu : Nat} (hfu : 8589934592 ≤ fu) (r0 : z_M) (c0 : z_CI r0) (a1 : Int) (b1 : -2147483648 ≤ a1 ∧ a1 ≤ 2147483647) (p0 : y_U3 r0) (p1 : y_SV 249 r0) : z_T (fX1_costs fu r0 249 a1) (P_X1_costs_249K r0) := by
  refine T_of (fX1_costs.eq_1 ..) ?_
  refine sl_X1_costs_249K_L5 hfu r0 a1 (by omega) (fun s1 y4 c2 f3 b5 g6 g7 => ?_) fu r0 0 0 c0 z_Fr.rf (by omega) (by omega) p0 p1 (by omega)
  have u8 := CI_b c2 (k := 249) (j := 6) bd_249_6
  exact T_ret ⟨c2, f3, g6, ⟨y4, rfl, by omega, by omega⟩⟩
abbrev P_X11_better_1K (r0 : z_M) : z_V → z_M → Prop := fun v s' => z_CI s' ∧ z_Fr R_X11_better_1 r0 s' ∧ (y_V3 s') ∧ (∃ x, v = vL x ∧ -9223372036854775808 ≤ x ∧ x ≤ 9223372036854775807)
theorem nr_X1_costs_249__248 (b : Int) : ¬ R_X1_costs_249 248 b := by
  unfold R_X1_costs_249; omega
theorem nr_X1_costs_249__257 (b : Int) : ¬ R_X1_costs_249 257 b := by
  unfold R_X1_costs_249; omega
set_option maxHeartbeats 4000000 in
theorem sf_X11_better_1K {fu : Nat} (hfu : 8589934592 ≤ fu) (r0 : z_M) (c0 : z_CI r0) (p0 : y_V3 r0) : z_T (fX11_better fu r0 1) (P_X11_better_1K r0) := by
  refine T_of (fX11_better.eq_1 ..) ?_
  refine T_if1 (by decide +kernel) ?_
  refine T_useN (sf_X11_refresh_1K hfu r0 c0 p0) (fun v6 s1 hq => ?_)
  obtain ⟨c2, f3, o7, o8, rfl⟩ := hq
  refine T_vN ?_
  have f4 := z_Fr.tr (R := R_X11_better_1) z_Fr.rf f3 rs_X11_refresh_1__X11_better_1
  have t11 : s1 3 0 = r0 3 0 := f3 3 0 (by decide)
  refine T_if1 (by decide +kernel) ?_
  refine T_let 2 (by decide +kernel) ?_
  refine T_if1 (by decide +kernel) ?_
  refine T_get (by decide +kernel) (c := 3) (by decide +kernel) bdr_3 (by decide) c2 (fun x12 e13 b14 w15 => ?_)
  have l16 : z_ln 2 = 9 := by decide +kernel
  refine T_if1 (by decide +kernel) ?_
  refine T_let 249 (by decide +kernel) ?_
  refine T_if1 (by decide +kernel) ?_
  refine T_useN (sf_X1_go_249K hfu s1 c2 x12 0 (by omega) (by omega) o7 (by first | exact y_LNr.i (by omega) | exact y_LNr.t (by assumption) rfl | exact y_LNr.t (by assumption) (by omega))) (fun v22 s17 hq => ?_)
  obtain ⟨c18, f19, o23, o24, rfl⟩ := hq
  refine T_vN ?_
  have f20 := z_Fr.tr (R := R_X11_better_1) f4 f19 rs_X1_go_249__X11_better_1
  have t27 : s17 3 0 = s1 3 0 := f19 3 0 (by decide)
  have r28 := y_SA.fr o8 (f19 191 16 (by decide)) (f19 6 6 (by decide)) (f19 191 17 (by decide)) (f19 191 18 (by decide)) (fun b => f19 3 b (nr_X1_go_249__3 b)) (fun b => f19 8 b (nr_X1_go_249__8 b)) (fun b => f19 12 b (nr_X1_go_249__12 b)) (fun b => f19 14 b (nr_X1_go_249__14 b)) (fun b => f19 16 b (nr_X1_go_249__16 b)) (fun b => f19 18 b (nr_X1_go_249__18 b)) (fun b => f19 193 b (nr_X1_go_249__193 b)) (fun b => f19 195 b (nr_X1_go_249__195 b)) (fun b => f19 197 b (nr_X1_go_249__197 b)) (fun b => f19 199 b (nr_X1_go_249__199 b)) (fun b => f19 201 b (nr_X1_go_249__201 b)) (fun b => f19 203 b (nr_X1_go_249__203 b)) (fun b => f19 205 b (nr_X1_go_249__205 b)) (fun b => f19 207 b (nr_X1_go_249__207 b)) (fun b => f19 209 b (nr_X1_go_249__209 b)) (fun b => f19 211 b (nr_X1_go_249__211 b)) (fun b => f19 213 b (nr_X1_go_249__213 b)) (fun b => f19 215 b (nr_X1_go_249__215 b)) (fun b => f19 217 b (nr_X1_go_249__217 b)) (fun b => f19 219 b (nr_X1_go_249__219 b)) (f19 240 6 (by decide)) (fun b => f19 248 b (nr_X1_go_249__248 b))
  have r29 := y_B0.fr o7.1.1 (f19 211 0 (by decide)) (f19 213 0 (by decide))
  refine T_if1 (by decide +kernel) ?_
  refine T_let 249 (by decide +kernel) ?_
  refine T_if1 (by decide +kernel) ?_
  refine T_useL (sf_X1_costs_249K hfu s17 c18 x12 (by omega) o23 o24) (fun v35 s30 hq => ?_)
  obtain ⟨c31, f32, o36, ⟨x34, rfl, b37, b38⟩⟩ := hq
  refine T_vL ?_
  have f33 := z_Fr.tr (R := R_X11_better_1) f20 f32 rs_X1_costs_249__X11_better_1
  have t39 : s30 3 0 = s17 3 0 := f32 3 0 (by decide)
  have r40 := y_SA.fr r28 (f32 191 16 (by decide)) (f32 6 6 (by decide)) (f32 191 17 (by decide)) (f32 191 18 (by decide)) (fun b => f32 3 b (nr_X1_costs_249__3 b)) (fun b => f32 8 b (nr_X1_costs_249__8 b)) (fun b => f32 12 b (nr_X1_costs_249__12 b)) (fun b => f32 14 b (nr_X1_costs_249__14 b)) (fun b => f32 16 b (nr_X1_costs_249__16 b)) (fun b => f32 18 b (nr_X1_costs_249__18 b)) (fun b => f32 193 b (nr_X1_costs_249__193 b)) (fun b => f32 195 b (nr_X1_costs_249__195 b)) (fun b => f32 197 b (nr_X1_costs_249__197 b)) (fun b => f32 199 b (nr_X1_costs_249__199 b)) (fun b => f32 201 b (nr_X1_costs_249__201 b)) (fun b => f32 203 b (nr_X1_costs_249__203 b)) (fun b => f32 205 b (nr_X1_costs_249__205 b)) (fun b => f32 207 b (nr_X1_costs_249__207 b)) (fun b => f32 209 b (nr_X1_costs_249__209 b)) (fun b => f32 211 b (nr_X1_costs_249__211 b)) (fun b => f32 213 b (nr_X1_costs_249__213 b)) (fun b => f32 215 b (nr_X1_costs_249__215 b)) (fun b => f32 217 b (nr_X1_costs_249__217 b)) (fun b => f32 219 b (nr_X1_costs_249__219 b)) (f32 240 6 (by decide)) (fun b => f32 248 b (nr_X1_costs_249__248 b))
  have r41 := y_B0.fr o23.1.1 (f32 211 0 (by decide)) (f32 213 0 (by decide))
  have r42 := y_SV.fr o24 (f32 191 16 (by decide)) (f32 6 6 (by decide)) (f32 191 17 (by decide)) (f32 191 18 (by decide)) (fun b => f32 3 b (nr_X1_costs_249__3 b)) (fun b => f32 8 b (nr_X1_costs_249__8 b)) (fun b => f32 12 b (nr_X1_costs_249__12 b)) (fun b => f32 14 b (nr_X1_costs_249__14 b)) (fun b => f32 16 b (nr_X1_costs_249__16 b)) (fun b => f32 18 b (nr_X1_costs_249__18 b)) (fun b => f32 193 b (nr_X1_costs_249__193 b)) (fun b => f32 195 b (nr_X1_costs_249__195 b)) (fun b => f32 197 b (nr_X1_costs_249__197 b)) (fun b => f32 199 b (nr_X1_costs_249__199 b)) (fun b => f32 201 b (nr_X1_costs_249__201 b)) (fun b => f32 203 b (nr_X1_costs_249__203 b)) (fun b => f32 205 b (nr_X1_costs_249__205 b)) (fun b => f32 207 b (nr_X1_costs_249__207 b)) (fun b => f32 209 b (nr_X1_costs_249__209 b)) (fun b => f32 211 b (nr_X1_costs_249__211 b)) (fun b => f32 213 b (nr_X1_costs_249__213 b)) (fun b => f32 215 b (nr_X1_costs_249__215 b)) (fun b => f32 217 b (nr_X1_costs_249__217 b)) (fun b => f32 219 b (nr_X1_costs_249__219 b)) (f32 240 6 (by decide)) (fun b => f32 248 b (nr_X1_costs_249__248 b)) (f32 249 6 (by decide)) (fun b => f32 257 b (nr_X1_costs_249__257 b))
  refine T_if1 (by decide +kernel) ?_
  refine T_let 249 (by decide +kernel) ?_
  refine T_if1 (by decide +kernel) ?_
  refine T_useN (sf_X1_go_249K hfu s30 c31 x12 1 (by omega) (by omega) o36 (by first | exact y_LNr.i (by omega) | exact y_LNr.t (by assumption) rfl | exact y_LNr.t (by assumption) (by omega))) (fun v48 s43 hq => ?_)
  obtain ⟨c44, f45, o49, o50, rfl⟩ := hq
  refine T_vN ?_
  have f46 := z_Fr.tr (R := R_X11_better_1) f33 f45 rs_X1_go_249__X11_better_1
  have t53 : s43 3 0 = s30 3 0 := f45 3 0 (by decide)
  have r54 := y_SA.fr r40 (f45 191 16 (by decide)) (f45 6 6 (by decide)) (f45 191 17 (by decide)) (f45 191 18 (by decide)) (fun b => f45 3 b (nr_X1_go_249__3 b)) (fun b => f45 8 b (nr_X1_go_249__8 b)) (fun b => f45 12 b (nr_X1_go_249__12 b)) (fun b => f45 14 b (nr_X1_go_249__14 b)) (fun b => f45 16 b (nr_X1_go_249__16 b)) (fun b => f45 18 b (nr_X1_go_249__18 b)) (fun b => f45 193 b (nr_X1_go_249__193 b)) (fun b => f45 195 b (nr_X1_go_249__195 b)) (fun b => f45 197 b (nr_X1_go_249__197 b)) (fun b => f45 199 b (nr_X1_go_249__199 b)) (fun b => f45 201 b (nr_X1_go_249__201 b)) (fun b => f45 203 b (nr_X1_go_249__203 b)) (fun b => f45 205 b (nr_X1_go_249__205 b)) (fun b => f45 207 b (nr_X1_go_249__207 b)) (fun b => f45 209 b (nr_X1_go_249__209 b)) (fun b => f45 211 b (nr_X1_go_249__211 b)) (fun b => f45 213 b (nr_X1_go_249__213 b)) (fun b => f45 215 b (nr_X1_go_249__215 b)) (fun b => f45 217 b (nr_X1_go_249__217 b)) (fun b => f45 219 b (nr_X1_go_249__219 b)) (f45 240 6 (by decide)) (fun b => f45 248 b (nr_X1_go_249__248 b))
  have r55 := y_B0.fr o36.1.1 (f45 211 0 (by decide)) (f45 213 0 (by decide))
  refine T_if1 (by decide +kernel) ?_
  refine T_let 249 (by decide +kernel) ?_
  refine T_if1 (by decide +kernel) ?_
  refine T_useL (sf_X1_costs_249K hfu s43 c44 x12 (by omega) o49 o50) (fun v61 s56 hq => ?_)
  obtain ⟨c57, f58, o62, ⟨x60, rfl, b63, b64⟩⟩ := hq
  refine T_vL ?_
  have f59 := z_Fr.tr (R := R_X11_better_1) f46 f58 rs_X1_costs_249__X11_better_1
  have t65 : s56 3 0 = s43 3 0 := f58 3 0 (by decide)
  have r66 := y_SA.fr r54 (f58 191 16 (by decide)) (f58 6 6 (by decide)) (f58 191 17 (by decide)) (f58 191 18 (by decide)) (fun b => f58 3 b (nr_X1_costs_249__3 b)) (fun b => f58 8 b (nr_X1_costs_249__8 b)) (fun b => f58 12 b (nr_X1_costs_249__12 b)) (fun b => f58 14 b (nr_X1_costs_249__14 b)) (fun b => f58 16 b (nr_X1_costs_249__16 b)) (fun b => f58 18 b (nr_X1_costs_249__18 b)) (fun b => f58 193 b (nr_X1_costs_249__193 b)) (fun b => f58 195 b (nr_X1_costs_249__195 b)) (fun b => f58 197 b (nr_X1_costs_249__197 b)) (fun b => f58 199 b (nr_X1_costs_249__199 b)) (fun b => f58 201 b (nr_X1_costs_249__201 b)) (fun b => f58 203 b (nr_X1_costs_249__203 b)) (fun b => f58 205 b (nr_X1_costs_249__205 b)) (fun b => f58 207 b (nr_X1_costs_249__207 b)) (fun b => f58 209 b (nr_X1_costs_249__209 b)) (fun b => f58 211 b (nr_X1_costs_249__211 b)) (fun b => f58 213 b (nr_X1_costs_249__213 b)) (fun b => f58 215 b (nr_X1_costs_249__215 b)) (fun b => f58 217 b (nr_X1_costs_249__217 b)) (fun b => f58 219 b (nr_X1_costs_249__219 b)) (f58 240 6 (by decide)) (fun b => f58 248 b (nr_X1_costs_249__248 b))
  have r67 := y_B0.fr o49.1.1 (f58 211 0 (by decide)) (f58 213 0 (by decide))
  have r68 := y_SV.fr o50 (f58 191 16 (by decide)) (f58 6 6 (by decide)) (f58 191 17 (by decide)) (f58 191 18 (by decide)) (fun b => f58 3 b (nr_X1_costs_249__3 b)) (fun b => f58 8 b (nr_X1_costs_249__8 b)) (fun b => f58 12 b (nr_X1_costs_249__12 b)) (fun b => f58 14 b (nr_X1_costs_249__14 b)) (fun b => f58 16 b (nr_X1_costs_249__16 b)) (fun b => f58 18 b (nr_X1_costs_249__18 b)) (fun b => f58 193 b (nr_X1_costs_249__193 b)) (fun b => f58 195 b (nr_X1_costs_249__195 b)) (fun b => f58 197 b (nr_X1_costs_249__197 b)) (fun b => f58 199 b (nr_X1_costs_249__199 b)) (fun b => f58 201 b (nr_X1_costs_249__201 b)) (fun b => f58 203 b (nr_X1_costs_249__203 b)) (fun b => f58 205 b (nr_X1_costs_249__205 b)) (fun b => f58 207 b (nr_X1_costs_249__207 b)) (fun b => f58 209 b (nr_X1_costs_249__209 b)) (fun b => f58 211 b (nr_X1_costs_249__211 b)) (fun b => f58 213 b (nr_X1_costs_249__213 b)) (fun b => f58 215 b (nr_X1_costs_249__215 b)) (fun b => f58 217 b (nr_X1_costs_249__217 b)) (fun b => f58 219 b (nr_X1_costs_249__219 b)) (f58 240 6 (by decide)) (fun b => f58 248 b (nr_X1_costs_249__248 b)) (f58 249 6 (by decide)) (fun b => f58 257 b (nr_X1_costs_249__257 b))
  refine T_leq (fun x69 e70 => ?_)
  have w71 := z_wlr e70
  exact T_ret ⟨c57, f59, (y_V3.u o62 (Or.inr r66)), ⟨x69, rfl, by omega, by omega⟩⟩
