/-! SAFETY, further (by program) -/
abbrev R_X11_block_1 (a b : Int) : Prop := (193 ≤ a ∧ a ≤ 219) ∨ (222 ≤ a ∧ a ≤ 222) ∨ (225 ≤ a ∧ a ≤ 239) ∨ (242 ≤ a ∧ a ≤ 244) ∨ (248 ≤ a ∧ a ≤ 248) ∨ (260 ≤ a ∧ a ≤ 278) ∨ (281 ≤ a ∧ a ≤ 295) ∨ (a = 1 ∧ (b = 14 ∨ b = 15 ∨ b = 16 ∨ b = 17 ∨ b = 18)) ∨ (a = 191 ∧ (b = 16 ∨ b = 17 ∨ b = 18)) ∨ (a = 220 ∧ (b = 4 ∨ b = 5)) ∨ (a = 223 ∧ (b = 9)) ∨ (a = 240 ∧ (b = 6)) ∨ (a = 279 ∧ (b = 9))
abbrev P_X11_block_1 (r0 : z_M) : z_V → z_M → Prop := fun v s' => z_CI s' ∧ z_Fr R_X11_block_1 r0 s' ∧ (z_V16 s') ∧ ((∃ x, v = vI x ∧ -2147483648 ≤ x ∧ x ≤ 2147483647) ∨ v = vX 0 ∨ v = vX 1)
theorem rs_X11_refresh_1__X11_block_1 (a b : Int) (h : R_X11_refresh_1 a b) : R_X11_block_1 a b := (h.elim (fun h => (Or.inl (⟨by omega, by omega⟩))) (fun h => (h.elim (fun h => (Or.inr (Or.inl (⟨by omega, by omega⟩)))) (fun h => (h.elim (fun h => (Or.inr (Or.inr (Or.inl (⟨by omega, by omega⟩))))) (fun h => (h.elim (fun h => (Or.inr (Or.inr (Or.inr (Or.inl (⟨by omega, by omega⟩)))))) (fun h => (h.elim (fun h => (Or.inr (Or.inr (Or.inr (Or.inr (Or.inl (⟨by omega, by omega⟩))))))) (fun h => (h.elim (fun h => (Or.inr (Or.inr (Or.inr (Or.inr (Or.inr (Or.inl (⟨by omega, by omega⟩)))))))) (fun h => (h.elim (fun h => (Or.inr (Or.inr (Or.inr (Or.inr (Or.inr (Or.inr (Or.inl (⟨by omega, by omega⟩))))))))) (fun h => (h.elim (fun h => (Or.inr (Or.inr (Or.inr (Or.inr (Or.inr (Or.inr (Or.inr (Or.inl (⟨h.1, by omega⟩)))))))))) (fun h => (h.elim (fun h => (Or.inr (Or.inr (Or.inr (Or.inr (Or.inr (Or.inr (Or.inr (Or.inr (Or.inl (⟨h.1, by omega⟩))))))))))) (fun h => (h.elim (fun h => (Or.inr (Or.inr (Or.inr (Or.inr (Or.inr (Or.inr (Or.inr (Or.inr (Or.inr (Or.inl (⟨h.1, by omega⟩)))))))))))) (fun h => (h.elim (fun h => (Or.inr (Or.inr (Or.inr (Or.inr (Or.inr (Or.inr (Or.inr (Or.inr (Or.inr (Or.inr (Or.inl (⟨h.1, by omega⟩))))))))))))) (fun h => (h.elim (fun h => (Or.inr (Or.inr (Or.inr (Or.inr (Or.inr (Or.inr (Or.inr (Or.inr (Or.inr (Or.inr (Or.inr (Or.inl (⟨h.1, by omega⟩)))))))))))))) (fun h => (Or.inr (Or.inr (Or.inr (Or.inr (Or.inr (Or.inr (Or.inr (Or.inr (Or.inr (Or.inr (Or.inr (Or.inr (⟨h.1, by omega⟩)))))))))))))))))))))))))))))))))))))
theorem nr_X0_padAhead_279__195 (b : Int) : ¬ R_X0_padAhead_279 195 b := not_false
theorem nr_X0_padAhead_279__197 (b : Int) : ¬ R_X0_padAhead_279 197 b := not_false
theorem nr_X0_padBehind_279__195 (b : Int) : ¬ R_X0_padBehind_279 195 b := not_false
theorem nr_X0_padBehind_279__197 (b : Int) : ¬ R_X0_padBehind_279 197 b := not_false
theorem sf_X11_block_1 {fu : Nat} (hfu : 8589934592 ≤ fu) (r0 : z_M) (c0 : z_CI r0) (a1 : Int) (a2 : Int) (b1 : -2147483648 ≤ a1 ∧ a1 ≤ 2147483647) (b2 : -2147483648 ≤ a2 ∧ a2 ≤ 2147483647) (p0 : z_V16 r0) : z_T (fX11_block fu r0 1 a1 a2) (P_X11_block_1 r0) := by
  refine T_of (fX11_block.eq_1 ..) ?_
  refine T_if1 (by decide +kernel) ?_
  refine T_useN (sf_X11_refresh_1 hfu r0 c0 p0) (fun v6 s1 hq => ?_)
  obtain ⟨c2, f3, o7, rfl⟩ := hq
  refine T_vN ?_
  have f4 := z_Fr.tr (R := R_X11_block_1) z_Fr.rf f3 rs_X11_refresh_1__X11_block_1
  have u10 := CI_b c2 (k := 279) (j := 9) bd_279_9
  refine T_if1 (by decide +kernel) ?_
  refine T_let 258 (by decide +kernel) ?_
  refine T_if1 (by decide +kernel) ?_
  refine T_let 279 (by decide +kernel) ?_
  refine T_if1 (by decide +kernel) ?_
  refine T_leq (fun x11 e12 => ?_)
  have u13 := CI_b c2 (k := 279) (j := 9) bd_279_9
  refine T_if1 (by decide +kernel) ?_
  refine T_ne ?_ (fun h14 h15 => ?_)
  · exact T_ret ⟨CI_up c2 bd_1_14 (z_wb rfl).1, z_Fr.upf (R := R_X11_block_1) f4 (fun a b h => z_up_k h) (fun b h => z_up_j h) (Or.inr (Or.inr (Or.inr (Or.inr (Or.inr (Or.inr (Or.inr (Or.inl (⟨rfl, by decide⟩))))))))), Or.inr (z_U.fr o7 (z_up_k (by decide)) (z_up_k (by decide)) (fun _ => z_up_k (by decide)) (fun _ => z_up_k (by decide))), Or.inr (Or.inl rfl)⟩
  refine T_if1 (by decide +kernel) ?_
  refine T_nw ?_ (fun h16 h17 => ?_)
  · exact T_ret ⟨CI_up c2 bd_1_15 (z_wb rfl).1, z_Fr.upf (R := R_X11_block_1) f4 (fun a b h => z_up_k h) (fun b h => z_up_j h) (Or.inr (Or.inr (Or.inr (Or.inr (Or.inr (Or.inr (Or.inr (Or.inl (⟨rfl, by decide⟩))))))))), Or.inr (z_U.fr o7 (z_up_k (by decide)) (z_up_k (by decide)) (fun _ => z_up_k (by decide)) (fun _ => z_up_k (by decide))), Or.inr (Or.inr rfl)⟩
  refine T_ite (fun h18 => ?_) (fun h18 => ?_)
  · refine T_if1 (by decide +kernel) ?_
    refine T_let 280 (by decide +kernel) ?_
    refine T_if1 (by decide +kernel) ?_
    refine T_get (by decide +kernel) (c := 281) (by decide +kernel) bdr_281 (by decide) c2 (fun x19 e20 b21 w22 => ?_)
    have l23 : z_ln 280 = 200 := by decide +kernel
    exact T_ret ⟨c2, f4, (Or.inr o7), Or.inl (⟨x19, rfl, by omega, by omega⟩)⟩
  · refine T_ite (fun h24 => ?_) (fun h24 => ?_)
    · refine T_if1 (by decide +kernel) ?_
      refine T_let 282 (by decide +kernel) ?_
      refine T_if1 (by decide +kernel) ?_
      refine T_get (by decide +kernel) (c := 283) (by decide +kernel) bdr_283 (by decide) c2 (fun x25 e26 b27 w28 => ?_)
      have l29 : z_ln 282 = 200 := by decide +kernel
      refine T_if1 (by decide +kernel) ?_
      refine T_let 280 (by decide +kernel) ?_
      refine T_if1 (by decide +kernel) ?_
      refine T_get (by decide +kernel) (c := 281) (by decide +kernel) bdr_281 (by decide) c2 (fun x30 e31 b32 w33 => ?_)
      have l34 : z_ln 280 = 200 := by decide +kernel
      refine T_leq (fun x35 e36 => ?_)
      have w37 := z_wr e36
      refine T_leq (fun x38 e39 => ?_)
      have w40 := z_wr e39
      exact T_ret ⟨c2, f4, (Or.inr o7), Or.inl (⟨x38, rfl, by omega, by omega⟩)⟩
    · refine T_ite (fun h41 => ?_) (fun h41 => ?_)
      · refine T_if1 (by decide +kernel) ?_
        refine T_let 284 (by decide +kernel) ?_
        refine T_if1 (by decide +kernel) ?_
        refine T_get (by decide +kernel) (c := 285) (by decide +kernel) bdr_285 (by decide) c2 (fun x42 e43 b44 w45 => ?_)
        have l46 : z_ln 284 = 200 := by decide +kernel
        exact T_ret ⟨c2, f4, (Or.inr o7), Or.inl (⟨x42, rfl, by omega, by omega⟩)⟩
      · refine T_ite (fun h47 => ?_) (fun h47 => ?_)
        · refine T_if1 (by decide +kernel) ?_
          refine T_let 286 (by decide +kernel) ?_
          refine T_if1 (by decide +kernel) ?_
          refine T_get (by decide +kernel) (c := 287) (by decide +kernel) bdr_287 (by decide) c2 (fun x48 e49 b50 w51 => ?_)
          have l52 : z_ln 286 = 200 := by decide +kernel
          exact T_ret ⟨c2, f4, (Or.inr o7), Or.inl (⟨x48, rfl, by omega, by omega⟩)⟩
        · refine T_ite (fun h53 => ?_) (fun h53 => ?_)
          · refine T_if1 (by decide +kernel) ?_
            refine T_let 288 (by decide +kernel) ?_
            refine T_if1 (by decide +kernel) ?_
            refine T_get (by decide +kernel) (c := 289) (by decide +kernel) bdr_289 (by decide) c2 (fun x54 e55 b56 w57 => ?_)
            have l58 : z_ln 288 = 200 := by decide +kernel
            exact T_ret ⟨c2, f4, (Or.inr o7), Or.inl (⟨x54, rfl, by omega, by omega⟩)⟩
          · refine T_ite (fun h59 => ?_) (fun h59 => ?_)
            · refine T_if1 (by decide +kernel) ?_
              refine T_let 290 (by decide +kernel) ?_
              refine T_if1 (by decide +kernel) ?_
              refine T_get (by decide +kernel) (c := 291) (by decide +kernel) bdr_291 (by decide) c2 (fun x60 e61 b62 w63 => ?_)
              have l64 : z_ln 290 = 200 := by decide +kernel
              exact T_ret ⟨c2, f4, (Or.inr o7), Or.inl (⟨x60, rfl, by omega, by omega⟩)⟩
            · refine T_ite (fun h65 => ?_) (fun h65 => ?_)
              · refine T_if1 (by decide +kernel) ?_
                refine T_useI (sf_X0_padAhead_279 hfu s1 c2 a1 (by omega)) (fun v71 s66 hq => ?_)
                obtain ⟨c67, f68, ⟨x70, rfl, b72, b73⟩⟩ := hq
                refine T_vI ?_
                have f69 := z_Fr.tr (R := R_X11_block_1) f4 f68 (fun a b h => absurd h not_false)
                have t74 : s66 279 9 = s1 279 9 := f68 279 9 (by decide)
                have r75 := z_U.fr o7 (f68 191 16 (by decide)) (f68 6 6 (by decide)) (fun b => f68 195 b (nr_X0_padAhead_279__195 b)) (fun b => f68 197 b (nr_X0_padAhead_279__197 b))
                exact T_ret ⟨c67, f69, (Or.inr r75), Or.inl (⟨x70, rfl, by omega, by omega⟩)⟩
              · refine T_if1 (by decide +kernel) ?_
                refine T_useI (sf_X0_padBehind_279 hfu s1 c2 a1 (by omega)) (fun v81 s76 hq => ?_)
                obtain ⟨c77, f78, ⟨x80, rfl, b82, b83⟩⟩ := hq
                refine T_vI ?_
                have f79 := z_Fr.tr (R := R_X11_block_1) f4 f78 (fun a b h => absurd h not_false)
                have t84 : s76 279 9 = s1 279 9 := f78 279 9 (by decide)
                have r85 := z_U.fr o7 (f78 191 16 (by decide)) (f78 6 6 (by decide)) (fun b => f78 195 b (nr_X0_padBehind_279__195 b)) (fun b => f78 197 b (nr_X0_padBehind_279__197 b))
                exact T_ret ⟨c77, f79, (Or.inr r85), Or.inl (⟨x80, rfl, by omega, by omega⟩)⟩
abbrev R_X9_letterCode_6 (a b : Int) : Prop := False
abbrev P_X9_letterCode_6 (r0 : z_M) : z_V → z_M → Prop := fun v s' => z_CI s' ∧ z_Fr R_X9_letterCode_6 r0 s' ∧ (∃ x, v = vI x ∧ -2147483648 ≤ x ∧ x ≤ 2147483647)
theorem sf_X9_letterCode_6 {fu : Nat} (hfu : 8589934592 ≤ fu) (r0 : z_M) (c0 : z_CI r0) (a1 : Int) (a2 : Int) (a3 : Int) (b1 : -2147483648 ≤ a1 ∧ a1 ≤ 2147483647) (b2 : -2147483648 ≤ a2 ∧ a2 ≤ 2147483647) (b3 : -2147483648 ≤ a3 ∧ a3 ≤ 2147483647) : z_T (fX9_letterCode fu r0 6 a1 a2 a3) (P_X9_letterCode_6 r0) := by
  refine T_of (fX9_letterCode.eq_1 ..) ?_
  refine T_if1 (by decide +kernel) ?_
  refine T_bR ?_
  refine T_of (fX9_readings.eq_1 ..) ?_
  refine T_ite (fun h1 => ?_) (fun h1 => ?_)
  · refine T_if1 (by decide +kernel) ?_
    refine T_let 17 (by decide +kernel) ?_
    refine T_of (fX9_readings_J15.eq_1 ..) ?_
    refine T_rR ?_
    refine T_if1 (by decide +kernel) ?_
    refine T_lget (by decide +kernel) (c := 18) (by decide +kernel) bdr_18 (by decide) c0 (fun x2 e3 b4 => ?_)
    refine T_leq (fun x6 e7 => ?_)
    have w8 := z_wr e7
    refine T_leq (fun x9 e10 => ?_)
    have w11 := z_wr e10
    refine T_leq (fun x12 e13 => ?_)
    have w14 : -9223372036854775808 ≤ x12 ∧ x12 ≤ 9223372036854775807 := by rw [← e13]; exact z_i64b _
    refine T_leq (fun x15 e16 => ?_)
    have w17 : -9223372036854775808 ≤ x15 ∧ x15 ≤ 9223372036854775807 := by rw [← e16]; exact z_i64b _
    refine T_leq (fun x18 e19 => ?_)
    have w20 := z_wr e19
    refine T_leq (fun x21 e22 => ?_)
    have w23 := z_wr e22
    exact T_ret ⟨c0, z_Fr.rf, ⟨x21, rfl, by omega, by omega⟩⟩
  · refine T_if1 (by decide +kernel) ?_
    refine T_let 15 (by decide +kernel) ?_
    refine T_of (fX9_readings_J15.eq_1 ..) ?_
    refine T_rR ?_
    refine T_if1 (by decide +kernel) ?_
    refine T_lget (by decide +kernel) (c := 16) (by decide +kernel) bdr_16 (by decide) c0 (fun x24 e25 b26 => ?_)
    refine T_leq (fun x28 e29 => ?_)
    have w30 := z_wr e29
    refine T_leq (fun x31 e32 => ?_)
    have w33 := z_wr e32
    refine T_leq (fun x34 e35 => ?_)
    have w36 : -9223372036854775808 ≤ x34 ∧ x34 ≤ 9223372036854775807 := by rw [← e35]; exact z_i64b _
    refine T_leq (fun x37 e38 => ?_)
    have w39 : -9223372036854775808 ≤ x37 ∧ x37 ≤ 9223372036854775807 := by rw [← e38]; exact z_i64b _
    refine T_leq (fun x40 e41 => ?_)
    have w42 := z_wr e41
    refine T_leq (fun x43 e44 => ?_)
    have w45 := z_wr e44
    exact T_ret ⟨c0, z_Fr.rf, ⟨x43, rfl, by omega, by omega⟩⟩
abbrev R_X3_letterCode_258 (a b : Int) : Prop := False
abbrev P_X3_letterCode_258 (r0 : z_M) : z_V → z_M → Prop := fun v s' => z_CI s' ∧ z_Fr R_X3_letterCode_258 r0 s' ∧ (∃ x, v = vI x ∧ -2147483648 ≤ x ∧ x ≤ 2147483647)
theorem sl_X3_letterCode_258_L16 {fu : Nat} (hfu : 8589934592 ≤ fu) (r0 : z_M) (a1 : Int) (a2 : Int) (b1 : -2147483648 ≤ a1 ∧ a1 ≤ 2147483647) (b2 : -2147483648 ≤ a2 ∧ a2 ≤ 2147483647) {k : z_M → z_O} (hk : ∀ (s' : z_M), z_CI s' → z_Fr R_X3_letterCode_258 r0 s' → z_T (k s') (P_X3_letterCode_258 r0)) : ∀ (F : Nat) (s : z_M) (a4 : Int) (a5 : Int), z_CI s → z_Fr R_X3_letterCode_258 r0 s → (-2147483648 ≤ a4 ∧ a4 ≤ 2147483647) → (-2147483648 ≤ a5 ∧ a5 ≤ 2147483647) → (2147483647 - a5 < (F : Int)) → z_T (fX3_letterCode_L16 fu 258 a1 a2 F s a4 a5 k) (P_X3_letterCode_258 r0) := by
  intro F
  induction F with
  | zero =>
    intro s a4 a5 c f b4 b5 hm
    exfalso; omega
  | succ F ih =>
    intro s a4 a5 c f b4 b5 hm
    refine T_of (fX3_letterCode_L16.eq_2 ..) ?_
    refine T_if1 (by decide +kernel) ?_
    refine T_let 279 (by decide +kernel) ?_
    refine T_if1 (by decide +kernel) ?_
    refine T_let 282 (by decide +kernel) ?_
    refine T_if1 (by decide +kernel) ?_
    refine T_get (by decide +kernel) (c := 283) (by decide +kernel) bdr_283 (by decide) c (fun x1 e2 b3 w4 => ?_)
    have l5 : z_ln 282 = 200 := by decide +kernel
    refine T_ite (fun h6 => ?_) (fun h6 => ?_)
    · exact hk s c f
    · refine T_if1 (by decide +kernel) ?_
      refine T_let 191 (by decide +kernel) ?_
      refine T_if1 (by decide +kernel) ?_
      refine T_let 194 (by decide +kernel) ?_
      refine T_if1 (by decide +kernel) ?_
      refine T_get (by decide +kernel) (c := 195) (by decide +kernel) bdr_195 (by decide) c (fun x7 e8 b9 w10 => ?_)
      have l11 : z_ln 194 = 200 := by decide +kernel
      refine T_if1 (by decide +kernel) ?_
      refine T_let 6 (by decide +kernel) ?_
      refine T_if1 (by decide +kernel) ?_
      refine T_useI (sf_X9_letterCount_6 hfu s c a2 x7 (by omega) (by omega)) (fun v17 s12 hq => ?_)
      obtain ⟨c13, f14, ⟨x16, rfl, b18, b19⟩⟩ := hq
      refine T_vI ?_
      have f15 := z_Fr.tr (R := R_X3_letterCode_258) f f14 (fun a b h => absurd h not_false)
      refine T_ite (fun h20 => ?_) (fun h20 => ?_)
      · refine T_leq (fun x21 e22 => ?_)
        have w23 := z_wr e22
        refine T_leq (fun x24 e25 => ?_)
        have w26 := z_wb e25
        exact ih s12 x21 x24 c13 f15 (by omega) (by omega) (by omega)
      · refine T_if1 (by decide +kernel) ?_
        refine T_let 6 (by decide +kernel) ?_
        refine T_if1 (by decide +kernel) ?_
        refine T_useI (sf_X9_letterCode_6 hfu s12 c13 a2 x7 a4 (by omega) (by omega) (by omega)) (fun v32 s27 hq => ?_)
        obtain ⟨c28, f29, ⟨x31, rfl, b33, b34⟩⟩ := hq
        refine T_vI ?_
        have f30 := z_Fr.tr (R := R_X3_letterCode_258) f15 f29 (fun a b h => absurd h not_false)
        exact T_ret ⟨c28, f30, ⟨x31, rfl, by omega, by omega⟩⟩
theorem sf_X3_letterCode_258 {fu : Nat} (hfu : 8589934592 ≤ fu) (r0 : z_M) (c0 : z_CI r0) (a1 : Int) (a2 : Int) (a3 : Int) (b1 : -2147483648 ≤ a1 ∧ a1 ≤ 2147483647) (b2 : -2147483648 ≤ a2 ∧ a2 ≤ 2147483647) (b3 : -2147483648 ≤ a3 ∧ a3 ≤ 2147483647) : z_T (fX3_letterCode fu r0 258 a1 a2 a3) (P_X3_letterCode_258 r0) := by
  refine T_of (fX3_letterCode.eq_1 ..) ?_
  refine T_if1 (by decide +kernel) ?_
  refine T_let 279 (by decide +kernel) ?_
  refine T_if1 (by decide +kernel) ?_
  refine T_let 280 (by decide +kernel) ?_
  refine T_if1 (by decide +kernel) ?_
  refine T_get (by decide +kernel) (c := 281) (by decide +kernel) bdr_281 (by decide) c0 (fun x1 e2 b3 w4 => ?_)
  have l5 : z_ln 280 = 200 := by decide +kernel
  refine sl_X3_letterCode_258_L16 hfu r0 a1 a2 (by omega) (by omega) (fun s6 c7 f8 => ?_) fu r0 a3 x1 c0 z_Fr.rf (by omega) (by omega) (by omega)
  exact T_ret ⟨c7, f8, ⟨(-1), rfl, by omega, by omega⟩⟩
abbrev R_X11_reading_1 (a b : Int) : Prop := (193 ≤ a ∧ a ≤ 219) ∨ (222 ≤ a ∧ a ≤ 222) ∨ (225 ≤ a ∧ a ≤ 239) ∨ (242 ≤ a ∧ a ≤ 244) ∨ (248 ≤ a ∧ a ≤ 248) ∨ (260 ≤ a ∧ a ≤ 278) ∨ (281 ≤ a ∧ a ≤ 295) ∨ (a = 1 ∧ (b = 14 ∨ b = 15 ∨ b = 16 ∨ b = 17 ∨ b = 18)) ∨ (a = 191 ∧ (b = 16 ∨ b = 17 ∨ b = 18)) ∨ (a = 220 ∧ (b = 4 ∨ b = 5)) ∨ (a = 223 ∧ (b = 9)) ∨ (a = 240 ∧ (b = 6)) ∨ (a = 279 ∧ (b = 9))
abbrev P_X11_reading_1 (r0 : z_M) : z_V → z_M → Prop := fun v s' => z_CI s' ∧ z_Fr R_X11_reading_1 r0 s' ∧ (z_V16 s') ∧ ((∃ x, v = vI x ∧ -2147483648 ≤ x ∧ x ≤ 2147483647) ∨ v = vX 0 ∨ v = vX 1)
theorem rs_X11_refresh_1__X11_reading_1 (a b : Int) (h : R_X11_refresh_1 a b) : R_X11_reading_1 a b := (h.elim (fun h => (Or.inl (⟨by omega, by omega⟩))) (fun h => (h.elim (fun h => (Or.inr (Or.inl (⟨by omega, by omega⟩)))) (fun h => (h.elim (fun h => (Or.inr (Or.inr (Or.inl (⟨by omega, by omega⟩))))) (fun h => (h.elim (fun h => (Or.inr (Or.inr (Or.inr (Or.inl (⟨by omega, by omega⟩)))))) (fun h => (h.elim (fun h => (Or.inr (Or.inr (Or.inr (Or.inr (Or.inl (⟨by omega, by omega⟩))))))) (fun h => (h.elim (fun h => (Or.inr (Or.inr (Or.inr (Or.inr (Or.inr (Or.inl (⟨by omega, by omega⟩)))))))) (fun h => (h.elim (fun h => (Or.inr (Or.inr (Or.inr (Or.inr (Or.inr (Or.inr (Or.inl (⟨by omega, by omega⟩))))))))) (fun h => (h.elim (fun h => (Or.inr (Or.inr (Or.inr (Or.inr (Or.inr (Or.inr (Or.inr (Or.inl (⟨h.1, by omega⟩)))))))))) (fun h => (h.elim (fun h => (Or.inr (Or.inr (Or.inr (Or.inr (Or.inr (Or.inr (Or.inr (Or.inr (Or.inl (⟨h.1, by omega⟩))))))))))) (fun h => (h.elim (fun h => (Or.inr (Or.inr (Or.inr (Or.inr (Or.inr (Or.inr (Or.inr (Or.inr (Or.inr (Or.inl (⟨h.1, by omega⟩)))))))))))) (fun h => (h.elim (fun h => (Or.inr (Or.inr (Or.inr (Or.inr (Or.inr (Or.inr (Or.inr (Or.inr (Or.inr (Or.inr (Or.inl (⟨h.1, by omega⟩))))))))))))) (fun h => (h.elim (fun h => (Or.inr (Or.inr (Or.inr (Or.inr (Or.inr (Or.inr (Or.inr (Or.inr (Or.inr (Or.inr (Or.inr (Or.inl (⟨h.1, by omega⟩)))))))))))))) (fun h => (Or.inr (Or.inr (Or.inr (Or.inr (Or.inr (Or.inr (Or.inr (Or.inr (Or.inr (Or.inr (Or.inr (Or.inr (⟨h.1, by omega⟩)))))))))))))))))))))))))))))))))))))
theorem nr_X0_letters_279__195 (b : Int) : ¬ R_X0_letters_279 195 b := not_false
theorem nr_X0_letters_279__197 (b : Int) : ¬ R_X0_letters_279 197 b := not_false
theorem nr_X3_letterPlace_258__195 (b : Int) : ¬ R_X3_letterPlace_258 195 b := not_false
theorem nr_X3_letterPlace_258__197 (b : Int) : ¬ R_X3_letterPlace_258 197 b := not_false
theorem sj_X11_reading_1_J112 {fu : Nat} (hfu : 8589934592 ≤ fu) (r0 s : z_M) (c : z_CI s) (f : z_Fr R_X11_reading_1 r0 s) (t0 : Int) (d0 : -2147483648 ≤ t0 ∧ t0 ≤ 2147483647) (p0 : z_V16 s) : z_T (fX11_reading_J112 fu s t0) (P_X11_reading_1 r0) := by
  refine T_of (fX11_reading_J112.eq_1 ..) ?_
  have u1 := CI_b c (k := 279) (j := 9) bd_279_9
  exact T_ret ⟨c, f, p0, Or.inl (⟨t0, rfl, by omega, by omega⟩)⟩
theorem nr_X3_letterCode_258__195 (b : Int) : ¬ R_X3_letterCode_258 195 b := not_false
theorem nr_X3_letterCode_258__197 (b : Int) : ¬ R_X3_letterCode_258 197 b := not_false
theorem sj_X11_reading_1_J90 {fu : Nat} (hfu : 8589934592 ≤ fu) (r0 s : z_M) (c : z_CI s) (f : z_Fr R_X11_reading_1 r0 s) (t0 : Int) (d0 : -2147483648 ≤ t0 ∧ t0 ≤ 2147483647) (p0 : z_V16 s) : z_T (fX11_reading_J90 fu s t0) (P_X11_reading_1 r0) := by
  refine T_of (fX11_reading_J90.eq_1 ..) ?_
  have u1 := CI_b c (k := 279) (j := 9) bd_279_9
  exact T_ret ⟨c, f, p0, Or.inl (⟨t0, rfl, by omega, by omega⟩)⟩
theorem sj_X11_reading_1_J64 {fu : Nat} (hfu : 8589934592 ≤ fu) (r0 s : z_M) (c : z_CI s) (f : z_Fr R_X11_reading_1 r0 s) (a1 : Int) (a2 : Int) (a3 : Int) (a4 : Int) (t0 : Int) (b1 : -2147483648 ≤ a1 ∧ a1 ≤ 2147483647) (b2 : -2147483648 ≤ a2 ∧ a2 ≤ 2147483647) (b3 : -2147483648 ≤ a3 ∧ a3 ≤ 2147483647) (b4 : -2147483648 ≤ a4 ∧ a4 ≤ 2147483647) (d0 : 0 ≤ t0 ∧ t0 ≤ 1) (p0 : z_V16 s) : z_T (fX11_reading_J64 fu s 1 a1 a2 a3 a4 t0) (P_X11_reading_1 r0) := by
  refine T_of (fX11_reading_J64.eq_1 ..) ?_
  have u1 := CI_b c (k := 279) (j := 9) bd_279_9
  refine T_ite (fun h2 => ?_) (fun h2 => ?_)
  · refine T_ite (fun h3 => ?_) (fun h3 => ?_)
    · refine T_if1 (by decide +kernel) ?_
      refine T_let 258 (by decide +kernel) ?_
      refine T_if1 (by decide +kernel) ?_
      refine T_useI (sf_X3_letterPlace_258 hfu s c a1 a2 a3 (by omega) (by omega) (by omega)) (fun v9 s4 hq => ?_)
      obtain ⟨c5, f6, ⟨x8, rfl, b10, b11⟩⟩ := hq
      refine T_vI ?_
      have f7 := z_Fr.tr (R := R_X11_reading_1) f f6 (fun a b h => absurd h not_false)
      have t12 : s4 279 9 = s 279 9 := f6 279 9 (by decide)
      have r13 := z_V16.fr p0 (f6 1 16 (by decide)) (f6 191 16 (by decide)) (f6 6 6 (by decide)) (fun b => f6 195 b (nr_X3_letterPlace_258__195 b)) (fun b => f6 197 b (nr_X3_letterPlace_258__197 b))
      exact sj_X11_reading_1_J112 hfu r0 s4 c5 f7 x8 (by omega) r13
    · exact sj_X11_reading_1_J112 hfu r0 s c f (-1000) (by omega) p0
  · refine T_ite (fun h14 => ?_) (fun h14 => ?_)
    · refine T_if1 (by decide +kernel) ?_
      refine T_let 258 (by decide +kernel) ?_
      refine T_if1 (by decide +kernel) ?_
      refine T_useI (sf_X3_letterCode_258 hfu s c a1 a2 a3 (by omega) (by omega) (by omega)) (fun v20 s15 hq => ?_)
      obtain ⟨c16, f17, ⟨x19, rfl, b21, b22⟩⟩ := hq
      refine T_vI ?_
      have f18 := z_Fr.tr (R := R_X11_reading_1) f f17 (fun a b h => absurd h not_false)
      have t23 : s15 279 9 = s 279 9 := f17 279 9 (by decide)
      have r24 := z_V16.fr p0 (f17 1 16 (by decide)) (f17 191 16 (by decide)) (f17 6 6 (by decide)) (fun b => f17 195 b (nr_X3_letterCode_258__195 b)) (fun b => f17 197 b (nr_X3_letterCode_258__197 b))
      exact sj_X11_reading_1_J90 hfu r0 s15 c16 f18 x19 (by omega) r24
    · exact sj_X11_reading_1_J90 hfu r0 s c f (-1) (by omega) p0
theorem sf_X11_reading_1 {fu : Nat} (hfu : 8589934592 ≤ fu) (r0 : z_M) (c0 : z_CI r0) (a1 : Int) (a2 : Int) (a3 : Int) (a4 : Int) (b1 : -2147483648 ≤ a1 ∧ a1 ≤ 2147483647) (b2 : -2147483648 ≤ a2 ∧ a2 ≤ 2147483647) (b3 : -2147483648 ≤ a3 ∧ a3 ≤ 2147483647) (b4 : -2147483648 ≤ a4 ∧ a4 ≤ 2147483647) (p0 : z_V16 r0) : z_T (fX11_reading fu r0 1 a1 a2 a3 a4) (P_X11_reading_1 r0) := by
  refine T_of (fX11_reading.eq_1 ..) ?_
  refine T_if1 (by decide +kernel) ?_
  refine T_useN (sf_X11_refresh_1 hfu r0 c0 p0) (fun v6 s1 hq => ?_)
  obtain ⟨c2, f3, o7, rfl⟩ := hq
  refine T_vN ?_
  have f4 := z_Fr.tr (R := R_X11_reading_1) z_Fr.rf f3 rs_X11_refresh_1__X11_reading_1
  have u10 := CI_b c2 (k := 279) (j := 9) bd_279_9
  refine T_if1 (by decide +kernel) ?_
  refine T_let 258 (by decide +kernel) ?_
  refine T_if1 (by decide +kernel) ?_
  refine T_let 279 (by decide +kernel) ?_
  refine T_if1 (by decide +kernel) ?_
  refine T_leq (fun x11 e12 => ?_)
  have u13 := CI_b c2 (k := 279) (j := 9) bd_279_9
  refine T_if1 (by decide +kernel) ?_
  refine T_ne ?_ (fun h14 h15 => ?_)
  · exact T_ret ⟨CI_up c2 bd_1_14 (z_wb rfl).1, z_Fr.upf (R := R_X11_reading_1) f4 (fun a b h => z_up_k h) (fun b h => z_up_j h) (Or.inr (Or.inr (Or.inr (Or.inr (Or.inr (Or.inr (Or.inr (Or.inl (⟨rfl, by decide⟩))))))))), Or.inr (z_U.fr o7 (z_up_k (by decide)) (z_up_k (by decide)) (fun _ => z_up_k (by decide)) (fun _ => z_up_k (by decide))), Or.inr (Or.inl rfl)⟩
  refine T_if1 (by decide +kernel) ?_
  refine T_nw ?_ (fun h16 h17 => ?_)
  · exact T_ret ⟨CI_up c2 bd_1_15 (z_wb rfl).1, z_Fr.upf (R := R_X11_reading_1) f4 (fun a b h => z_up_k h) (fun b h => z_up_j h) (Or.inr (Or.inr (Or.inr (Or.inr (Or.inr (Or.inr (Or.inr (Or.inl (⟨rfl, by decide⟩))))))))), Or.inr (z_U.fr o7 (z_up_k (by decide)) (z_up_k (by decide)) (fun _ => z_up_k (by decide)) (fun _ => z_up_k (by decide))), Or.inr (Or.inr rfl)⟩
  refine T_if1 (by decide +kernel) ?_
  refine T_nw ?_ (fun h18 h19 => ?_)
  · exact T_ret ⟨CI_up c2 bd_1_15 (z_wb rfl).1, z_Fr.upf (R := R_X11_reading_1) f4 (fun a b h => z_up_k h) (fun b h => z_up_j h) (Or.inr (Or.inr (Or.inr (Or.inr (Or.inr (Or.inr (Or.inr (Or.inl (⟨rfl, by decide⟩))))))))), Or.inr (z_U.fr o7 (z_up_k (by decide)) (z_up_k (by decide)) (fun _ => z_up_k (by decide)) (fun _ => z_up_k (by decide))), Or.inr (Or.inr rfl)⟩
  refine T_if1 (by decide +kernel) ?_
  refine T_nw ?_ (fun h20 h21 => ?_)
  · exact T_ret ⟨CI_up c2 bd_1_15 (z_wb rfl).1, z_Fr.upf (R := R_X11_reading_1) f4 (fun a b h => z_up_k h) (fun b h => z_up_j h) (Or.inr (Or.inr (Or.inr (Or.inr (Or.inr (Or.inr (Or.inr (Or.inl (⟨rfl, by decide⟩))))))))), Or.inr (z_U.fr o7 (z_up_k (by decide)) (z_up_k (by decide)) (fun _ => z_up_k (by decide)) (fun _ => z_up_k (by decide))), Or.inr (Or.inr rfl)⟩
  refine T_if1 (by decide +kernel) ?_
  refine T_let 258 (by decide +kernel) ?_
  refine T_if1 (by decide +kernel) ?_
  refine T_let 279 (by decide +kernel) ?_
  refine T_if1 (by decide +kernel) ?_
  refine T_useI (sf_X0_letters_279 hfu s1 c2 a1 a2 (by omega) (by omega)) (fun v27 s22 hq => ?_)
  obtain ⟨c23, f24, ⟨x26, rfl, b28, b29⟩⟩ := hq
  refine T_vI ?_
  have f25 := z_Fr.tr (R := R_X11_reading_1) f4 f24 (fun a b h => absurd h not_false)
  have t30 : s22 279 9 = s1 279 9 := f24 279 9 (by decide)
  have r31 := z_U.fr o7 (f24 191 16 (by decide)) (f24 6 6 (by decide)) (fun b => f24 195 b (nr_X0_letters_279__195 b)) (fun b => f24 197 b (nr_X0_letters_279__197 b))
  refine T_ite (fun h32 => ?_) (fun h32 => ?_)
  · exact sj_X11_reading_1_J64 hfu r0 s22 c23 f25 a1 a2 a3 a4 0 (by omega) (by omega) (by omega) (by omega) (by omega) (Or.inr r31)
  · exact sj_X11_reading_1_J64 hfu r0 s22 c23 f25 a1 a2 a3 a4 1 (by omega) (by omega) (by omega) (by omega) (by omega) (Or.inr r31)
abbrev R_X11_run_1 (a b : Int) : Prop := (193 ≤ a ∧ a ≤ 219) ∨ (222 ≤ a ∧ a ≤ 222) ∨ (225 ≤ a ∧ a ≤ 239) ∨ (242 ≤ a ∧ a ≤ 244) ∨ (248 ≤ a ∧ a ≤ 248) ∨ (260 ≤ a ∧ a ≤ 278) ∨ (281 ≤ a ∧ a ≤ 295) ∨ (a = 1 ∧ (b = 15 ∨ b = 16 ∨ b = 17 ∨ b = 18)) ∨ (a = 191 ∧ (b = 16 ∨ b = 17 ∨ b = 18)) ∨ (a = 220 ∧ (b = 4 ∨ b = 5)) ∨ (a = 223 ∧ (b = 9)) ∨ (a = 240 ∧ (b = 6)) ∨ (a = 279 ∧ (b = 9))
abbrev P_X11_run_1 (r0 : z_M) : z_V → z_M → Prop := fun v s' => z_CI s' ∧ z_Fr R_X11_run_1 r0 s' ∧ (z_V16 s') ∧ ((∃ x, v = vI x ∧ -2147483648 ≤ x ∧ x ≤ 2147483647) ∨ v = vX 1)
theorem rs_X11_refresh_1__X11_run_1 (a b : Int) (h : R_X11_refresh_1 a b) : R_X11_run_1 a b := (h.elim (fun h => (Or.inl (⟨by omega, by omega⟩))) (fun h => (h.elim (fun h => (Or.inr (Or.inl (⟨by omega, by omega⟩)))) (fun h => (h.elim (fun h => (Or.inr (Or.inr (Or.inl (⟨by omega, by omega⟩))))) (fun h => (h.elim (fun h => (Or.inr (Or.inr (Or.inr (Or.inl (⟨by omega, by omega⟩)))))) (fun h => (h.elim (fun h => (Or.inr (Or.inr (Or.inr (Or.inr (Or.inl (⟨by omega, by omega⟩))))))) (fun h => (h.elim (fun h => (Or.inr (Or.inr (Or.inr (Or.inr (Or.inr (Or.inl (⟨by omega, by omega⟩)))))))) (fun h => (h.elim (fun h => (Or.inr (Or.inr (Or.inr (Or.inr (Or.inr (Or.inr (Or.inl (⟨by omega, by omega⟩))))))))) (fun h => (h.elim (fun h => (Or.inr (Or.inr (Or.inr (Or.inr (Or.inr (Or.inr (Or.inr (Or.inl (⟨h.1, by omega⟩)))))))))) (fun h => (h.elim (fun h => (Or.inr (Or.inr (Or.inr (Or.inr (Or.inr (Or.inr (Or.inr (Or.inr (Or.inl (⟨h.1, by omega⟩))))))))))) (fun h => (h.elim (fun h => (Or.inr (Or.inr (Or.inr (Or.inr (Or.inr (Or.inr (Or.inr (Or.inr (Or.inr (Or.inl (⟨h.1, by omega⟩)))))))))))) (fun h => (h.elim (fun h => (Or.inr (Or.inr (Or.inr (Or.inr (Or.inr (Or.inr (Or.inr (Or.inr (Or.inr (Or.inr (Or.inl (⟨h.1, by omega⟩))))))))))))) (fun h => (h.elim (fun h => (Or.inr (Or.inr (Or.inr (Or.inr (Or.inr (Or.inr (Or.inr (Or.inr (Or.inr (Or.inr (Or.inr (Or.inl (⟨h.1, by omega⟩)))))))))))))) (fun h => (Or.inr (Or.inr (Or.inr (Or.inr (Or.inr (Or.inr (Or.inr (Or.inr (Or.inr (Or.inr (Or.inr (Or.inr (⟨h.1, by omega⟩)))))))))))))))))))))))))))))))))))))
theorem sj_X11_run_1_J111 {fu : Nat} (hfu : 8589934592 ≤ fu) (r0 s : z_M) (c : z_CI s) (f : z_Fr R_X11_run_1 r0 s) (a1 : Int) (a2 : Int) (a3 : Int) (a4 : Int) (a5 : Int) (b1 : -2147483648 ≤ a1 ∧ a1 ≤ 2147483647) (b2 : -2147483648 ≤ a2 ∧ a2 ≤ 2147483647) (b3 : -2147483648 ≤ a3 ∧ a3 ≤ 2147483647) (b4 : -2147483648 ≤ a4 ∧ a4 ≤ 2147483647) (b5 : -2147483648 ≤ a5 ∧ a5 ≤ 2147483646) (p0 : z_V16 s) (M : Int) (pm : 2147483647 - a5 ≤ M) {r : z_M → Int → Int → Int → z_O} {k : z_M → z_O} (hr : ∀ (s' : z_M) (v3 : Int) (v4 : Int) (v5 : Int), z_CI s' → z_Fr R_X11_run_1 r0 s' → (-2147483648 ≤ v3 ∧ v3 ≤ 2147483647) → (-2147483648 ≤ v4 ∧ v4 ≤ 2147483647) → (-2147483648 ≤ v5 ∧ v5 ≤ 2147483647) → (z_V16 s') → (2147483647 - v5 < M) → z_T (r s' v3 v4 v5) (P_X11_run_1 r0)) (hk : ∀ (s' : z_M), z_CI s' → z_Fr R_X11_run_1 r0 s' → (z_V16 s') → z_T (k s') (P_X11_run_1 r0)) : z_T (fX11_run_J111 fu s 1 a1 a2 a3 a4 a5 r k) (P_X11_run_1 r0) := by
  refine T_of (fX11_run_J111.eq_1 ..) ?_
  have u1 := CI_b c (k := 6) (j := 6) bd_6_6
  refine T_leq (fun x2 e3 => ?_)
  have w4 := z_wb e3
  exact hr s a3 a4 x2 c f (by omega) (by omega) (by omega) p0 (by omega)
theorem sj_X11_run_1_J103 {fu : Nat} (hfu : 8589934592 ≤ fu) (r0 s : z_M) (c : z_CI s) (f : z_Fr R_X11_run_1 r0 s) (t0 : Int) (a1 : Int) (a2 : Int) (d0 : -2147483648 ≤ t0 ∧ t0 ≤ 2147483647) (e1 : -2147483648 ≤ a1 ∧ a1 ≤ 2147483647) (e2 : -2147483648 ≤ a2 ∧ a2 ≤ 2147483647) (p0 : z_V16 s) (M : Int) (pm : (0 : Int) ≤ 0) {r : z_M → Int → Int → Int → z_O} {k : z_M → z_O} (hr : ∀ (s' : z_M) (v3 : Int) (v4 : Int) (v5 : Int), z_CI s' → z_Fr R_X11_run_1 r0 s' → (-2147483648 ≤ v3 ∧ v3 ≤ 2147483647) → (-2147483648 ≤ v4 ∧ v4 ≤ 2147483647) → (-2147483648 ≤ v5 ∧ v5 ≤ 2147483647) → (z_V16 s') → (2147483647 - v5 < M) → z_T (r s' v3 v4 v5) (P_X11_run_1 r0)) (hk : ∀ (s' : z_M), z_CI s' → z_Fr R_X11_run_1 r0 s' → (z_V16 s') → z_T (k s') (P_X11_run_1 r0)) : z_T (fX11_run_J103 fu s t0 r k) (P_X11_run_1 r0) := by
  refine T_of (fX11_run_J103.eq_1 ..) ?_
  have u1 := CI_b c (k := 6) (j := 6) bd_6_6
  exact T_ret ⟨c, f, p0, Or.inl (⟨t0, rfl, by omega, by omega⟩)⟩
theorem sj_X11_run_1_J74 {fu : Nat} (hfu : 8589934592 ≤ fu) (r0 s : z_M) (c : z_CI s) (f : z_Fr R_X11_run_1 r0 s) (a1 : Int) (a2 : Int) (a3 : Int) (a4 : Int) (a5 : Int) (a6 : Int) (b1 : -2147483648 ≤ a1 ∧ a1 ≤ 2147483647) (b2 : -2147483648 ≤ a2 ∧ a2 ≤ 2147483647) (b3 : -2147483648 ≤ a3 ∧ a3 ≤ 2147483647) (b4 : -2147483648 ≤ a4 ∧ a4 ≤ 2147483647) (b5 : -2147483648 ≤ a5 ∧ a5 ≤ 2147483646) (b6 : -2147483648 ≤ a6 ∧ a6 ≤ 2147483647) (p0 : z_V16 s) (M : Int) (pm : 2147483647 - a5 ≤ M) {r : z_M → Int → Int → Int → z_O} {k : z_M → z_O} (hr : ∀ (s' : z_M) (v3 : Int) (v4 : Int) (v5 : Int), z_CI s' → z_Fr R_X11_run_1 r0 s' → (-2147483648 ≤ v3 ∧ v3 ≤ 2147483647) → (-2147483648 ≤ v4 ∧ v4 ≤ 2147483647) → (-2147483648 ≤ v5 ∧ v5 ≤ 2147483647) → (z_V16 s') → (2147483647 - v5 < M) → z_T (r s' v3 v4 v5) (P_X11_run_1 r0)) (hk : ∀ (s' : z_M), z_CI s' → z_Fr R_X11_run_1 r0 s' → (z_V16 s') → z_T (k s') (P_X11_run_1 r0)) : z_T (fX11_run_J74 fu s 1 a1 a2 a3 a4 a5 a6 r k) (P_X11_run_1 r0) := by
  refine T_of (fX11_run_J74.eq_1 ..) ?_
  have u1 := CI_b c (k := 6) (j := 6) bd_6_6
  refine T_ite (fun h2 => ?_) (fun h2 => ?_)
  · refine T_leq (fun x3 e4 => ?_)
    have w5 := z_wb e4
    exact sj_X11_run_1_J111 hfu r0 s c f a1 a2 x3 a5 a5 (by omega) (by omega) (by omega) (by omega) (by omega) p0 M (by omega) (fun s' v3 v4 v5 c' f' w3 w4 w5 z0 pg => hr s' v3 v4 v5 c' f' w3 w4 w5 z0 (by omega)) hk
  · refine T_ite (fun h6 => ?_) (fun h6 => ?_)
    · refine T_ite (fun h7 => ?_) (fun h7 => ?_)
      · exact sj_X11_run_1_J103 hfu r0 s c f a6 a1 a2 (by omega) (by omega) (by omega) p0 M (by omega) (fun s' v3 v4 v5 c' f' w3 w4 w5 z0 pg => hr s' v3 v4 v5 c' f' w3 w4 w5 z0 (by omega)) hk
      · refine T_leq (fun x8 e9 => ?_)
        have w10 := z_wr e9
        exact sj_X11_run_1_J103 hfu r0 s c f x8 a1 a2 (by omega) (by omega) (by omega) p0 M (by omega) (fun s' v3 v4 v5 c' f' w3 w4 w5 z0 pg => hr s' v3 v4 v5 c' f' w3 w4 w5 z0 (by omega)) hk
    · exact sj_X11_run_1_J103 hfu r0 s c f a4 a1 a2 (by omega) (by omega) (by omega) p0 M (by omega) (fun s' v3 v4 v5 c' f' w3 w4 w5 z0 pg => hr s' v3 v4 v5 c' f' w3 w4 w5 z0 (by omega)) hk
theorem sl_X11_run_1_L19 {fu : Nat} (hfu : 8589934592 ≤ fu) (r0 : z_M) (a1 : Int) (a2 : Int) (b1 : -2147483648 ≤ a1 ∧ a1 ≤ 2147483647) (b2 : -2147483648 ≤ a2 ∧ a2 ≤ 2147483647) {k : z_M → z_O} (hk : ∀ (s' : z_M), z_CI s' → z_Fr R_X11_run_1 r0 s' → (z_V16 s') → z_T (k s') (P_X11_run_1 r0)) : ∀ (F : Nat) (s : z_M) (a3 : Int) (a4 : Int) (a5 : Int), z_CI s → z_Fr R_X11_run_1 r0 s → (-2147483648 ≤ a3 ∧ a3 ≤ 2147483647) → (-2147483648 ≤ a4 ∧ a4 ≤ 2147483647) → (-2147483648 ≤ a5 ∧ a5 ≤ 2147483647) → (z_V16 s) → (2147483647 - a5 < (F : Int)) → z_T (fX11_run_L19 fu 1 a1 a2 F s a3 a4 a5 k) (P_X11_run_1 r0) := by
  intro F
  induction F with
  | zero =>
    intro s a3 a4 a5 c f b3 b4 b5 i0 hm
    have u21 := CI_b c (k := 6) (j := 6) bd_6_6
    exfalso; omega
  | succ F ih =>
    intro s a3 a4 a5 c f b3 b4 b5 i0 hm
    refine T_of (fX11_run_L19.eq_2 ..) ?_
    have u1 := CI_b c (k := 6) (j := 6) bd_6_6
    refine T_if1 (by decide +kernel) ?_
    refine T_let 6 (by decide +kernel) ?_
    refine T_if1 (by decide +kernel) ?_
    refine T_leq (fun x2 e3 => ?_)
    have u4 := CI_b c (k := 6) (j := 6) bd_6_6
    refine T_ite (fun h5 => ?_) (fun h5 => ?_)
    · exact hk s c f i0
    · refine T_if1 (by decide +kernel) ?_
      refine T_let 191 (by decide +kernel) ?_
      refine T_if1 (by decide +kernel) ?_
      refine T_let 218 (by decide +kernel) ?_
      refine T_if1 (by decide +kernel) ?_
      refine T_get (by decide +kernel) (c := 219) (by decide +kernel) bdr_219 (by decide) c (fun x6 e7 b8 w9 => ?_)
      have l10 : z_ln 218 = 200 := by decide +kernel
      refine T_if1 (by decide +kernel) ?_
      refine T_let 6 (by decide +kernel) ?_
      refine T_if1 (by decide +kernel) ?_
      refine T_leq (fun x11 e12 => ?_)
      have u13 := CI_b c (k := 6) (j := 6) bd_6_6
      refine T_ite (fun h14 => ?_) (fun h14 => ?_)
      · exact sj_X11_run_1_J74 hfu r0 s c f a1 a2 a3 a4 a5 x6 (by omega) (by omega) (by omega) (by omega) (by omega) (by omega) i0 (2147483647 - a5) (by omega) (fun s' v3 v4 v5 c' f' w3 w4 w5 z0 pg => ih s' v3 v4 v5 c' f' w3 w4 w5 z0 (by omega)) hk
      · refine T_if1 (by decide +kernel) ?_
        refine T_let 191 (by decide +kernel) ?_
        refine T_if1 (by decide +kernel) ?_
        refine T_let 218 (by decide +kernel) ?_
        refine T_if1 (by decide +kernel) ?_
        refine T_get (by decide +kernel) (c := 219) (by decide +kernel) bdr_219 (by decide) c (fun x15 e16 b17 w18 => ?_)
        have l19 : z_ln 218 = 200 := by decide +kernel
        refine T_ite (fun h20 => ?_) (fun h20 => ?_)
        · exact sj_X11_run_1_J111 hfu r0 s c f a1 a2 a3 a4 a5 (by omega) (by omega) (by omega) (by omega) (by omega) i0 (2147483647 - a5) (by omega) (fun s' v3 v4 v5 c' f' w3 w4 w5 z0 pg => ih s' v3 v4 v5 c' f' w3 w4 w5 z0 (by omega)) hk
        · exact sj_X11_run_1_J74 hfu r0 s c f a1 a2 a3 a4 a5 x6 (by omega) (by omega) (by omega) (by omega) (by omega) (by omega) i0 (2147483647 - a5) (by omega) (fun s' v3 v4 v5 c' f' w3 w4 w5 z0 pg => ih s' v3 v4 v5 c' f' w3 w4 w5 z0 (by omega)) hk
theorem sf_X11_run_1 {fu : Nat} (hfu : 8589934592 ≤ fu) (r0 : z_M) (c0 : z_CI r0) (a1 : Int) (a2 : Int) (b1 : -2147483648 ≤ a1 ∧ a1 ≤ 2147483647) (b2 : -2147483648 ≤ a2 ∧ a2 ≤ 2147483647) (p0 : z_V16 r0) : z_T (fX11_run fu r0 1 a1 a2) (P_X11_run_1 r0) := by
  refine T_of (fX11_run.eq_1 ..) ?_
  refine T_if1 (by decide +kernel) ?_
  refine T_nw ?_ (fun h1 h2 => ?_)
  · exact T_ret ⟨CI_up c0 bd_1_15 (z_wb rfl).1, z_Fr.upf (R := R_X11_run_1) z_Fr.rf (fun a b h => z_up_k h) (fun b h => z_up_j h) (Or.inr (Or.inr (Or.inr (Or.inr (Or.inr (Or.inr (Or.inr (Or.inl (⟨rfl, by decide⟩))))))))), z_V16.fr p0 (z_up_j (by decide)) (z_up_k (by decide)) (z_up_k (by decide)) (fun _ => z_up_k (by decide)) (fun _ => z_up_k (by decide)), Or.inr rfl⟩
  refine T_if1 (by decide +kernel) ?_
  refine T_useN (sf_X11_refresh_1 hfu r0 c0 p0) (fun v8 s3 hq => ?_)
  obtain ⟨c4, f5, o9, rfl⟩ := hq
  refine T_vN ?_
  have f6 := z_Fr.tr (R := R_X11_run_1) z_Fr.rf f5 rs_X11_refresh_1__X11_run_1
  have t12 : s3 6 6 = r0 6 6 := f5 6 6 (by decide)
  refine sl_X11_run_1_L19 hfu r0 a1 a2 (by omega) (by omega) (fun s13 c14 f15 g16 => ?_) fu s3 0 0 1 c4 f6 (by omega) (by omega) (by omega) (Or.inr o9) (by omega)
  have u17 := CI_b c14 (k := 6) (j := 6) bd_6_6
  exact T_ret ⟨c14, f15, g16, Or.inl (⟨(-1), rfl, by omega, by omega⟩)⟩
abbrev R_X3_standingAt_258 (a b : Int) : Prop := (a = 220 ∧ (b = 4 ∨ b = 5))
abbrev P_X3_standingAt_258 (r0 : z_M) : z_V → z_M → Prop := fun v s' => z_CI s' ∧ z_Fr R_X3_standingAt_258 r0 s' ∧ (∃ x, v = vI x ∧ -2147483648 ≤ x ∧ x ≤ 2147483647)
theorem rs_X5_trim_220__X3_standingAt_258 (a b : Int) (h : R_X5_trim_220 a b) : R_X3_standingAt_258 a b := (⟨h.1, by omega⟩)
theorem sj_X3_standingAt_258_J136 {fu : Nat} (hfu : 8589934592 ≤ fu) (r0 s : z_M) (c : z_CI s) (f : z_Fr R_X3_standingAt_258 r0 s) (a2 : Int) (a3 : Int) (a4 : Int) (a5 : Int) (b2 : -2147483648 ≤ a2 ∧ a2 ≤ 2147483647) (b3 : -2147483648 ≤ a3 ∧ a3 ≤ 2147483647) (b4 : -2147483648 ≤ a4 ∧ a4 ≤ 2147483647) (b5 : -2147483648 ≤ a5 ∧ a5 ≤ 2147483646) (M : Int) (pm : 2147483647 - a5 ≤ M) {r : z_M → Int → z_O} {k : z_M → z_O} (hr : ∀ (s' : z_M) (v5 : Int), z_CI s' → z_Fr R_X3_standingAt_258 r0 s' → (-2147483648 ≤ v5 ∧ v5 ≤ 2147483647) → (2147483647 - v5 < M) → z_T (r s' v5) (P_X3_standingAt_258 r0)) (hk : ∀ (s' : z_M), z_CI s' → z_Fr R_X3_standingAt_258 r0 s' → z_T (k s') (P_X3_standingAt_258 r0)) : z_T (fX3_standingAt_J136 fu s 258 a2 a3 a4 a5 r k) (P_X3_standingAt_258 r0) := by
  refine T_of (fX3_standingAt_J136.eq_1 ..) ?_
  have u1 := CI_b c (k := 220) (j := 4) bd_220_4
  have u2 := CI_b c (k := 220) (j := 5) bd_220_5
  refine T_leq (fun x3 e4 => ?_)
  have w5 := z_wb e4
  exact hr s x3 c f (by omega) (by omega)
theorem sl_X3_standingAt_258_L90 {fu : Nat} (hfu : 8589934592 ≤ fu) (r0 : z_M) (a2 : Int) (a3 : Int) (a4 : Int) (b2 : -2147483648 ≤ a2 ∧ a2 ≤ 2147483647) (b3 : -2147483648 ≤ a3 ∧ a3 ≤ 2147483647) (b4 : -2147483648 ≤ a4 ∧ a4 ≤ 2147483647) {k : z_M → z_O} (hk : ∀ (s' : z_M), z_CI s' → z_Fr R_X3_standingAt_258 r0 s' → z_T (k s') (P_X3_standingAt_258 r0)) : ∀ (F : Nat) (s : z_M) (a5 : Int), z_CI s → z_Fr R_X3_standingAt_258 r0 s → (-2147483648 ≤ a5 ∧ a5 ≤ 2147483647) → (2147483647 - a5 < (F : Int)) → z_T (fX3_standingAt_L90 fu 258 a2 a3 a4 F s a5 k) (P_X3_standingAt_258 r0) := by
  intro F
  induction F with
  | zero =>
    intro s a5 c f b5 hm
    have u19 := CI_b c (k := 220) (j := 4) bd_220_4
    have u20 := CI_b c (k := 220) (j := 5) bd_220_5
    exfalso; omega
  | succ F ih =>
    intro s a5 c f b5 hm
    refine T_of (fX3_standingAt_L90.eq_2 ..) ?_
    have u1 := CI_b c (k := 220) (j := 4) bd_220_4
    have u2 := CI_b c (k := 220) (j := 5) bd_220_5
    refine T_ite (fun h3 => ?_) (fun h3 => ?_)
    · exact hk s c f
    · refine T_if1 (by decide +kernel) ?_
      refine T_let 267 (by decide +kernel) ?_
      refine T_if1 (by decide +kernel) ?_
      refine T_get (by decide +kernel) (c := 268) (by decide +kernel) bdr_268 (by decide) c (fun x4 e5 b6 w7 => ?_)
      have l8 : z_ln 267 = 200 := by decide +kernel
      refine T_ite (fun h9 => ?_) (fun h9 => ?_)
      · exact sj_X3_standingAt_258_J136 hfu r0 s c f a2 a3 a4 a5 (by omega) (by omega) (by omega) (by omega) (2147483647 - a5) (by omega) (fun s' v5 c' f' w5 pg => ih s' v5 c' f' w5 (by omega)) hk
      · refine T_if1 (by decide +kernel) ?_
        refine T_let 191 (by decide +kernel) ?_
        refine T_if1 (by decide +kernel) ?_
        refine T_let 216 (by decide +kernel) ?_
        refine T_if1 (by decide +kernel) ?_
        refine T_get (by decide +kernel) (c := 217) (by decide +kernel) bdr_217 (by decide) c (fun x10 e11 b12 w13 => ?_)
        have l14 : z_ln 216 = 200 := by decide +kernel
        refine T_leq (fun x15 e16 => ?_)
        have w17 := z_wb e16
        refine T_ite (fun h18 => ?_) (fun h18 => ?_)
        · exact sj_X3_standingAt_258_J136 hfu r0 s c f a2 a3 a4 a5 (by omega) (by omega) (by omega) (by omega) (2147483647 - a5) (by omega) (fun s' v5 c' f' w5 pg => ih s' v5 c' f' w5 (by omega)) hk
        · exact T_ret ⟨c, f, ⟨a5, rfl, by omega, by omega⟩⟩
theorem sl_X3_standingAt_258_L41 {fu : Nat} (hfu : 8589934592 ≤ fu) (r0 : z_M) (a2 : Int) (b2 : -2147483648 ≤ a2 ∧ a2 ≤ 2147483647) {k : z_M → z_O} (hk : ∀ (s' : z_M), z_CI s' → z_Fr R_X3_standingAt_258 r0 s' → z_T (k s') (P_X3_standingAt_258 r0)) : ∀ (F : Nat) (s : z_M) (a3 : Int), z_CI s → z_Fr R_X3_standingAt_258 r0 s → (-2147483648 ≤ a3 ∧ a3 ≤ 2147483647) → (2147483647 - a3 < (F : Int)) → z_T (fX3_standingAt_L41 fu 258 a2 F s a3 k) (P_X3_standingAt_258 r0) := by
  intro F
  induction F with
  | zero =>
    intro s a3 c f b3 hm
    have u33 := CI_b c (k := 220) (j := 4) bd_220_4
    have u34 := CI_b c (k := 220) (j := 5) bd_220_5
    exfalso; omega
  | succ F ih =>
    intro s a3 c f b3 hm
    refine T_of (fX3_standingAt_L41.eq_2 ..) ?_
    have u1 := CI_b c (k := 220) (j := 4) bd_220_4
    have u2 := CI_b c (k := 220) (j := 5) bd_220_5
    refine T_if1 (by decide +kernel) ?_
    refine T_let 220 (by decide +kernel) ?_
    refine T_if1 (by decide +kernel) ?_
    refine T_leq (fun x3 e4 => ?_)
    have u5 := CI_b c (k := 220) (j := 5) bd_220_5
    refine T_ite (fun h6 => ?_) (fun h6 => ?_)
    · exact hk s c f
    · refine T_if1 (by decide +kernel) ?_
      refine T_let 191 (by decide +kernel) ?_
      refine T_if1 (by decide +kernel) ?_
      refine T_let 194 (by decide +kernel) ?_
      refine T_if1 (by decide +kernel) ?_
      refine T_get (by decide +kernel) (c := 195) (by decide +kernel) bdr_195 (by decide) c (fun x7 e8 b9 w10 => ?_)
      have l11 : z_ln 194 = 200 := by decide +kernel
      refine T_if1 (by decide +kernel) ?_
      refine T_let 191 (by decide +kernel) ?_
      refine T_if1 (by decide +kernel) ?_
      refine T_let 196 (by decide +kernel) ?_
      refine T_if1 (by decide +kernel) ?_
      refine T_get (by decide +kernel) (c := 197) (by decide +kernel) bdr_197 (by decide) c (fun x12 e13 b14 w15 => ?_)
      have l16 : z_ln 196 = 200 := by decide +kernel
      refine T_leq (fun x17 e18 => ?_)
      have w19 := z_wb e18
      refine T_if1 (by decide +kernel) ?_
      refine T_let 191 (by decide +kernel) ?_
      refine T_if1 (by decide +kernel) ?_
      refine T_let 194 (by decide +kernel) ?_
      refine T_if1 (by decide +kernel) ?_
      refine T_get (by decide +kernel) (c := 195) (by decide +kernel) bdr_195 (by decide) c (fun x20 e21 b22 w23 => ?_)
      have l24 : z_ln 194 = 200 := by decide +kernel
      refine sl_X3_standingAt_258_L90 hfu r0 a2 a3 x17 (by omega) (by omega) (by omega) (fun s25 c26 f27 => ?_) fu s x20 c f (by omega) (by omega)
      have u28 := CI_b c26 (k := 220) (j := 4) bd_220_4
      have u29 := CI_b c26 (k := 220) (j := 5) bd_220_5
      refine T_leq (fun x30 e31 => ?_)
      have w32 := z_wb e31
      exact ih s25 x30 c26 f27 (by omega) (by omega)
theorem sf_X3_standingAt_258 {fu : Nat} (hfu : 8589934592 ≤ fu) (r0 : z_M) (c0 : z_CI r0) (a1 : Int) (a2 : Int) (b1 : -2147483648 ≤ a1 ∧ a1 ≤ 2147483647) (b2 : -2147483648 ≤ a2 ∧ a2 ≤ 2147483647) : z_T (fX3_standingAt fu r0 258 a1 a2) (P_X3_standingAt_258 r0) := by
  refine T_of (fX3_standingAt.eq_1 ..) ?_
  refine T_if1 (by decide +kernel) ?_
  refine T_let 220 (by decide +kernel) ?_
  refine T_if1 (by decide +kernel) ?_
  refine T_let 240 (by decide +kernel) ?_
  refine T_if1 (by decide +kernel) ?_
  refine T_let 247 (by decide +kernel) ?_
  refine T_if1 (by decide +kernel) ?_
  refine T_get (by decide +kernel) (c := 248) (by decide +kernel) bdr_248 (by decide) c0 (fun x1 e2 b3 w4 => ?_)
  have l5 : z_ln 247 = 201 := by decide +kernel
  refine T_if1 (by decide +kernel) ?_
  refine T_let 240 (by decide +kernel) ?_
  refine T_if1 (by decide +kernel) ?_
  refine T_let 247 (by decide +kernel) ?_
  refine T_leq (fun x6 e7 => ?_)
  have w8 := z_wb e7
  refine T_if1 (by decide +kernel) ?_
  refine T_get (by decide +kernel) (c := 248) (by decide +kernel) bdr_248 (by decide) c0 (fun x9 e10 b11 w12 => ?_)
  have l13 : z_ln 247 = 201 := by decide +kernel
  refine T_leq (fun x14 e15 => ?_)
  have w16 := z_wb e15
  refine T_if1 (by decide +kernel) ?_
  refine T_useN (sf_X5_trim_220 hfu r0 c0 x1 x14 (by omega) (by omega)) (fun v22 s17 hq => ?_)
  obtain ⟨c18, f19, rfl⟩ := hq
  refine T_vN ?_
  have f20 := z_Fr.tr (R := R_X3_standingAt_258) z_Fr.rf f19 rs_X5_trim_220__X3_standingAt_258
  have u25 := CI_b c18 (k := 220) (j := 4) bd_220_4
  have u26 := CI_b c18 (k := 220) (j := 5) bd_220_5
  refine T_if1 (by decide +kernel) ?_
  refine T_let 220 (by decide +kernel) ?_
  refine T_if1 (by decide +kernel) ?_
  refine T_leq (fun x27 e28 => ?_)
  have u29 := CI_b c18 (k := 220) (j := 4) bd_220_4
  refine sl_X3_standingAt_258_L41 hfu r0 a2 (by omega) (fun s30 c31 f32 => ?_) fu s17 x27 c18 f20 (by omega) (by omega)
  have u33 := CI_b c31 (k := 220) (j := 4) bd_220_4
  have u34 := CI_b c31 (k := 220) (j := 5) bd_220_5
  exact T_ret ⟨c31, f32, ⟨(-1), rfl, by omega, by omega⟩⟩
abbrev R_X11_at_1 (a b : Int) : Prop := (193 ≤ a ∧ a ≤ 219) ∨ (222 ≤ a ∧ a ≤ 222) ∨ (225 ≤ a ∧ a ≤ 239) ∨ (242 ≤ a ∧ a ≤ 244) ∨ (248 ≤ a ∧ a ≤ 248) ∨ (260 ≤ a ∧ a ≤ 278) ∨ (281 ≤ a ∧ a ≤ 295) ∨ (a = 1 ∧ (b = 14 ∨ b = 16 ∨ b = 17 ∨ b = 18)) ∨ (a = 191 ∧ (b = 16 ∨ b = 17 ∨ b = 18)) ∨ (a = 220 ∧ (b = 4 ∨ b = 5)) ∨ (a = 223 ∧ (b = 9)) ∨ (a = 240 ∧ (b = 6)) ∨ (a = 279 ∧ (b = 9))
abbrev P_X11_at_1 (r0 : z_M) : z_V → z_M → Prop := fun v s' => z_CI s' ∧ z_Fr R_X11_at_1 r0 s' ∧ (z_V16 s') ∧ ((∃ x, v = vI x ∧ -2147483648 ≤ x ∧ x ≤ 2147483647) ∨ v = vX 0)
theorem rs_X11_refresh_1__X11_at_1 (a b : Int) (h : R_X11_refresh_1 a b) : R_X11_at_1 a b := (h.elim (fun h => (Or.inl (⟨by omega, by omega⟩))) (fun h => (h.elim (fun h => (Or.inr (Or.inl (⟨by omega, by omega⟩)))) (fun h => (h.elim (fun h => (Or.inr (Or.inr (Or.inl (⟨by omega, by omega⟩))))) (fun h => (h.elim (fun h => (Or.inr (Or.inr (Or.inr (Or.inl (⟨by omega, by omega⟩)))))) (fun h => (h.elim (fun h => (Or.inr (Or.inr (Or.inr (Or.inr (Or.inl (⟨by omega, by omega⟩))))))) (fun h => (h.elim (fun h => (Or.inr (Or.inr (Or.inr (Or.inr (Or.inr (Or.inl (⟨by omega, by omega⟩)))))))) (fun h => (h.elim (fun h => (Or.inr (Or.inr (Or.inr (Or.inr (Or.inr (Or.inr (Or.inl (⟨by omega, by omega⟩))))))))) (fun h => (h.elim (fun h => (Or.inr (Or.inr (Or.inr (Or.inr (Or.inr (Or.inr (Or.inr (Or.inl (⟨h.1, by omega⟩)))))))))) (fun h => (h.elim (fun h => (Or.inr (Or.inr (Or.inr (Or.inr (Or.inr (Or.inr (Or.inr (Or.inr (Or.inl (⟨h.1, by omega⟩))))))))))) (fun h => (h.elim (fun h => (Or.inr (Or.inr (Or.inr (Or.inr (Or.inr (Or.inr (Or.inr (Or.inr (Or.inr (Or.inl (⟨h.1, by omega⟩)))))))))))) (fun h => (h.elim (fun h => (Or.inr (Or.inr (Or.inr (Or.inr (Or.inr (Or.inr (Or.inr (Or.inr (Or.inr (Or.inr (Or.inl (⟨h.1, by omega⟩))))))))))))) (fun h => (h.elim (fun h => (Or.inr (Or.inr (Or.inr (Or.inr (Or.inr (Or.inr (Or.inr (Or.inr (Or.inr (Or.inr (Or.inr (Or.inl (⟨h.1, by omega⟩)))))))))))))) (fun h => (Or.inr (Or.inr (Or.inr (Or.inr (Or.inr (Or.inr (Or.inr (Or.inr (Or.inr (Or.inr (Or.inr (Or.inr (⟨h.1, by omega⟩)))))))))))))))))))))))))))))))))))))
theorem rs_X3_standingAt_258__X11_at_1 (a b : Int) (h : R_X3_standingAt_258 a b) : R_X11_at_1 a b := (Or.inr (Or.inr (Or.inr (Or.inr (Or.inr (Or.inr (Or.inr (Or.inr (Or.inr (Or.inl (⟨h.1, by omega⟩)))))))))))
theorem nr_X3_standingAt_258__195 (b : Int) : ¬ R_X3_standingAt_258 195 b := by
  unfold R_X3_standingAt_258; omega
theorem nr_X3_standingAt_258__197 (b : Int) : ¬ R_X3_standingAt_258 197 b := by
  unfold R_X3_standingAt_258; omega
theorem sf_X11_at_1 {fu : Nat} (hfu : 8589934592 ≤ fu) (r0 : z_M) (c0 : z_CI r0) (a1 : Int) (a2 : Int) (b1 : -2147483648 ≤ a1 ∧ a1 ≤ 2147483647) (b2 : -2147483648 ≤ a2 ∧ a2 ≤ 2147483647) (p0 : z_V16 r0) : z_T (fX11_at fu r0 1 a1 a2) (P_X11_at_1 r0) := by
  refine T_of (fX11_at.eq_1 ..) ?_
  refine T_if1 (by decide +kernel) ?_
  refine T_useN (sf_X11_refresh_1 hfu r0 c0 p0) (fun v6 s1 hq => ?_)
  obtain ⟨c2, f3, o7, rfl⟩ := hq
  refine T_vN ?_
  have f4 := z_Fr.tr (R := R_X11_at_1) z_Fr.rf f3 rs_X11_refresh_1__X11_at_1
  have u10 := CI_b c2 (k := 240) (j := 6) bd_240_6
  refine T_if1 (by decide +kernel) ?_
  refine T_let 240 (by decide +kernel) ?_
  refine T_if1 (by decide +kernel) ?_
  refine T_leq (fun x11 e12 => ?_)
  have u13 := CI_b c2 (k := 240) (j := 6) bd_240_6
  refine T_if1 (by decide +kernel) ?_
  refine T_ne ?_ (fun h14 h15 => ?_)
  · exact T_ret ⟨CI_up c2 bd_1_14 (z_wb rfl).1, z_Fr.upf (R := R_X11_at_1) f4 (fun a b h => z_up_k h) (fun b h => z_up_j h) (Or.inr (Or.inr (Or.inr (Or.inr (Or.inr (Or.inr (Or.inr (Or.inl (⟨rfl, by decide⟩))))))))), Or.inr (z_U.fr o7 (z_up_k (by decide)) (z_up_k (by decide)) (fun _ => z_up_k (by decide)) (fun _ => z_up_k (by decide))), Or.inr rfl⟩
  refine T_if1 (by decide +kernel) ?_
  refine T_let 258 (by decide +kernel) ?_
  refine T_if1 (by decide +kernel) ?_
  refine T_useI (sf_X3_standingAt_258 hfu s1 c2 a1 a2 (by omega) (by omega)) (fun v21 s16 hq => ?_)
  obtain ⟨c17, f18, ⟨x20, rfl, b22, b23⟩⟩ := hq
  refine T_vI ?_
  have f19 := z_Fr.tr (R := R_X11_at_1) f4 f18 rs_X3_standingAt_258__X11_at_1
  have t24 : s16 240 6 = s1 240 6 := f18 240 6 (by decide)
  have r25 := z_U.fr o7 (f18 191 16 (by decide)) (f18 6 6 (by decide)) (fun b => f18 195 b (nr_X3_standingAt_258__195 b)) (fun b => f18 197 b (nr_X3_standingAt_258__197 b))
  exact T_ret ⟨c17, f19, (Or.inr r25), Or.inl (⟨x20, rfl, by omega, by omega⟩)⟩
abbrev R_X11_ends_1 (a b : Int) : Prop := (193 ≤ a ∧ a ≤ 219) ∨ (222 ≤ a ∧ a ≤ 222) ∨ (225 ≤ a ∧ a ≤ 239) ∨ (242 ≤ a ∧ a ≤ 244) ∨ (248 ≤ a ∧ a ≤ 248) ∨ (260 ≤ a ∧ a ≤ 278) ∨ (281 ≤ a ∧ a ≤ 295) ∨ (a = 1 ∧ (b = 14 ∨ b = 16 ∨ b = 17 ∨ b = 18)) ∨ (a = 191 ∧ (b = 16 ∨ b = 17 ∨ b = 18)) ∨ (a = 220 ∧ (b = 4 ∨ b = 5)) ∨ (a = 223 ∧ (b = 9)) ∨ (a = 240 ∧ (b = 6)) ∨ (a = 279 ∧ (b = 9))
abbrev P_X11_ends_1 (r0 : z_M) : z_V → z_M → Prop := fun v s' => z_CI s' ∧ z_Fr R_X11_ends_1 r0 s' ∧ (z_V16 s') ∧ ((∃ x, v = vI x ∧ 0 ≤ x ∧ x ≤ 1) ∨ v = vX 0)
theorem rs_X11_refresh_1__X11_ends_1 (a b : Int) (h : R_X11_refresh_1 a b) : R_X11_ends_1 a b := (h.elim (fun h => (Or.inl (⟨by omega, by omega⟩))) (fun h => (h.elim (fun h => (Or.inr (Or.inl (⟨by omega, by omega⟩)))) (fun h => (h.elim (fun h => (Or.inr (Or.inr (Or.inl (⟨by omega, by omega⟩))))) (fun h => (h.elim (fun h => (Or.inr (Or.inr (Or.inr (Or.inl (⟨by omega, by omega⟩)))))) (fun h => (h.elim (fun h => (Or.inr (Or.inr (Or.inr (Or.inr (Or.inl (⟨by omega, by omega⟩))))))) (fun h => (h.elim (fun h => (Or.inr (Or.inr (Or.inr (Or.inr (Or.inr (Or.inl (⟨by omega, by omega⟩)))))))) (fun h => (h.elim (fun h => (Or.inr (Or.inr (Or.inr (Or.inr (Or.inr (Or.inr (Or.inl (⟨by omega, by omega⟩))))))))) (fun h => (h.elim (fun h => (Or.inr (Or.inr (Or.inr (Or.inr (Or.inr (Or.inr (Or.inr (Or.inl (⟨h.1, by omega⟩)))))))))) (fun h => (h.elim (fun h => (Or.inr (Or.inr (Or.inr (Or.inr (Or.inr (Or.inr (Or.inr (Or.inr (Or.inl (⟨h.1, by omega⟩))))))))))) (fun h => (h.elim (fun h => (Or.inr (Or.inr (Or.inr (Or.inr (Or.inr (Or.inr (Or.inr (Or.inr (Or.inr (Or.inl (⟨h.1, by omega⟩)))))))))))) (fun h => (h.elim (fun h => (Or.inr (Or.inr (Or.inr (Or.inr (Or.inr (Or.inr (Or.inr (Or.inr (Or.inr (Or.inr (Or.inl (⟨h.1, by omega⟩))))))))))))) (fun h => (h.elim (fun h => (Or.inr (Or.inr (Or.inr (Or.inr (Or.inr (Or.inr (Or.inr (Or.inr (Or.inr (Or.inr (Or.inr (Or.inl (⟨h.1, by omega⟩)))))))))))))) (fun h => (Or.inr (Or.inr (Or.inr (Or.inr (Or.inr (Or.inr (Or.inr (Or.inr (Or.inr (Or.inr (Or.inr (Or.inr (⟨h.1, by omega⟩)))))))))))))))))))))))))))))))))))))
theorem sj_X11_ends_1_J36 {fu : Nat} (hfu : 8589934592 ≤ fu) (r0 s : z_M) (c : z_CI s) (f : z_Fr R_X11_ends_1 r0 s) (t0 : Int) (d0 : 0 ≤ t0 ∧ t0 ≤ 1) (p0 : z_V16 s) : z_T (fX11_ends_J36 fu s t0) (P_X11_ends_1 r0) := by
  refine T_of (fX11_ends_J36.eq_1 ..) ?_
  have u1 := CI_b c (k := 191) (j := 16) bd_191_16
  refine T_if1 (by unfold z_bl; omega) ?_
  exact T_ret ⟨c, f, p0, Or.inl (⟨t0, rfl, by omega, by omega⟩)⟩
theorem sf_X11_ends_1 {fu : Nat} (hfu : 8589934592 ≤ fu) (r0 : z_M) (c0 : z_CI r0) (a1 : Int) (b1 : -2147483648 ≤ a1 ∧ a1 ≤ 2147483647) (p0 : z_V16 r0) : z_T (fX11_ends fu r0 1 a1) (P_X11_ends_1 r0) := by
  refine T_of (fX11_ends.eq_1 ..) ?_
  refine T_if1 (by decide +kernel) ?_
  refine T_useN (sf_X11_refresh_1 hfu r0 c0 p0) (fun v6 s1 hq => ?_)
  obtain ⟨c2, f3, o7, rfl⟩ := hq
  refine T_vN ?_
  have f4 := z_Fr.tr (R := R_X11_ends_1) z_Fr.rf f3 rs_X11_refresh_1__X11_ends_1
  have u10 := CI_b c2 (k := 191) (j := 16) bd_191_16
  refine T_if1 (by decide +kernel) ?_
  refine T_let 191 (by decide +kernel) ?_
  refine T_if1 (by decide +kernel) ?_
  refine T_leq (fun x11 e12 => ?_)
  have u13 := CI_b c2 (k := 191) (j := 16) bd_191_16
  refine T_if1 (by decide +kernel) ?_
  refine T_ne ?_ (fun h14 h15 => ?_)
  · exact T_ret ⟨CI_up c2 bd_1_14 (z_wb rfl).1, z_Fr.upf (R := R_X11_ends_1) f4 (fun a b h => z_up_k h) (fun b h => z_up_j h) (Or.inr (Or.inr (Or.inr (Or.inr (Or.inr (Or.inr (Or.inr (Or.inl (⟨rfl, by decide⟩))))))))), Or.inr (z_U.fr o7 (z_up_k (by decide)) (z_up_k (by decide)) (fun _ => z_up_k (by decide)) (fun _ => z_up_k (by decide))), Or.inr rfl⟩
  refine T_if1 (by decide +kernel) ?_
  refine T_let 191 (by decide +kernel) ?_
  refine T_if1 (by decide +kernel) ?_
  refine T_let 208 (by decide +kernel) ?_
  refine T_if1 (by decide +kernel) ?_
  refine T_get (by decide +kernel) (c := 209) (by decide +kernel) bdr_209 (by decide) c2 (fun x16 e17 b18 w19 => ?_)
  have l20 : z_ln 208 = 200 := by decide +kernel
  refine T_ite (fun h21 => ?_) (fun h21 => ?_)
  · exact sj_X11_ends_1_J36 hfu r0 s1 c2 f4 0 (by omega) (Or.inr o7)
  · exact sj_X11_ends_1_J36 hfu r0 s1 c2 f4 1 (by omega) (Or.inr o7)
abbrev R_X11_longOf_1 (a b : Int) : Prop := (193 ≤ a ∧ a ≤ 219) ∨ (222 ≤ a ∧ a ≤ 222) ∨ (225 ≤ a ∧ a ≤ 239) ∨ (242 ≤ a ∧ a ≤ 244) ∨ (248 ≤ a ∧ a ≤ 248) ∨ (260 ≤ a ∧ a ≤ 278) ∨ (281 ≤ a ∧ a ≤ 295) ∨ (a = 1 ∧ (b = 14 ∨ b = 15 ∨ b = 16 ∨ b = 17 ∨ b = 18)) ∨ (a = 191 ∧ (b = 16 ∨ b = 17 ∨ b = 18)) ∨ (a = 220 ∧ (b = 4 ∨ b = 5)) ∨ (a = 223 ∧ (b = 9)) ∨ (a = 240 ∧ (b = 6)) ∨ (a = 279 ∧ (b = 9))
abbrev P_X11_longOf_1 (r0 : z_M) : z_V → z_M → Prop := fun v s' => z_CI s' ∧ z_Fr R_X11_longOf_1 r0 s' ∧ (z_V16 s') ∧ ((∃ x, v = vI x ∧ -2147483648 ≤ x ∧ x ≤ 2147483647) ∨ v = vX 0 ∨ v = vX 1)
theorem rs_X11_refresh_1__X11_longOf_1 (a b : Int) (h : R_X11_refresh_1 a b) : R_X11_longOf_1 a b := (h.elim (fun h => (Or.inl (⟨by omega, by omega⟩))) (fun h => (h.elim (fun h => (Or.inr (Or.inl (⟨by omega, by omega⟩)))) (fun h => (h.elim (fun h => (Or.inr (Or.inr (Or.inl (⟨by omega, by omega⟩))))) (fun h => (h.elim (fun h => (Or.inr (Or.inr (Or.inr (Or.inl (⟨by omega, by omega⟩)))))) (fun h => (h.elim (fun h => (Or.inr (Or.inr (Or.inr (Or.inr (Or.inl (⟨by omega, by omega⟩))))))) (fun h => (h.elim (fun h => (Or.inr (Or.inr (Or.inr (Or.inr (Or.inr (Or.inl (⟨by omega, by omega⟩)))))))) (fun h => (h.elim (fun h => (Or.inr (Or.inr (Or.inr (Or.inr (Or.inr (Or.inr (Or.inl (⟨by omega, by omega⟩))))))))) (fun h => (h.elim (fun h => (Or.inr (Or.inr (Or.inr (Or.inr (Or.inr (Or.inr (Or.inr (Or.inl (⟨h.1, by omega⟩)))))))))) (fun h => (h.elim (fun h => (Or.inr (Or.inr (Or.inr (Or.inr (Or.inr (Or.inr (Or.inr (Or.inr (Or.inl (⟨h.1, by omega⟩))))))))))) (fun h => (h.elim (fun h => (Or.inr (Or.inr (Or.inr (Or.inr (Or.inr (Or.inr (Or.inr (Or.inr (Or.inr (Or.inl (⟨h.1, by omega⟩)))))))))))) (fun h => (h.elim (fun h => (Or.inr (Or.inr (Or.inr (Or.inr (Or.inr (Or.inr (Or.inr (Or.inr (Or.inr (Or.inr (Or.inl (⟨h.1, by omega⟩))))))))))))) (fun h => (h.elim (fun h => (Or.inr (Or.inr (Or.inr (Or.inr (Or.inr (Or.inr (Or.inr (Or.inr (Or.inr (Or.inr (Or.inr (Or.inl (⟨h.1, by omega⟩)))))))))))))) (fun h => (Or.inr (Or.inr (Or.inr (Or.inr (Or.inr (Or.inr (Or.inr (Or.inr (Or.inr (Or.inr (Or.inr (Or.inr (⟨h.1, by omega⟩)))))))))))))))))))))))))))))))))))))
theorem rs_X5_lengthOf_220__X11_longOf_1 (a b : Int) (h : R_X5_lengthOf_220 a b) : R_X11_longOf_1 a b := (h.elim (fun h => (Or.inr (Or.inl (⟨by omega, by omega⟩)))) (fun h => (h.elim (fun h => (Or.inr (Or.inr (Or.inl (⟨by omega, by omega⟩))))) (fun h => (h.elim (fun h => (Or.inr (Or.inr (Or.inr (Or.inr (Or.inr (Or.inr (Or.inr (Or.inr (Or.inr (Or.inl (⟨h.1, by omega⟩)))))))))))) (fun h => (Or.inr (Or.inr (Or.inr (Or.inr (Or.inr (Or.inr (Or.inr (Or.inr (Or.inr (Or.inr (Or.inl (⟨h.1, by omega⟩))))))))))))))))))
theorem nr_X5_lengthOf_220__195 (b : Int) : ¬ R_X5_lengthOf_220 195 b := by
  unfold R_X5_lengthOf_220; omega
theorem nr_X5_lengthOf_220__197 (b : Int) : ¬ R_X5_lengthOf_220 197 b := by
  unfold R_X5_lengthOf_220; omega
theorem sf_X11_longOf_1 {fu : Nat} (hfu : 8589934592 ≤ fu) (r0 : z_M) (c0 : z_CI r0) (a1 : Int) (a2 : Int) (b1 : -2147483648 ≤ a1 ∧ a1 ≤ 2147483647) (b2 : -2147483648 ≤ a2 ∧ a2 ≤ 2147483647) (p0 : z_V16 r0) : z_T (fX11_longOf fu r0 1 a1 a2) (P_X11_longOf_1 r0) := by
  refine T_of (fX11_longOf.eq_1 ..) ?_
  refine T_if1 (by decide +kernel) ?_
  refine T_useN (sf_X11_refresh_1 hfu r0 c0 p0) (fun v6 s1 hq => ?_)
  obtain ⟨c2, f3, o7, rfl⟩ := hq
  refine T_vN ?_
  have f4 := z_Fr.tr (R := R_X11_longOf_1) z_Fr.rf f3 rs_X11_refresh_1__X11_longOf_1
  have u10 := CI_b c2 (k := 191) (j := 16) bd_191_16
  refine T_if1 (by decide +kernel) ?_
  refine T_let 191 (by decide +kernel) ?_
  refine T_if1 (by decide +kernel) ?_
  refine T_leq (fun x11 e12 => ?_)
  have u13 := CI_b c2 (k := 191) (j := 16) bd_191_16
  refine T_if1 (by decide +kernel) ?_
  refine T_ne ?_ (fun h14 h15 => ?_)
  · exact T_ret ⟨CI_up c2 bd_1_14 (z_wb rfl).1, z_Fr.upf (R := R_X11_longOf_1) f4 (fun a b h => z_up_k h) (fun b h => z_up_j h) (Or.inr (Or.inr (Or.inr (Or.inr (Or.inr (Or.inr (Or.inr (Or.inl (⟨rfl, by decide⟩))))))))), Or.inr (z_U.fr o7 (z_up_k (by decide)) (z_up_k (by decide)) (fun _ => z_up_k (by decide)) (fun _ => z_up_k (by decide))), Or.inr (Or.inl rfl)⟩
  refine T_if1 (by decide +kernel) ?_
  refine T_let 191 (by decide +kernel) ?_
  refine T_if1 (by decide +kernel) ?_
  refine T_leq (fun x16 e17 => ?_)
  have u18 := CI_b c2 (k := 191) (j := 16) bd_191_16
  refine T_if1 (by decide +kernel) ?_
  refine T_ne ?_ (fun h19 h20 => ?_)
  · exact T_ret ⟨CI_up c2 bd_1_14 (z_wb rfl).1, z_Fr.upf (R := R_X11_longOf_1) f4 (fun a b h => z_up_k h) (fun b h => z_up_j h) (Or.inr (Or.inr (Or.inr (Or.inr (Or.inr (Or.inr (Or.inr (Or.inl (⟨rfl, by decide⟩))))))))), Or.inr (z_U.fr o7 (z_up_k (by decide)) (z_up_k (by decide)) (fun _ => z_up_k (by decide)) (fun _ => z_up_k (by decide))), Or.inr (Or.inl rfl)⟩
  refine T_if1 (by decide +kernel) ?_
  refine T_let 191 (by decide +kernel) ?_
  refine T_if1 (by decide +kernel) ?_
  refine T_leq (fun x21 e22 => ?_)
  have u23 := CI_b c2 (k := 191) (j := 16) bd_191_16
  refine T_if1 (by decide +kernel) ?_
  refine T_nw ?_ (fun h24 h25 => ?_)
  · exact T_ret ⟨CI_up c2 bd_1_15 (z_wb rfl).1, z_Fr.upf (R := R_X11_longOf_1) f4 (fun a b h => z_up_k h) (fun b h => z_up_j h) (Or.inr (Or.inr (Or.inr (Or.inr (Or.inr (Or.inr (Or.inr (Or.inl (⟨rfl, by decide⟩))))))))), Or.inr (z_U.fr o7 (z_up_k (by decide)) (z_up_k (by decide)) (fun _ => z_up_k (by decide)) (fun _ => z_up_k (by decide))), Or.inr (Or.inr rfl)⟩
  refine T_if1 (by decide +kernel) ?_
  refine T_let 220 (by decide +kernel) ?_
  refine T_if1 (by decide +kernel) ?_
  refine T_useI (sf_X5_lengthOf_220 hfu s1 c2 a1 a2 (by omega) (by omega)) (fun v31 s26 hq => ?_)
  obtain ⟨c27, f28, ⟨x30, rfl, b32, b33⟩⟩ := hq
  refine T_vI ?_
  have f29 := z_Fr.tr (R := R_X11_longOf_1) f4 f28 rs_X5_lengthOf_220__X11_longOf_1
  have t34 : s26 191 16 = s1 191 16 := f28 191 16 (by decide)
  have r35 := z_U.fr o7 (f28 191 16 (by decide)) (f28 6 6 (by decide)) (fun b => f28 195 b (nr_X5_lengthOf_220__195 b)) (fun b => f28 197 b (nr_X5_lengthOf_220__197 b))
  exact T_ret ⟨c27, f29, (Or.inr r35), Or.inl (⟨x30, rfl, by omega, by omega⟩)⟩
abbrev R_X11_lines_1 (a b : Int) : Prop := (193 ≤ a ∧ a ≤ 219) ∨ (222 ≤ a ∧ a ≤ 222) ∨ (225 ≤ a ∧ a ≤ 239) ∨ (242 ≤ a ∧ a ≤ 244) ∨ (248 ≤ a ∧ a ≤ 248) ∨ (251 ≤ a ∧ a ≤ 253) ∨ (257 ≤ a ∧ a ≤ 257) ∨ (260 ≤ a ∧ a ≤ 278) ∨ (281 ≤ a ∧ a ≤ 295) ∨ (a = 1 ∧ (b = 15 ∨ b = 16 ∨ b = 17 ∨ b = 18)) ∨ (a = 191 ∧ (b = 16 ∨ b = 17 ∨ b = 18)) ∨ (a = 220 ∧ (b = 4 ∨ b = 5)) ∨ (a = 223 ∧ (b = 9)) ∨ (a = 240 ∧ (b = 6)) ∨ (a = 249 ∧ (b = 6)) ∨ (a = 279 ∧ (b = 9))
abbrev P_X11_lines_1 (r0 : z_M) : z_V → z_M → Prop := fun v s' => z_CI s' ∧ z_Fr R_X11_lines_1 r0 s' ∧ (z_V16 s') ∧ ((∃ x, v = vI x ∧ -2147483648 ≤ x ∧ x ≤ 2147483647) ∨ v = vX 1)
theorem rs_X11_refresh_1__X11_lines_1 (a b : Int) (h : R_X11_refresh_1 a b) : R_X11_lines_1 a b := (h.elim (fun h => (Or.inl (⟨by omega, by omega⟩))) (fun h => (h.elim (fun h => (Or.inr (Or.inl (⟨by omega, by omega⟩)))) (fun h => (h.elim (fun h => (Or.inr (Or.inr (Or.inl (⟨by omega, by omega⟩))))) (fun h => (h.elim (fun h => (Or.inr (Or.inr (Or.inr (Or.inl (⟨by omega, by omega⟩)))))) (fun h => (h.elim (fun h => (Or.inr (Or.inr (Or.inr (Or.inr (Or.inl (⟨by omega, by omega⟩))))))) (fun h => (h.elim (fun h => (Or.inr (Or.inr (Or.inr (Or.inr (Or.inr (Or.inr (Or.inr (Or.inl (⟨by omega, by omega⟩)))))))))) (fun h => (h.elim (fun h => (Or.inr (Or.inr (Or.inr (Or.inr (Or.inr (Or.inr (Or.inr (Or.inr (Or.inl (⟨by omega, by omega⟩))))))))))) (fun h => (h.elim (fun h => (Or.inr (Or.inr (Or.inr (Or.inr (Or.inr (Or.inr (Or.inr (Or.inr (Or.inr (Or.inl (⟨h.1, by omega⟩)))))))))))) (fun h => (h.elim (fun h => (Or.inr (Or.inr (Or.inr (Or.inr (Or.inr (Or.inr (Or.inr (Or.inr (Or.inr (Or.inr (Or.inl (⟨h.1, by omega⟩))))))))))))) (fun h => (h.elim (fun h => (Or.inr (Or.inr (Or.inr (Or.inr (Or.inr (Or.inr (Or.inr (Or.inr (Or.inr (Or.inr (Or.inr (Or.inl (⟨h.1, by omega⟩)))))))))))))) (fun h => (h.elim (fun h => (Or.inr (Or.inr (Or.inr (Or.inr (Or.inr (Or.inr (Or.inr (Or.inr (Or.inr (Or.inr (Or.inr (Or.inr (Or.inl (⟨h.1, by omega⟩))))))))))))))) (fun h => (h.elim (fun h => (Or.inr (Or.inr (Or.inr (Or.inr (Or.inr (Or.inr (Or.inr (Or.inr (Or.inr (Or.inr (Or.inr (Or.inr (Or.inr (Or.inl (⟨h.1, by omega⟩)))))))))))))))) (fun h => (Or.inr (Or.inr (Or.inr (Or.inr (Or.inr (Or.inr (Or.inr (Or.inr (Or.inr (Or.inr (Or.inr (Or.inr (Or.inr (Or.inr (Or.inr (⟨h.1, by omega⟩))))))))))))))))))))))))))))))))))))))))
theorem rs_X1_go_249__X11_lines_1 (a b : Int) (h : R_X1_go_249 a b) : R_X11_lines_1 a b := (h.elim (fun h => (Or.inr (Or.inl (⟨by omega, by omega⟩)))) (fun h => (h.elim (fun h => (Or.inr (Or.inr (Or.inl (⟨by omega, by omega⟩))))) (fun h => (h.elim (fun h => (Or.inr (Or.inr (Or.inr (Or.inr (Or.inr (Or.inl (⟨by omega, by omega⟩)))))))) (fun h => (h.elim (fun h => (Or.inr (Or.inr (Or.inr (Or.inr (Or.inr (Or.inr (Or.inl (⟨by omega, by omega⟩))))))))) (fun h => (h.elim (fun h => (Or.inr (Or.inr (Or.inr (Or.inr (Or.inr (Or.inr (Or.inr (Or.inr (Or.inr (Or.inr (Or.inr (Or.inl (⟨h.1, by omega⟩)))))))))))))) (fun h => (h.elim (fun h => (Or.inr (Or.inr (Or.inr (Or.inr (Or.inr (Or.inr (Or.inr (Or.inr (Or.inr (Or.inr (Or.inr (Or.inr (Or.inl (⟨h.1, by omega⟩))))))))))))))) (fun h => (Or.inr (Or.inr (Or.inr (Or.inr (Or.inr (Or.inr (Or.inr (Or.inr (Or.inr (Or.inr (Or.inr (Or.inr (Or.inr (Or.inr (Or.inl (⟨h.1, by omega⟩))))))))))))))))))))))))))))
theorem nr_X1_go_249__195 (b : Int) : ¬ R_X1_go_249 195 b := by
  unfold R_X1_go_249; omega
theorem nr_X1_go_249__197 (b : Int) : ¬ R_X1_go_249 197 b := by
  unfold R_X1_go_249; omega
theorem sf_X11_lines_1 {fu : Nat} (hfu : 8589934592 ≤ fu) (r0 : z_M) (c0 : z_CI r0) (a1 : Int) (a2 : Int) (b1 : -2147483648 ≤ a1 ∧ a1 ≤ 2147483647) (b2 : -2147483648 ≤ a2 ∧ a2 ≤ 2147483647) (p0 : z_V16 r0) : z_T (fX11_lines fu r0 1 a1 a2) (P_X11_lines_1 r0) := by
  refine T_of (fX11_lines.eq_1 ..) ?_
  refine T_pick (by decide) (fun x1 e2 b3 => ?_)
  have b4 : x1 = (12 : Int) := by rw [← e2]; decide +kernel
  refine T_pick (by decide) (fun x5 e6 b7 => ?_)
  have b8 : x5 = (999 : Int) := by rw [← e6]; decide +kernel
  refine T_if1 (by decide +kernel) ?_
  refine T_nw ?_ (fun h9 h10 => ?_)
  · exact T_ret ⟨CI_up c0 bd_1_15 (z_wb rfl).1, z_Fr.upf (R := R_X11_lines_1) z_Fr.rf (fun a b h => z_up_k h) (fun b h => z_up_j h) (Or.inr (Or.inr (Or.inr (Or.inr (Or.inr (Or.inr (Or.inr (Or.inr (Or.inr (Or.inl (⟨rfl, by decide⟩))))))))))), z_V16.fr p0 (z_up_j (by decide)) (z_up_k (by decide)) (z_up_k (by decide)) (fun _ => z_up_k (by decide)) (fun _ => z_up_k (by decide)), Or.inr rfl⟩
  refine T_if1 (by decide +kernel) ?_
  refine T_nw ?_ (fun h11 h12 => ?_)
  · exact T_ret ⟨CI_up c0 bd_1_15 (z_wb rfl).1, z_Fr.upf (R := R_X11_lines_1) z_Fr.rf (fun a b h => z_up_k h) (fun b h => z_up_j h) (Or.inr (Or.inr (Or.inr (Or.inr (Or.inr (Or.inr (Or.inr (Or.inr (Or.inr (Or.inl (⟨rfl, by decide⟩))))))))))), z_V16.fr p0 (z_up_j (by decide)) (z_up_k (by decide)) (z_up_k (by decide)) (fun _ => z_up_k (by decide)) (fun _ => z_up_k (by decide)), Or.inr rfl⟩
  refine T_if1 (by decide +kernel) ?_
  refine T_useN (sf_X11_refresh_1 hfu r0 c0 p0) (fun v18 s13 hq => ?_)
  obtain ⟨c14, f15, o19, rfl⟩ := hq
  refine T_vN ?_
  have f16 := z_Fr.tr (R := R_X11_lines_1) z_Fr.rf f15 rs_X11_refresh_1__X11_lines_1
  have t22 : s13 249 6 = r0 249 6 := f15 249 6 (by decide)
  refine T_if1 (by decide +kernel) ?_
  refine T_let 249 (by decide +kernel) ?_
  refine T_if1 (by decide +kernel) ?_
  refine T_useN (sf_X1_go_249 hfu s13 c14 a1 a2 (by omega) (by omega)) (fun v28 s23 hq => ?_)
  obtain ⟨c24, f25, rfl⟩ := hq
  refine T_vN ?_
  have f26 := z_Fr.tr (R := R_X11_lines_1) f16 f25 rs_X1_go_249__X11_lines_1
  have u31 := CI_b c24 (k := 249) (j := 6) bd_249_6
  have r32 := z_U.fr o19 (f25 191 16 (by decide)) (f25 6 6 (by decide)) (fun b => f25 195 b (nr_X1_go_249__195 b)) (fun b => f25 197 b (nr_X1_go_249__197 b))
  refine T_if1 (by decide +kernel) ?_
  refine T_let 249 (by decide +kernel) ?_
  refine T_if1 (by decide +kernel) ?_
  refine T_leq (fun x33 e34 => ?_)
  have u35 := CI_b c24 (k := 249) (j := 6) bd_249_6
  exact T_ret ⟨c24, f26, (Or.inr r32), Or.inl (⟨x33, rfl, by omega, by omega⟩)⟩
abbrev R_X1_fewest_249 (a b : Int) : Prop := (222 ≤ a ∧ a ≤ 222) ∨ (225 ≤ a ∧ a ≤ 239) ∨ (255 ≤ a ∧ a ≤ 255) ∨ (a = 220 ∧ (b = 4 ∨ b = 5)) ∨ (a = 223 ∧ (b = 9))
abbrev P_X1_fewest_249 (r0 : z_M) : z_V → z_M → Prop := fun v s' => z_CI s' ∧ z_Fr R_X1_fewest_249 r0 s' ∧ (∃ x, v = vI x ∧ -2147483648 ≤ x ∧ x ≤ 2147483647)
theorem sj_X1_fewest_249_J128 {fu : Nat} (hfu : 8589934592 ≤ fu) (r0 s : z_M) (c : z_CI s) (f : z_Fr R_X1_fewest_249 r0 s) (a1 : Int) (a2 : Int) (a3 : Int) (a4 : Int) (a5 : Int) (b1 : -2147483648 ≤ a1 ∧ a1 ≤ 2147483647) (b2 : -2147483648 ≤ a2 ∧ a2 ≤ 2147483647) (b3 : 0 ≤ a3 ∧ a3 ≤ 200) (b4 : -2147483648 ≤ a4 ∧ a4 ≤ 2147483647) (b5 : 0 ≤ a5 ∧ a5 ≤ 199) (M : Int) (pm : 2147483647 - a5 ≤ M) {r : z_M → Int → Int → z_O} {k : z_M → Int → z_O} (hr : ∀ (s' : z_M) (v4 : Int) (v5 : Int), z_CI s' → z_Fr R_X1_fewest_249 r0 s' → (-2147483648 ≤ v4 ∧ v4 ≤ 2147483647) → (0 ≤ v5 ∧ v5 ≤ 200) → (2147483647 - v5 < M) → z_T (r s' v4 v5) (P_X1_fewest_249 r0)) (hk : ∀ (s' : z_M) (v4 : Int), z_CI s' → z_Fr R_X1_fewest_249 r0 s' → (-2147483648 ≤ v4 ∧ v4 ≤ 2147483647) → z_T (k s' v4) (P_X1_fewest_249 r0)) : z_T (fX1_fewest_J128 fu s 249 a1 a2 a3 a4 a5 r k) (P_X1_fewest_249 r0) := by
  refine T_of (fX1_fewest_J128.eq_1 ..) ?_
  have u1 := CI_b c (k := 191) (j := 16) bd_191_16
  refine T_leq (fun x2 e3 => ?_)
  have w4 := z_wb e3
  exact hr s a4 x2 c f (by omega) (by omega) (by omega)
theorem rs_X5_lengthOf_220__X1_fewest_249 (a b : Int) (h : R_X5_lengthOf_220 a b) : R_X1_fewest_249 a b := (h.elim (fun h => (Or.inl (⟨by omega, by omega⟩))) (fun h => (h.elim (fun h => (Or.inr (Or.inl (⟨by omega, by omega⟩)))) (fun h => (h.elim (fun h => (Or.inr (Or.inr (Or.inr (Or.inl (⟨h.1, by omega⟩)))))) (fun h => (Or.inr (Or.inr (Or.inr (Or.inr (⟨h.1, by omega⟩)))))))))))
theorem sj_X1_fewest_249_J103 {fu : Nat} (hfu : 8589934592 ≤ fu) (r0 s : z_M) (c : z_CI s) (f : z_Fr R_X1_fewest_249 r0 s) (a1 : Int) (a2 : Int) (a3 : Int) (a4 : Int) (a5 : Int) (a6 : Int) (t0 : Int) (b1 : -2147483648 ≤ a1 ∧ a1 ≤ 2147483647) (b2 : -2147483648 ≤ a2 ∧ a2 ≤ 2147483647) (b3 : 0 ≤ a3 ∧ a3 ≤ 200) (b4 : -2147483648 ≤ a4 ∧ a4 ≤ 2147483647) (b5 : 0 ≤ a5 ∧ a5 ≤ 199) (b6 : -2147483648 ≤ a6 ∧ a6 ≤ 2147483647) (d0 : 0 ≤ t0 ∧ t0 ≤ 1) (M : Int) (pm : 2147483647 - a5 ≤ M) {r : z_M → Int → Int → z_O} {k : z_M → Int → z_O} (hr : ∀ (s' : z_M) (v4 : Int) (v5 : Int), z_CI s' → z_Fr R_X1_fewest_249 r0 s' → (-2147483648 ≤ v4 ∧ v4 ≤ 2147483647) → (0 ≤ v5 ∧ v5 ≤ 200) → (2147483647 - v5 < M) → z_T (r s' v4 v5) (P_X1_fewest_249 r0)) (hk : ∀ (s' : z_M) (v4 : Int), z_CI s' → z_Fr R_X1_fewest_249 r0 s' → (-2147483648 ≤ v4 ∧ v4 ≤ 2147483647) → z_T (k s' v4) (P_X1_fewest_249 r0)) : z_T (fX1_fewest_J103 fu s 249 a1 a2 a3 a4 a5 a6 t0 r k) (P_X1_fewest_249 r0) := by
  refine T_of (fX1_fewest_J103.eq_1 ..) ?_
  have u1 := CI_b c (k := 191) (j := 16) bd_191_16
  refine T_ite (fun h2 => ?_) (fun h2 => ?_)
  · exact sj_X1_fewest_249_J128 hfu r0 s c f a1 a2 a3 a4 a5 (by omega) (by omega) (by omega) (by omega) (by omega) M (by omega) (fun s' v4 v5 c' f' w4 w5 pg => hr s' v4 v5 c' f' w4 w5 (by omega)) hk
  · refine T_if1 (by decide +kernel) ?_
    refine T_let 220 (by decide +kernel) ?_
    refine T_if1 (by decide +kernel) ?_
    refine T_useI (sf_X5_lengthOf_220 hfu s c a3 a5 (by omega) (by omega)) (fun v8 s3 hq => ?_)
    obtain ⟨c4, f5, ⟨x7, rfl, b9, b10⟩⟩ := hq
    refine T_vI ?_
    have f6 := z_Fr.tr (R := R_X1_fewest_249) f f5 rs_X5_lengthOf_220__X1_fewest_249
    have t11 : s3 191 16 = s 191 16 := f5 191 16 (by decide)
    refine T_ite (fun h12 => ?_) (fun h12 => ?_)
    · exact sj_X1_fewest_249_J128 hfu r0 s3 c4 f6 a1 a2 a3 a4 a5 (by omega) (by omega) (by omega) (by omega) (by omega) M (by omega) (fun s' v4 v5 c' f' w4 w5 pg => hr s' v4 v5 c' f' w4 w5 (by omega)) hk
    · exact sj_X1_fewest_249_J128 hfu r0 s3 c4 f6 a1 a2 a3 a6 a5 (by omega) (by omega) (by omega) (by omega) (by omega) M (by omega) (fun s' v4 v5 c' f' w4 w5 pg => hr s' v4 v5 c' f' w4 w5 (by omega)) hk
theorem sj_X1_fewest_249_J102 {fu : Nat} (hfu : 8589934592 ≤ fu) (r0 s : z_M) (c : z_CI s) (f : z_Fr R_X1_fewest_249 r0 s) (a1 : Int) (a2 : Int) (a3 : Int) (a4 : Int) (a5 : Int) (a6 : Int) (b1 : -2147483648 ≤ a1 ∧ a1 ≤ 2147483647) (b2 : -2147483648 ≤ a2 ∧ a2 ≤ 2147483647) (b3 : 0 ≤ a3 ∧ a3 ≤ 200) (b4 : -2147483648 ≤ a4 ∧ a4 ≤ 2147483647) (b5 : 0 ≤ a5 ∧ a5 ≤ 199) (b6 : -2147483648 ≤ a6 ∧ a6 ≤ 2147483647) (M : Int) (pm : 2147483647 - a5 ≤ M) {r : z_M → Int → Int → z_O} {k : z_M → Int → z_O} (hr : ∀ (s' : z_M) (v4 : Int) (v5 : Int), z_CI s' → z_Fr R_X1_fewest_249 r0 s' → (-2147483648 ≤ v4 ∧ v4 ≤ 2147483647) → (0 ≤ v5 ∧ v5 ≤ 200) → (2147483647 - v5 < M) → z_T (r s' v4 v5) (P_X1_fewest_249 r0)) (hk : ∀ (s' : z_M) (v4 : Int), z_CI s' → z_Fr R_X1_fewest_249 r0 s' → (-2147483648 ≤ v4 ∧ v4 ≤ 2147483647) → z_T (k s' v4) (P_X1_fewest_249 r0)) : z_T (fX1_fewest_J102 fu s 249 a1 a2 a3 a4 a5 a6 r k) (P_X1_fewest_249 r0) := by
  refine T_of (fX1_fewest_J102.eq_1 ..) ?_
  have u1 := CI_b c (k := 191) (j := 16) bd_191_16
  exact sj_X1_fewest_249_J103 hfu r0 s c f a1 a2 a3 a4 a5 a6 0 (by omega) (by omega) (by omega) (by omega) (by omega) (by omega) (by omega) M (by omega) (fun s' v4 v5 c' f' w4 w5 pg => hr s' v4 v5 c' f' w4 w5 (by omega)) hk
theorem sj_X1_fewest_249_J98 {fu : Nat} (hfu : 8589934592 ≤ fu) (r0 s : z_M) (c : z_CI s) (f : z_Fr R_X1_fewest_249 r0 s) (a1 : Int) (a2 : Int) (a3 : Int) (a4 : Int) (a5 : Int) (a6 : Int) (b1 : -2147483648 ≤ a1 ∧ a1 ≤ 2147483647) (b2 : -2147483648 ≤ a2 ∧ a2 ≤ 2147483647) (b3 : 0 ≤ a3 ∧ a3 ≤ 200) (b4 : -2147483648 ≤ a4 ∧ a4 ≤ 2147483647) (b5 : 0 ≤ a5 ∧ a5 ≤ 199) (b6 : -2147483648 ≤ a6 ∧ a6 ≤ 2147483647) (M : Int) (pm : 2147483647 - a5 ≤ M) {r : z_M → Int → Int → z_O} {k : z_M → Int → z_O} (hr : ∀ (s' : z_M) (v4 : Int) (v5 : Int), z_CI s' → z_Fr R_X1_fewest_249 r0 s' → (-2147483648 ≤ v4 ∧ v4 ≤ 2147483647) → (0 ≤ v5 ∧ v5 ≤ 200) → (2147483647 - v5 < M) → z_T (r s' v4 v5) (P_X1_fewest_249 r0)) (hk : ∀ (s' : z_M) (v4 : Int), z_CI s' → z_Fr R_X1_fewest_249 r0 s' → (-2147483648 ≤ v4 ∧ v4 ≤ 2147483647) → z_T (k s' v4) (P_X1_fewest_249 r0)) : z_T (fX1_fewest_J98 fu s 249 a1 a2 a3 a4 a5 a6 r k) (P_X1_fewest_249 r0) := by
  refine T_of (fX1_fewest_J98.eq_1 ..) ?_
  have u1 := CI_b c (k := 191) (j := 16) bd_191_16
  exact sj_X1_fewest_249_J103 hfu r0 s c f a1 a2 a3 a4 a5 a6 1 (by omega) (by omega) (by omega) (by omega) (by omega) (by omega) (by omega) M (by omega) (fun s' v4 v5 c' f' w4 w5 pg => hr s' v4 v5 c' f' w4 w5 (by omega)) hk
theorem sl_X1_fewest_249_L37 {fu : Nat} (hfu : 8589934592 ≤ fu) (r0 : z_M) (a1 : Int) (a2 : Int) (a3 : Int) (b1 : -2147483648 ≤ a1 ∧ a1 ≤ 2147483647) (b2 : -2147483648 ≤ a2 ∧ a2 ≤ 2147483647) (b3 : 0 ≤ a3 ∧ a3 ≤ 200) {k : z_M → Int → z_O} (hk : ∀ (s' : z_M) (v4 : Int), z_CI s' → z_Fr R_X1_fewest_249 r0 s' → (-2147483648 ≤ v4 ∧ v4 ≤ 2147483647) → z_T (k s' v4) (P_X1_fewest_249 r0)) : ∀ (F : Nat) (s : z_M) (a4 : Int) (a5 : Int), z_CI s → z_Fr R_X1_fewest_249 r0 s → (-2147483648 ≤ a4 ∧ a4 ≤ 2147483647) → (0 ≤ a5 ∧ a5 ≤ 200) → (2147483647 - a5 < (F : Int)) → z_T (fX1_fewest_L37 fu 249 a1 a2 a3 F s a4 a5 k) (P_X1_fewest_249 r0) := by
  intro F
  induction F with
  | zero =>
    intro s a4 a5 c f b4 b5 hm
    have u39 := CI_b c (k := 191) (j := 16) bd_191_16
    exfalso; omega
  | succ F ih =>
    intro s a4 a5 c f b4 b5 hm
    refine T_of (fX1_fewest_L37.eq_2 ..) ?_
    have u1 := CI_b c (k := 191) (j := 16) bd_191_16
    refine T_if1 (by decide +kernel) ?_
    refine T_let 191 (by decide +kernel) ?_
    refine T_if1 (by decide +kernel) ?_
    refine T_leq (fun x2 e3 => ?_)
    have u4 := CI_b c (k := 191) (j := 16) bd_191_16
    refine T_ite (fun h5 => ?_) (fun h5 => ?_)
    · exact hk s a4 c f (by omega)
    · refine T_if1 (by decide +kernel) ?_
      refine T_let 191 (by decide +kernel) ?_
      refine T_if1 (by decide +kernel) ?_
      refine T_useI (sf_X10_solid_191 hfu s c a3 a5 (by omega) (by omega)) (fun v11 s6 hq => ?_)
      obtain ⟨c7, f8, ⟨x10, rfl, b12, b13⟩⟩ := hq
      refine T_vI ?_
      have f9 := z_Fr.tr (R := R_X1_fewest_249) f f8 (fun a b h => absurd h not_false)
      have t14 : s6 191 16 = s 191 16 := f8 191 16 (by decide)
      refine T_ite (fun h15 => ?_) (fun h15 => ?_)
      · exact hk s6 a4 c7 f9 (by omega)
      · refine T_if1 (by decide +kernel) ?_
        refine T_let 254 (by decide +kernel) ?_
        refine T_leq (fun x16 e17 => ?_)
        have w18 := z_wb e17
        refine T_if1 (by decide +kernel) ?_
        refine T_get (by decide +kernel) (c := 255) (by decide +kernel) bdr_255 (by decide) c7 (fun x19 e20 b21 w22 => ?_)
        have l23 : z_ln 254 = 201 := by decide +kernel
        refine T_leq (fun x24 e25 => ?_)
        have w26 := z_wb e25
        refine T_ite (fun h27 => ?_) (fun h27 => ?_)
        · exact sj_X1_fewest_249_J102 hfu r0 s6 c7 f9 a1 a2 a3 a4 a5 x24 (by omega) (by omega) (by omega) (by omega) (by omega) (by omega) (2147483647 - a5) (by omega) (fun s' v4 v5 c' f' w4 w5 pg => ih s' v4 v5 c' f' w4 w5 (by omega)) hk
        · refine T_ite (fun h28 => ?_) (fun h28 => ?_)
          · exact sj_X1_fewest_249_J98 hfu r0 s6 c7 f9 a1 a2 a3 a4 a5 x24 (by omega) (by omega) (by omega) (by omega) (by omega) (by omega) (2147483647 - a5) (by omega) (fun s' v4 v5 c' f' w4 w5 pg => ih s' v4 v5 c' f' w4 w5 (by omega)) hk
          · refine T_if1 (by decide +kernel) ?_
            refine T_useI (sf_X1_closesLine_249 hfu s6 c7 a5 (by omega)) (fun v34 s29 hq => ?_)
            obtain ⟨c30, f31, ⟨x33, rfl, b35, b36⟩⟩ := hq
            refine T_vI ?_
            have f32 := z_Fr.tr (R := R_X1_fewest_249) f9 f31 (fun a b h => absurd h not_false)
            have t37 : s29 191 16 = s6 191 16 := f31 191 16 (by decide)
            refine T_ite (fun h38 => ?_) (fun h38 => ?_)
            · exact sj_X1_fewest_249_J102 hfu r0 s29 c30 f32 a1 a2 a3 a4 a5 x24 (by omega) (by omega) (by omega) (by omega) (by omega) (by omega) (2147483647 - a5) (by omega) (fun s' v4 v5 c' f' w4 w5 pg => ih s' v4 v5 c' f' w4 w5 (by omega)) hk
            · exact sj_X1_fewest_249_J98 hfu r0 s29 c30 f32 a1 a2 a3 a4 a5 x24 (by omega) (by omega) (by omega) (by omega) (by omega) (by omega) (2147483647 - a5) (by omega) (fun s' v4 v5 c' f' w4 w5 pg => ih s' v4 v5 c' f' w4 w5 (by omega)) hk
theorem sj_X1_fewest_249_J134 {fu : Nat} (hfu : 8589934592 ≤ fu) (r0 s : z_M) (c : z_CI s) (f : z_Fr R_X1_fewest_249 r0 s) (a1 : Int) (a2 : Int) (a3 : Int) (a4 : Int) (b1 : -2147483648 ≤ a1 ∧ a1 ≤ 2147483647) (b2 : -2147483648 ≤ a2 ∧ a2 ≤ 2147483647) (b3 : 0 ≤ a3 ∧ a3 ≤ 200) (b4 : -2147483648 ≤ a4 ∧ a4 ≤ 2147483647) (M : Int) (pm : a3 + 2147483648 ≤ M) {r : z_M → Int → z_O} {k : z_M → z_O} (hr : ∀ (s' : z_M) (v3 : Int), z_CI s' → z_Fr R_X1_fewest_249 r0 s' → ((-1) ≤ v3 ∧ v3 ≤ 199) → (v3 + 2147483648 < M) → z_T (r s' v3) (P_X1_fewest_249 r0)) (hk : ∀ (s' : z_M), z_CI s' → z_Fr R_X1_fewest_249 r0 s' → z_T (k s') (P_X1_fewest_249 r0)) : z_T (fX1_fewest_J134 fu s 249 a1 a2 a3 a4 r k) (P_X1_fewest_249 r0) := by
  refine T_of (fX1_fewest_J134.eq_1 ..) ?_
  have u1 := CI_b c (k := 191) (j := 16) bd_191_16
  refine T_if1 (by decide +kernel) ?_
  refine T_let 254 (by decide +kernel) ?_
  refine T_if1 (by decide +kernel) ?_
  refine T_put (by decide +kernel) (c := 255) (by decide +kernel) bdr_255 (by omega) c (fun s2 e5 c3 g6 => ?_)
  have f4 := z_Fr.up (R := R_X1_fewest_249) f g6 (fun _ => (Or.inr (Or.inr (Or.inl (⟨by decide, by decide⟩)))))
  have t7 : s2 191 16 = s 191 16 := g6 191 16 (by decide)
  refine T_leq (fun x8 e9 => ?_)
  have w10 := z_wb e9
  exact hr s2 x8 c3 f4 (by omega) (by omega)
theorem sl_X1_fewest_249_L25 {fu : Nat} (hfu : 8589934592 ≤ fu) (r0 : z_M) (a1 : Int) (a2 : Int) (b1 : -2147483648 ≤ a1 ∧ a1 ≤ 2147483647) (b2 : -2147483648 ≤ a2 ∧ a2 ≤ 2147483647) {k : z_M → z_O} (hk : ∀ (s' : z_M), z_CI s' → z_Fr R_X1_fewest_249 r0 s' → z_T (k s') (P_X1_fewest_249 r0)) : ∀ (F : Nat) (s : z_M) (a3 : Int), z_CI s → z_Fr R_X1_fewest_249 r0 s → ((-1) ≤ a3 ∧ a3 ≤ 199) → (a3 + 2147483648 < (F : Int)) → z_T (fX1_fewest_L25 fu 249 a1 a2 F s a3 k) (P_X1_fewest_249 r0) := by
  intro F
  induction F with
  | zero =>
    intro s a3 c f b3 hm
    have u9 := CI_b c (k := 191) (j := 16) bd_191_16
    exfalso; omega
  | succ F ih =>
    intro s a3 c f b3 hm
    refine T_of (fX1_fewest_L25.eq_2 ..) ?_
    have u1 := CI_b c (k := 191) (j := 16) bd_191_16
    refine T_ite (fun h2 => ?_) (fun h2 => ?_)
    · exact hk s c f
    · refine sl_X1_fewest_249_L37 hfu r0 a1 a2 a3 (by omega) (by omega) (by omega) (fun s3 y6 c4 f5 b7 => ?_) fu s 201 a3 c f (by omega) (by omega) (by omega)
      have u8 := CI_b c4 (k := 191) (j := 16) bd_191_16
      exact sj_X1_fewest_249_J134 hfu r0 s3 c4 f5 a1 a2 a3 y6 (by omega) (by omega) (by omega) (by omega) (a3 + 2147483648) (by omega) (fun s' v3 c' f' w3 pg => ih s' v3 c' f' w3 (by omega)) hk
theorem sf_X1_fewest_249 {fu : Nat} (hfu : 8589934592 ≤ fu) (r0 : z_M) (c0 : z_CI r0) (a1 : Int) (a2 : Int) (b1 : -2147483648 ≤ a1 ∧ a1 ≤ 2147483647) (b2 : -2147483648 ≤ a2 ∧ a2 ≤ 2147483647) : z_T (fX1_fewest fu r0 249 a1 a2) (P_X1_fewest_249 r0) := by
  refine T_of (fX1_fewest.eq_1 ..) ?_
  refine T_if1 (by decide +kernel) ?_
  refine T_let 254 (by decide +kernel) ?_
  refine T_if1 (by decide +kernel) ?_
  refine T_let 191 (by decide +kernel) ?_
  refine T_if1 (by decide +kernel) ?_
  refine T_leq (fun x1 e2 => ?_)
  have u3 := CI_b c0 (k := 191) (j := 16) bd_191_16
  refine T_if1 (by decide +kernel) ?_
  refine T_put (by decide +kernel) (c := 255) (by decide +kernel) bdr_255 (by omega) c0 (fun s4 e7 c5 g8 => ?_)
  have f6 := z_Fr.up (R := R_X1_fewest_249) z_Fr.rf g8 (fun _ => (Or.inr (Or.inr (Or.inl (⟨by decide, by decide⟩)))))
  have t9 : s4 191 16 = r0 191 16 := g8 191 16 (by decide)
  refine T_if1 (by decide +kernel) ?_
  refine T_let 191 (by decide +kernel) ?_
  refine T_if1 (by decide +kernel) ?_
  refine T_leq (fun x10 e11 => ?_)
  have u12 := CI_b c5 (k := 191) (j := 16) bd_191_16
  refine T_leq (fun x13 e14 => ?_)
  have w15 := z_wb e14
  refine sl_X1_fewest_249_L25 hfu r0 a1 a2 (by omega) (by omega) (fun s16 c17 f18 => ?_) fu s4 x13 c5 f6 (by omega) (by omega)
  have u19 := CI_b c17 (k := 191) (j := 16) bd_191_16
  refine T_if1 (by decide +kernel) ?_
  refine T_let 254 (by decide +kernel) ?_
  refine T_if1 (by decide +kernel) ?_
  refine T_get (by decide +kernel) (c := 255) (by decide +kernel) bdr_255 (by decide) c17 (fun x20 e21 b22 w23 => ?_)
  have l24 : z_ln 254 = 201 := by decide +kernel
  exact T_ret ⟨c17, f18, ⟨x20, rfl, by omega, by omega⟩⟩
abbrev R_X11_shortestFor_1 (a b : Int) : Prop := (222 ≤ a ∧ a ≤ 222) ∨ (225 ≤ a ∧ a ≤ 239) ∨ (255 ≤ a ∧ a ≤ 255) ∨ (a = 220 ∧ (b = 4 ∨ b = 5)) ∨ (a = 223 ∧ (b = 9))
abbrev P_X11_shortestFor_1 (r0 : z_M) : z_V → z_M → Prop := fun v s' => z_CI s' ∧ z_Fr R_X11_shortestFor_1 r0 s' ∧ (z_V16 s') ∧ (∃ x, v = vI x ∧ -2147483648 ≤ x ∧ x ≤ 2147483647)
theorem rs_X1_fewest_249__X11_shortestFor_1 (a b : Int) (h : R_X1_fewest_249 a b) : R_X11_shortestFor_1 a b := (h.elim (fun h => (Or.inl (⟨by omega, by omega⟩))) (fun h => (h.elim (fun h => (Or.inr (Or.inl (⟨by omega, by omega⟩)))) (fun h => (h.elim (fun h => (Or.inr (Or.inr (Or.inl (⟨by omega, by omega⟩))))) (fun h => (h.elim (fun h => (Or.inr (Or.inr (Or.inr (Or.inl (⟨h.1, by omega⟩)))))) (fun h => (Or.inr (Or.inr (Or.inr (Or.inr (⟨h.1, by omega⟩)))))))))))))
theorem nr_X1_fewest_249__195 (b : Int) : ¬ R_X1_fewest_249 195 b := by
  unfold R_X1_fewest_249; omega
theorem nr_X1_fewest_249__197 (b : Int) : ¬ R_X1_fewest_249 197 b := by
  unfold R_X1_fewest_249; omega
theorem sj_X11_shortestFor_1_J59 {fu : Nat} (hfu : 8589934592 ≤ fu) (r0 s : z_M) (c : z_CI s) (f : z_Fr R_X11_shortestFor_1 r0 s) (a1 : Int) (a2 : Int) (a3 : Int) (a4 : Int) (b1 : -2147483648 ≤ a1 ∧ a1 ≤ 2147483647) (b2 : -2147483648 ≤ a2 ∧ a2 ≤ 2147483647) (b3 : 12 ≤ a3 ∧ a3 ≤ 1000) (b4 : 12 ≤ a4 ∧ a4 ≤ 1000) (p0 : a3 ≤ a4) (p1 : z_V16 s) (M : Int) (pm : a4 - a3 < M) {r : z_M → Int → Int → z_O} {k : z_M → Int → z_O} (hr : ∀ (s' : z_M) (v3 : Int) (v4 : Int), z_CI s' → z_Fr R_X11_shortestFor_1 r0 s' → (12 ≤ v3 ∧ v3 ≤ 1000) → (12 ≤ v4 ∧ v4 ≤ 1000) → (v3 ≤ v4) → (z_V16 s') → (v4 - v3 < M) → z_T (r s' v3 v4) (P_X11_shortestFor_1 r0)) (hk : ∀ (s' : z_M) (v3 : Int), z_CI s' → z_Fr R_X11_shortestFor_1 r0 s' → (12 ≤ v3 ∧ v3 ≤ 1000) → (z_V16 s') → z_T (k s' v3) (P_X11_shortestFor_1 r0)) : z_T (fX11_shortestFor_J59 fu s 1 a1 a2 a3 a4 r k) (P_X11_shortestFor_1 r0) := by
  refine T_of (fX11_shortestFor_J59.eq_1 ..) ?_
  exact hr s a3 a4 c f (by omega) (by omega) (by omega) p1 (by omega)
theorem sl_X11_shortestFor_1_L19 {fu : Nat} (hfu : 8589934592 ≤ fu) (r0 : z_M) (a1 : Int) (a2 : Int) (b1 : -2147483648 ≤ a1 ∧ a1 ≤ 2147483647) (b2 : -2147483648 ≤ a2 ∧ a2 ≤ 2147483647) {k : z_M → Int → z_O} (hk : ∀ (s' : z_M) (v3 : Int), z_CI s' → z_Fr R_X11_shortestFor_1 r0 s' → (12 ≤ v3 ∧ v3 ≤ 1000) → (z_V16 s') → z_T (k s' v3) (P_X11_shortestFor_1 r0)) : ∀ (F : Nat) (s : z_M) (a3 : Int) (a4 : Int), z_CI s → z_Fr R_X11_shortestFor_1 r0 s → (12 ≤ a3 ∧ a3 ≤ 1000) → (12 ≤ a4 ∧ a4 ≤ 1000) → (a3 ≤ a4) → (z_V16 s) → (a4 - a3 < (F : Int)) → z_T (fX11_shortestFor_L19 fu 1 a1 a2 F s a3 a4 k) (P_X11_shortestFor_1 r0) := by
  intro F
  induction F with
  | zero =>
    intro s a3 a4 c f b3 b4 i0 i1 hm
    exfalso; omega
  | succ F ih =>
    intro s a3 a4 c f b3 b4 i0 i1 hm
    refine T_of (fX11_shortestFor_L19.eq_2 ..) ?_
    refine T_ite (fun h1 => ?_) (fun h1 => ?_)
    · exact hk s a3 c f (by omega) i1
    · refine T_leq (fun x2 e3 => ?_)
      have w4 := z_wb e3
      refine T_if1 (by omega) ?_
      refine T_leq (fun x5 e6 => ?_)
      have w7 := z_wb e6
      have w8 := z_td2 (e := x2)
      refine T_if1 (by decide +kernel) ?_
      refine T_let 249 (by decide +kernel) ?_
      refine T_if1 (by decide +kernel) ?_
      refine T_useI (sf_X1_fewest_249 hfu s c x5 a2 (by omega) (by omega)) (fun v14 s9 hq => ?_)
      obtain ⟨c10, f11, ⟨x13, rfl, b15, b16⟩⟩ := hq
      refine T_vI ?_
      have f12 := z_Fr.tr (R := R_X11_shortestFor_1) f f11 rs_X1_fewest_249__X11_shortestFor_1
      have r17 := z_V16.fr i1 (f11 1 16 (by decide)) (f11 191 16 (by decide)) (f11 6 6 (by decide)) (fun b => f11 195 b (nr_X1_fewest_249__195 b)) (fun b => f11 197 b (nr_X1_fewest_249__197 b))
      refine T_ite (fun h18 => ?_) (fun h18 => ?_)
      · refine T_leq (fun x19 e20 => ?_)
        have w21 := z_wb e20
        exact sj_X11_shortestFor_1_J59 hfu r0 s9 c10 f12 a1 a2 x19 a4 (by omega) (by omega) (by omega) (by omega) (by omega) r17 (a4 - a3) (by omega) (fun s' v3 v4 c' f' w3 w4 z0 z1 pg => ih s' v3 v4 c' f' w3 w4 z0 z1 (by omega)) hk
      · exact sj_X11_shortestFor_1_J59 hfu r0 s9 c10 f12 a1 a2 a3 x5 (by omega) (by omega) (by omega) (by omega) (by omega) r17 (a4 - a3) (by omega) (fun s' v3 v4 c' f' w3 w4 z0 z1 pg => ih s' v3 v4 c' f' w3 w4 z0 z1 (by omega)) hk
theorem sf_X11_shortestFor_1 {fu : Nat} (hfu : 8589934592 ≤ fu) (r0 : z_M) (c0 : z_CI r0) (a1 : Int) (a2 : Int) (b1 : -2147483648 ≤ a1 ∧ a1 ≤ 2147483647) (b2 : -2147483648 ≤ a2 ∧ a2 ≤ 2147483647) (p0 : z_V16 r0) : z_T (fX11_shortestFor fu r0 1 a1 a2) (P_X11_shortestFor_1 r0) := by
  refine T_of (fX11_shortestFor.eq_1 ..) ?_
  refine T_pick (by decide) (fun x1 e2 b3 => ?_)
  have b4 : x1 = (12 : Int) := by rw [← e2]; decide +kernel
  refine T_pick (by decide) (fun x5 e6 b7 => ?_)
  have b8 : x5 = (999 : Int) := by rw [← e6]; decide +kernel
  refine T_leq (fun x9 e10 => ?_)
  have w11 := z_wb e10
  refine sl_X11_shortestFor_1_L19 hfu r0 a1 a2 (by omega) (by omega) (fun s12 y15 c13 f14 b16 g17 => ?_) fu r0 x1 x9 c0 z_Fr.rf (by omega) (by omega) (by omega) p0 (by omega)
  exact T_ret ⟨c13, f14, g17, ⟨y15, rfl, by omega, by omega⟩⟩
abbrev R_X1_longOfLine_249 (a b : Int) : Prop := (222 ≤ a ∧ a ≤ 222) ∨ (225 ≤ a ∧ a ≤ 239) ∨ (a = 220 ∧ (b = 4 ∨ b = 5)) ∨ (a = 223 ∧ (b = 9))
abbrev P_X1_longOfLine_249 (r0 : z_M) : z_V → z_M → Prop := fun v s' => z_CI s' ∧ z_Fr R_X1_longOfLine_249 r0 s' ∧ (∃ x, v = vI x ∧ -2147483648 ≤ x ∧ x ≤ 2147483647)
theorem rs_X5_lengthOf_220__X1_longOfLine_249 (a b : Int) (h : R_X5_lengthOf_220 a b) : R_X1_longOfLine_249 a b := (h.elim (fun h => (Or.inl (⟨by omega, by omega⟩))) (fun h => (h.elim (fun h => (Or.inr (Or.inl (⟨by omega, by omega⟩)))) (fun h => (h.elim (fun h => (Or.inr (Or.inr (Or.inl (⟨h.1, by omega⟩))))) (fun h => (Or.inr (Or.inr (Or.inr (⟨h.1, by omega⟩))))))))))
theorem sf_X1_longOfLine_249 {fu : Nat} (hfu : 8589934592 ≤ fu) (r0 : z_M) (c0 : z_CI r0) (a1 : Int) (b1 : -2147483648 ≤ a1 ∧ a1 ≤ 2147483647) : z_T (fX1_longOfLine fu r0 249 a1) (P_X1_longOfLine_249 r0) := by
  refine T_of (fX1_longOfLine.eq_1 ..) ?_
  refine T_if1 (by decide +kernel) ?_
  refine T_let 220 (by decide +kernel) ?_
  refine T_if1 (by decide +kernel) ?_
  refine T_let 256 (by decide +kernel) ?_
  refine T_if1 (by decide +kernel) ?_
  refine T_get (by decide +kernel) (c := 257) (by decide +kernel) bdr_257 (by decide) c0 (fun x1 e2 b3 w4 => ?_)
  have l5 : z_ln 256 = 201 := by decide +kernel
  refine T_if1 (by decide +kernel) ?_
  refine T_let 256 (by decide +kernel) ?_
  refine T_leq (fun x6 e7 => ?_)
  have w8 := z_wb e7
  refine T_if1 (by decide +kernel) ?_
  refine T_get (by decide +kernel) (c := 257) (by decide +kernel) bdr_257 (by decide) c0 (fun x9 e10 b11 w12 => ?_)
  have l13 : z_ln 256 = 201 := by decide +kernel
  refine T_leq (fun x14 e15 => ?_)
  have w16 := z_wb e15
  refine T_if1 (by decide +kernel) ?_
  refine T_useI (sf_X5_lengthOf_220 hfu r0 c0 x1 x14 (by omega) (by omega)) (fun v22 s17 hq => ?_)
  obtain ⟨c18, f19, ⟨x21, rfl, b23, b24⟩⟩ := hq
  refine T_vI ?_
  have f20 := z_Fr.tr (R := R_X1_longOfLine_249) z_Fr.rf f19 rs_X5_lengthOf_220__X1_longOfLine_249
  exact T_ret ⟨c18, f20, ⟨x21, rfl, by omega, by omega⟩⟩
abbrev R_X1_tooLong_249 (a b : Int) : Prop := (222 ≤ a ∧ a ≤ 222) ∨ (225 ≤ a ∧ a ≤ 239) ∨ (a = 220 ∧ (b = 4 ∨ b = 5)) ∨ (a = 223 ∧ (b = 9))
abbrev P_X1_tooLong_249 (r0 : z_M) : z_V → z_M → Prop := fun v s' => z_CI s' ∧ z_Fr R_X1_tooLong_249 r0 s' ∧ (∃ x, v = vI x ∧ -2147483648 ≤ x ∧ x ≤ 2147483647)
theorem rs_X1_longOfLine_249__X1_tooLong_249 (a b : Int) (h : R_X1_longOfLine_249 a b) : R_X1_tooLong_249 a b := (h.elim (fun h => (Or.inl (⟨by omega, by omega⟩))) (fun h => (h.elim (fun h => (Or.inr (Or.inl (⟨by omega, by omega⟩)))) (fun h => (h.elim (fun h => (Or.inr (Or.inr (Or.inl (⟨h.1, by omega⟩))))) (fun h => (Or.inr (Or.inr (Or.inr (⟨h.1, by omega⟩))))))))))
theorem sj_X1_tooLong_249_J27 {fu : Nat} (hfu : 8589934592 ≤ fu) (r0 s : z_M) (c : z_CI s) (f : z_Fr R_X1_tooLong_249 r0 s) (a1 : Int) (a3 : Int) (t0 : Int) (t1 : Int) (b1 : -2147483648 ≤ a1 ∧ a1 ≤ 2147483647) (b3 : -2147483648 ≤ a3 ∧ a3 ≤ 2147483646) (d0 : -2147483648 ≤ t0 ∧ t0 ≤ 2147483647) (d1 : 0 ≤ t1 ∧ t1 ≤ 1) (M : Int) (pm : 2147483647 - a3 ≤ M) {r : z_M → Int → Int → z_O} {k : z_M → Int → z_O} (hr : ∀ (s' : z_M) (v2 : Int) (v3 : Int), z_CI s' → z_Fr R_X1_tooLong_249 r0 s' → (-2147483648 ≤ v2 ∧ v2 ≤ 2147483647) → (-2147483648 ≤ v3 ∧ v3 ≤ 2147483647) → (2147483647 - v3 < M) → z_T (r s' v2 v3) (P_X1_tooLong_249 r0)) (hk : ∀ (s' : z_M) (v2 : Int), z_CI s' → z_Fr R_X1_tooLong_249 r0 s' → (-2147483648 ≤ v2 ∧ v2 ≤ 2147483647) → z_T (k s' v2) (P_X1_tooLong_249 r0)) : z_T (fX1_tooLong_J27 fu s 249 a1 a3 t0 t1 r k) (P_X1_tooLong_249 r0) := by
  refine T_of (fX1_tooLong_J27.eq_1 ..) ?_
  have u1 := CI_b c (k := 249) (j := 6) bd_249_6
  refine T_leq (fun x2 e3 => ?_)
  have w4 := z_wb e3
  refine T_leq (fun x5 e6 => ?_)
  have w7 := z_wb e6
  exact hr s x2 x5 c f (by omega) (by omega) (by omega)
theorem sl_X1_tooLong_249_L4 {fu : Nat} (hfu : 8589934592 ≤ fu) (r0 : z_M) (a1 : Int) (b1 : -2147483648 ≤ a1 ∧ a1 ≤ 2147483647) {k : z_M → Int → z_O} (hk : ∀ (s' : z_M) (v2 : Int), z_CI s' → z_Fr R_X1_tooLong_249 r0 s' → (-2147483648 ≤ v2 ∧ v2 ≤ 2147483647) → z_T (k s' v2) (P_X1_tooLong_249 r0)) : ∀ (F : Nat) (s : z_M) (a2 : Int) (a3 : Int), z_CI s → z_Fr R_X1_tooLong_249 r0 s → (-2147483648 ≤ a2 ∧ a2 ≤ 2147483647) → (-2147483648 ≤ a3 ∧ a3 ≤ 2147483647) → (2147483647 - a3 < (F : Int)) → z_T (fX1_tooLong_L4 fu 249 a1 F s a2 a3 k) (P_X1_tooLong_249 r0) := by
  intro F
  induction F with
  | zero =>
    intro s a2 a3 c f b2 b3 hm
    have u16 := CI_b c (k := 249) (j := 6) bd_249_6
    exfalso; omega
  | succ F ih =>
    intro s a2 a3 c f b2 b3 hm
    refine T_of (fX1_tooLong_L4.eq_2 ..) ?_
    have u1 := CI_b c (k := 249) (j := 6) bd_249_6
    refine T_if1 (by decide +kernel) ?_
    refine T_leq (fun x2 e3 => ?_)
    have u4 := CI_b c (k := 249) (j := 6) bd_249_6
    refine T_ite (fun h5 => ?_) (fun h5 => ?_)
    · exact hk s a2 c f (by omega)
    · refine T_if1 (by decide +kernel) ?_
      refine T_useI (sf_X1_longOfLine_249 hfu s c a3 (by omega)) (fun v11 s6 hq => ?_)
      obtain ⟨c7, f8, ⟨x10, rfl, b12, b13⟩⟩ := hq
      refine T_vI ?_
      have f9 := z_Fr.tr (R := R_X1_tooLong_249) f f8 rs_X1_longOfLine_249__X1_tooLong_249
      have t14 : s6 249 6 = s 249 6 := f8 249 6 (by decide)
      refine T_ite (fun h15 => ?_) (fun h15 => ?_)
      · exact sj_X1_tooLong_249_J27 hfu r0 s6 c7 f9 a1 a3 a2 0 (by omega) (by omega) (by omega) (by omega) (2147483647 - a3) (by omega) (fun s' v2 v3 c' f' w2 w3 pg => ih s' v2 v3 c' f' w2 w3 (by omega)) hk
      · exact sj_X1_tooLong_249_J27 hfu r0 s6 c7 f9 a1 a3 a2 1 (by omega) (by omega) (by omega) (by omega) (2147483647 - a3) (by omega) (fun s' v2 v3 c' f' w2 w3 pg => ih s' v2 v3 c' f' w2 w3 (by omega)) hk
theorem sf_X1_tooLong_249 {fu : Nat} (hfu : 8589934592 ≤ fu) (r0 : z_M) (c0 : z_CI r0) (a1 : Int) (b1 : -2147483648 ≤ a1 ∧ a1 ≤ 2147483647) : z_T (fX1_tooLong fu r0 249 a1) (P_X1_tooLong_249 r0) := by
  refine T_of (fX1_tooLong.eq_1 ..) ?_
  refine sl_X1_tooLong_249_L4 hfu r0 a1 (by omega) (fun s1 y4 c2 f3 b5 => ?_) fu r0 0 0 c0 z_Fr.rf (by omega) (by omega) (by omega)
  have u6 := CI_b c2 (k := 249) (j := 6) bd_249_6
  exact T_ret ⟨c2, f3, ⟨y4, rfl, by omega, by omega⟩⟩
abbrev R_X11_least_1 (a b : Int) : Prop := (193 ≤ a ∧ a ≤ 219) ∨ (222 ≤ a ∧ a ≤ 222) ∨ (225 ≤ a ∧ a ≤ 239) ∨ (242 ≤ a ∧ a ≤ 244) ∨ (248 ≤ a ∧ a ≤ 248) ∨ (251 ≤ a ∧ a ≤ 257) ∨ (260 ≤ a ∧ a ≤ 278) ∨ (281 ≤ a ∧ a ≤ 295) ∨ (a = 1 ∧ (b = 15 ∨ b = 16 ∨ b = 17 ∨ b = 18)) ∨ (a = 191 ∧ (b = 16 ∨ b = 17 ∨ b = 18)) ∨ (a = 220 ∧ (b = 4 ∨ b = 5)) ∨ (a = 223 ∧ (b = 9)) ∨ (a = 240 ∧ (b = 6)) ∨ (a = 249 ∧ (b = 6)) ∨ (a = 279 ∧ (b = 9))
abbrev P_X11_least_1 (r0 : z_M) : z_V → z_M → Prop := fun v s' => z_CI s' ∧ z_Fr R_X11_least_1 r0 s' ∧ (z_V16 s') ∧ ((∃ x, v = vI x ∧ -2147483648 ≤ x ∧ x ≤ 2147483647) ∨ v = vX 1)
theorem rs_X11_refresh_1__X11_least_1 (a b : Int) (h : R_X11_refresh_1 a b) : R_X11_least_1 a b := (h.elim (fun h => (Or.inl (⟨by omega, by omega⟩))) (fun h => (h.elim (fun h => (Or.inr (Or.inl (⟨by omega, by omega⟩)))) (fun h => (h.elim (fun h => (Or.inr (Or.inr (Or.inl (⟨by omega, by omega⟩))))) (fun h => (h.elim (fun h => (Or.inr (Or.inr (Or.inr (Or.inl (⟨by omega, by omega⟩)))))) (fun h => (h.elim (fun h => (Or.inr (Or.inr (Or.inr (Or.inr (Or.inl (⟨by omega, by omega⟩))))))) (fun h => (h.elim (fun h => (Or.inr (Or.inr (Or.inr (Or.inr (Or.inr (Or.inr (Or.inl (⟨by omega, by omega⟩))))))))) (fun h => (h.elim (fun h => (Or.inr (Or.inr (Or.inr (Or.inr (Or.inr (Or.inr (Or.inr (Or.inl (⟨by omega, by omega⟩)))))))))) (fun h => (h.elim (fun h => (Or.inr (Or.inr (Or.inr (Or.inr (Or.inr (Or.inr (Or.inr (Or.inr (Or.inl (⟨h.1, by omega⟩))))))))))) (fun h => (h.elim (fun h => (Or.inr (Or.inr (Or.inr (Or.inr (Or.inr (Or.inr (Or.inr (Or.inr (Or.inr (Or.inl (⟨h.1, by omega⟩)))))))))))) (fun h => (h.elim (fun h => (Or.inr (Or.inr (Or.inr (Or.inr (Or.inr (Or.inr (Or.inr (Or.inr (Or.inr (Or.inr (Or.inl (⟨h.1, by omega⟩))))))))))))) (fun h => (h.elim (fun h => (Or.inr (Or.inr (Or.inr (Or.inr (Or.inr (Or.inr (Or.inr (Or.inr (Or.inr (Or.inr (Or.inr (Or.inl (⟨h.1, by omega⟩)))))))))))))) (fun h => (h.elim (fun h => (Or.inr (Or.inr (Or.inr (Or.inr (Or.inr (Or.inr (Or.inr (Or.inr (Or.inr (Or.inr (Or.inr (Or.inr (Or.inl (⟨h.1, by omega⟩))))))))))))))) (fun h => (Or.inr (Or.inr (Or.inr (Or.inr (Or.inr (Or.inr (Or.inr (Or.inr (Or.inr (Or.inr (Or.inr (Or.inr (Or.inr (Or.inr (⟨h.1, by omega⟩)))))))))))))))))))))))))))))))))))))))
theorem rs_X11_shortestFor_1__X11_least_1 (a b : Int) (h : R_X11_shortestFor_1 a b) : R_X11_least_1 a b := (h.elim (fun h => (Or.inr (Or.inl (⟨by omega, by omega⟩)))) (fun h => (h.elim (fun h => (Or.inr (Or.inr (Or.inl (⟨by omega, by omega⟩))))) (fun h => (h.elim (fun h => (Or.inr (Or.inr (Or.inr (Or.inr (Or.inr (Or.inl (⟨by omega, by omega⟩)))))))) (fun h => (h.elim (fun h => (Or.inr (Or.inr (Or.inr (Or.inr (Or.inr (Or.inr (Or.inr (Or.inr (Or.inr (Or.inr (Or.inl (⟨h.1, by omega⟩))))))))))))) (fun h => (Or.inr (Or.inr (Or.inr (Or.inr (Or.inr (Or.inr (Or.inr (Or.inr (Or.inr (Or.inr (Or.inr (Or.inl (⟨h.1, by omega⟩)))))))))))))))))))))
theorem nr_X11_shortestFor_1__195 (b : Int) : ¬ R_X11_shortestFor_1 195 b := by
  unfold R_X11_shortestFor_1; omega
theorem nr_X11_shortestFor_1__197 (b : Int) : ¬ R_X11_shortestFor_1 197 b := by
  unfold R_X11_shortestFor_1; omega
theorem rs_X1_go_249__X11_least_1 (a b : Int) (h : R_X1_go_249 a b) : R_X11_least_1 a b := (h.elim (fun h => (Or.inr (Or.inl (⟨by omega, by omega⟩)))) (fun h => (h.elim (fun h => (Or.inr (Or.inr (Or.inl (⟨by omega, by omega⟩))))) (fun h => (h.elim (fun h => (Or.inr (Or.inr (Or.inr (Or.inr (Or.inr (Or.inl (⟨by omega, by omega⟩)))))))) (fun h => (h.elim (fun h => (Or.inr (Or.inr (Or.inr (Or.inr (Or.inr (Or.inl (⟨by omega, by omega⟩)))))))) (fun h => (h.elim (fun h => (Or.inr (Or.inr (Or.inr (Or.inr (Or.inr (Or.inr (Or.inr (Or.inr (Or.inr (Or.inr (Or.inl (⟨h.1, by omega⟩))))))))))))) (fun h => (h.elim (fun h => (Or.inr (Or.inr (Or.inr (Or.inr (Or.inr (Or.inr (Or.inr (Or.inr (Or.inr (Or.inr (Or.inr (Or.inl (⟨h.1, by omega⟩)))))))))))))) (fun h => (Or.inr (Or.inr (Or.inr (Or.inr (Or.inr (Or.inr (Or.inr (Or.inr (Or.inr (Or.inr (Or.inr (Or.inr (Or.inr (Or.inl (⟨h.1, by omega⟩)))))))))))))))))))))))))))
theorem sj_X11_least_1_J80 {fu : Nat} (hfu : 8589934592 ≤ fu) (r0 s : z_M) (c : z_CI s) (f : z_Fr R_X11_least_1 r0 s) (a1 : Int) (a2 : Int) (a3 : Int) (a4 : Int) (b1 : -2147483648 ≤ a1 ∧ a1 ≤ 2147483647) (b2 : -2147483648 ≤ a2 ∧ a2 ≤ 2147483647) (b3 : 999 ≤ a3 ∧ a3 ≤ 999) (b4 : -2147483648 ≤ a4 ∧ a4 ≤ 2147483646) (p0 : z_V16 s) (M : Int) (pm : 2147483647 - a4 ≤ M) {r : z_M → Int → z_O} {k : z_M → z_O} (hr : ∀ (s' : z_M) (v4 : Int), z_CI s' → z_Fr R_X11_least_1 r0 s' → (-2147483648 ≤ v4 ∧ v4 ≤ 2147483647) → (z_V16 s') → (2147483647 - v4 < M) → z_T (r s' v4) (P_X11_least_1 r0)) (hk : ∀ (s' : z_M), z_CI s' → z_Fr R_X11_least_1 r0 s' → (z_V16 s') → z_T (k s') (P_X11_least_1 r0)) : z_T (fX11_least_J80 fu s 1 a1 a2 a3 a4 r k) (P_X11_least_1 r0) := by
  refine T_of (fX11_least_J80.eq_1 ..) ?_
  have u1 := CI_b c (k := 249) (j := 6) bd_249_6
  refine T_leq (fun x2 e3 => ?_)
  have w4 := z_wb e3
  exact hr s x2 c f (by omega) p0 (by omega)
theorem rs_X1_tooLong_249__X11_least_1 (a b : Int) (h : R_X1_tooLong_249 a b) : R_X11_least_1 a b := (h.elim (fun h => (Or.inr (Or.inl (⟨by omega, by omega⟩)))) (fun h => (h.elim (fun h => (Or.inr (Or.inr (Or.inl (⟨by omega, by omega⟩))))) (fun h => (h.elim (fun h => (Or.inr (Or.inr (Or.inr (Or.inr (Or.inr (Or.inr (Or.inr (Or.inr (Or.inr (Or.inr (Or.inl (⟨h.1, by omega⟩))))))))))))) (fun h => (Or.inr (Or.inr (Or.inr (Or.inr (Or.inr (Or.inr (Or.inr (Or.inr (Or.inr (Or.inr (Or.inr (Or.inl (⟨h.1, by omega⟩)))))))))))))))))))
theorem nr_X1_tooLong_249__195 (b : Int) : ¬ R_X1_tooLong_249 195 b := by
  unfold R_X1_tooLong_249; omega
theorem nr_X1_tooLong_249__197 (b : Int) : ¬ R_X1_tooLong_249 197 b := by
  unfold R_X1_tooLong_249; omega
theorem sl_X11_least_1_L38 {fu : Nat} (hfu : 8589934592 ≤ fu) (r0 : z_M) (a1 : Int) (a2 : Int) (a3 : Int) (b1 : -2147483648 ≤ a1 ∧ a1 ≤ 2147483647) (b2 : -2147483648 ≤ a2 ∧ a2 ≤ 2147483647) (b3 : 999 ≤ a3 ∧ a3 ≤ 999) {k : z_M → z_O} (hk : ∀ (s' : z_M), z_CI s' → z_Fr R_X11_least_1 r0 s' → (z_V16 s') → z_T (k s') (P_X11_least_1 r0)) : ∀ (F : Nat) (s : z_M) (a4 : Int), z_CI s → z_Fr R_X11_least_1 r0 s → (-2147483648 ≤ a4 ∧ a4 ≤ 2147483647) → (z_V16 s) → (2147483647 - a4 < (F : Int)) → z_T (fX11_least_L38 fu 1 a1 a2 a3 F s a4 k) (P_X11_least_1 r0) := by
  intro F
  induction F with
  | zero =>
    intro s a4 c f b4 i0 hm
    have u28 := CI_b c (k := 249) (j := 6) bd_249_6
    exfalso; omega
  | succ F ih =>
    intro s a4 c f b4 i0 hm
    refine T_of (fX11_least_L38.eq_2 ..) ?_
    have u1 := CI_b c (k := 249) (j := 6) bd_249_6
    refine T_ite (fun h2 => ?_) (fun h2 => ?_)
    · exact hk s c f i0
    · refine T_if1 (by decide +kernel) ?_
      refine T_let 249 (by decide +kernel) ?_
      refine T_if1 (by decide +kernel) ?_
      refine T_useN (sf_X1_go_249 hfu s c a4 a2 (by omega) (by omega)) (fun v8 s3 hq => ?_)
      obtain ⟨c4, f5, rfl⟩ := hq
      refine T_vN ?_
      have f6 := z_Fr.tr (R := R_X11_least_1) f f5 rs_X1_go_249__X11_least_1
      have u11 := CI_b c4 (k := 249) (j := 6) bd_249_6
      have r12 := z_V16.fr i0 (f5 1 16 (by decide)) (f5 191 16 (by decide)) (f5 6 6 (by decide)) (fun b => f5 195 b (nr_X1_go_249__195 b)) (fun b => f5 197 b (nr_X1_go_249__197 b))
      refine T_if1 (by decide +kernel) ?_
      refine T_let 249 (by decide +kernel) ?_
      refine T_if1 (by decide +kernel) ?_
      refine T_leq (fun x13 e14 => ?_)
      have u15 := CI_b c4 (k := 249) (j := 6) bd_249_6
      refine T_ite (fun h16 => ?_) (fun h16 => ?_)
      · exact sj_X11_least_1_J80 hfu r0 s3 c4 f6 a1 a2 a3 a4 (by omega) (by omega) (by omega) (by omega) r12 (2147483647 - a4) (by omega) (fun s' v4 c' f' w4 z0 pg => ih s' v4 c' f' w4 z0 (by omega)) hk
      · refine T_if1 (by decide +kernel) ?_
        refine T_let 249 (by decide +kernel) ?_
        refine T_if1 (by decide +kernel) ?_
        refine T_useI (sf_X1_tooLong_249 hfu s3 c4 a4 (by omega)) (fun v22 s17 hq => ?_)
        obtain ⟨c18, f19, ⟨x21, rfl, b23, b24⟩⟩ := hq
        refine T_vI ?_
        have f20 := z_Fr.tr (R := R_X11_least_1) f6 f19 rs_X1_tooLong_249__X11_least_1
        have t25 : s17 249 6 = s3 249 6 := f19 249 6 (by decide)
        have r26 := z_V16.fr r12 (f19 1 16 (by decide)) (f19 191 16 (by decide)) (f19 6 6 (by decide)) (fun b => f19 195 b (nr_X1_tooLong_249__195 b)) (fun b => f19 197 b (nr_X1_tooLong_249__197 b))
        refine T_ite (fun h27 => ?_) (fun h27 => ?_)
        · exact sj_X11_least_1_J80 hfu r0 s17 c18 f20 a1 a2 a3 a4 (by omega) (by omega) (by omega) (by omega) r26 (2147483647 - a4) (by omega) (fun s' v4 c' f' w4 z0 pg => ih s' v4 c' f' w4 z0 (by omega)) hk
        · exact T_ret ⟨c18, f20, r26, Or.inl (⟨a4, rfl, by omega, by omega⟩)⟩
theorem sf_X11_least_1 {fu : Nat} (hfu : 8589934592 ≤ fu) (r0 : z_M) (c0 : z_CI r0) (a1 : Int) (b1 : -2147483648 ≤ a1 ∧ a1 ≤ 2147483647) (p0 : z_V16 r0) : z_T (fX11_least fu r0 1 a1) (P_X11_least_1 r0) := by
  refine T_of (fX11_least.eq_1 ..) ?_
  refine T_if1 (by decide +kernel) ?_
  refine T_nw ?_ (fun h1 h2 => ?_)
  · exact T_ret ⟨CI_up c0 bd_1_15 (z_wb rfl).1, z_Fr.upf (R := R_X11_least_1) z_Fr.rf (fun a b h => z_up_k h) (fun b h => z_up_j h) (Or.inr (Or.inr (Or.inr (Or.inr (Or.inr (Or.inr (Or.inr (Or.inr (Or.inl (⟨rfl, by decide⟩)))))))))), z_V16.fr p0 (z_up_j (by decide)) (z_up_k (by decide)) (z_up_k (by decide)) (fun _ => z_up_k (by decide)) (fun _ => z_up_k (by decide)), Or.inr rfl⟩
  refine T_if1 (by decide +kernel) ?_
  refine T_useN (sf_X11_refresh_1 hfu r0 c0 p0) (fun v8 s3 hq => ?_)
  obtain ⟨c4, f5, o9, rfl⟩ := hq
  refine T_vN ?_
  have f6 := z_Fr.tr (R := R_X11_least_1) z_Fr.rf f5 rs_X11_refresh_1__X11_least_1
  have t12 : s3 249 6 = r0 249 6 := f5 249 6 (by decide)
  refine T_if1 (by decide +kernel) ?_
  refine T_let 2 (by decide +kernel) ?_
  refine T_if1 (by decide +kernel) ?_
  refine T_get (by decide +kernel) (c := 3) (by decide +kernel) bdr_3 (by decide) c4 (fun x13 e14 b15 w16 => ?_)
  have l17 : z_ln 2 = 9 := by decide +kernel
  refine T_pick (by decide) (fun x18 e19 b20 => ?_)
  have b21 : x18 = (999 : Int) := by rw [← e19]; decide +kernel
  refine T_if1 (by decide +kernel) ?_
  refine T_useI (sf_X11_shortestFor_1 hfu s3 c4 a1 x13 (by omega) (by omega) (Or.inr o9)) (fun v27 s22 hq => ?_)
  obtain ⟨c23, f24, o28, ⟨x26, rfl, b29, b30⟩⟩ := hq
  refine T_vI ?_
  have f25 := z_Fr.tr (R := R_X11_least_1) f6 f24 rs_X11_shortestFor_1__X11_least_1
  have t31 : s22 249 6 = s3 249 6 := f24 249 6 (by decide)
  have r32 := z_U.fr o9 (f24 191 16 (by decide)) (f24 6 6 (by decide)) (fun b => f24 195 b (nr_X11_shortestFor_1__195 b)) (fun b => f24 197 b (nr_X11_shortestFor_1__197 b))
  refine sl_X11_least_1_L38 hfu r0 a1 x13 x18 (by omega) (by omega) (by omega) (fun s33 c34 f35 g36 => ?_) fu s22 x26 c23 f25 (by omega) o28 (by omega)
  have u37 := CI_b c34 (k := 249) (j := 6) bd_249_6
  exact T_ret ⟨c34, f35, g36, Or.inl (⟨(-1), rfl, by omega, by omega⟩)⟩
abbrev R_X1_costs_249 (a b : Int) : Prop := (222 ≤ a ∧ a ≤ 222) ∨ (225 ≤ a ∧ a ≤ 239) ∨ (a = 220 ∧ (b = 4 ∨ b = 5)) ∨ (a = 223 ∧ (b = 9))
abbrev P_X1_costs_249 (r0 : z_M) : z_V → z_M → Prop := fun v s' => z_CI s' ∧ z_Fr R_X1_costs_249 r0 s' ∧ (∃ x, v = vL x ∧ -9223372036854775808 ≤ x ∧ x ≤ 9223372036854775807)
theorem rs_X1_longOfLine_249__X1_costs_249 (a b : Int) (h : R_X1_longOfLine_249 a b) : R_X1_costs_249 a b := (h.elim (fun h => (Or.inl (⟨by omega, by omega⟩))) (fun h => (h.elim (fun h => (Or.inr (Or.inl (⟨by omega, by omega⟩)))) (fun h => (h.elim (fun h => (Or.inr (Or.inr (Or.inl (⟨h.1, by omega⟩))))) (fun h => (Or.inr (Or.inr (Or.inr (⟨h.1, by omega⟩))))))))))
theorem sj_X1_costs_249_J38 {fu : Nat} (hfu : 8589934592 ≤ fu) (r0 s : z_M) (c : z_CI s) (f : z_Fr R_X1_costs_249 r0 s) (a1 : Int) (a4 : Int) (t0 : Int) (t1 : Int) (t2 : Int) (t3 : Int) (b1 : -2147483648 ≤ a1 ∧ a1 ≤ 2147483647) (b4 : -2147483648 ≤ a4 ∧ a4 ≤ 2147483646) (d0 : -9223372036854775808 ≤ t0 ∧ t0 ≤ 9223372036854775807) (d1 : -2147483648 ≤ t1 ∧ t1 ≤ 2147483647) (d2 : -2147483648 ≤ t2 ∧ t2 ≤ 2147483647) (d3 : 0 ≤ t3 ∧ t3 ≤ 1) (M : Int) (pm : 2147483647 - a4 ≤ M) {r : z_M → Int → Int → z_O} {k : z_M → Int → z_O} (hr : ∀ (s' : z_M) (v2 : Int) (v4 : Int), z_CI s' → z_Fr R_X1_costs_249 r0 s' → (-9223372036854775808 ≤ v2 ∧ v2 ≤ 9223372036854775807) → (-2147483648 ≤ v4 ∧ v4 ≤ 2147483647) → (2147483647 - v4 < M) → z_T (r s' v2 v4) (P_X1_costs_249 r0)) (hk : ∀ (s' : z_M) (v2 : Int), z_CI s' → z_Fr R_X1_costs_249 r0 s' → (-9223372036854775808 ≤ v2 ∧ v2 ≤ 9223372036854775807) → z_T (k s' v2) (P_X1_costs_249 r0)) : z_T (fX1_costs_J38 fu s 249 a1 a4 t0 t1 t2 t3 r k) (P_X1_costs_249 r0) := by
  refine T_of (fX1_costs_J38.eq_1 ..) ?_
  have u1 := CI_b c (k := 249) (j := 6) bd_249_6
  refine T_useL (sf_X1_costFor hfu s c t1 t2 t3 (by omega) (by omega) (by omega)) (fun v7 s2 hq => ?_)
  obtain ⟨c3, f4, ⟨x6, rfl, b8, b9⟩⟩ := hq
  refine T_vL ?_
  have f5 := z_Fr.tr (R := R_X1_costs_249) f f4 (fun a b h => absurd h not_false)
  have t10 : s2 249 6 = s 249 6 := f4 249 6 (by decide)
  refine T_leq (fun x11 e12 => ?_)
  have w13 := z_wlr e12
  refine T_leq (fun x14 e15 => ?_)
  have w16 := z_wb e15
  exact hr s2 x11 x14 c3 f5 (by omega) (by omega) (by omega)
theorem sl_X1_costs_249_L5 {fu : Nat} (hfu : 8589934592 ≤ fu) (r0 : z_M) (a1 : Int) (b1 : -2147483648 ≤ a1 ∧ a1 ≤ 2147483647) {k : z_M → Int → z_O} (hk : ∀ (s' : z_M) (v2 : Int), z_CI s' → z_Fr R_X1_costs_249 r0 s' → (-9223372036854775808 ≤ v2 ∧ v2 ≤ 9223372036854775807) → z_T (k s' v2) (P_X1_costs_249 r0)) : ∀ (F : Nat) (s : z_M) (a2 : Int) (a4 : Int), z_CI s → z_Fr R_X1_costs_249 r0 s → (-9223372036854775808 ≤ a2 ∧ a2 ≤ 9223372036854775807) → (-2147483648 ≤ a4 ∧ a4 ≤ 2147483647) → (2147483647 - a4 < (F : Int)) → z_T (fX1_costs_L5 fu 249 a1 F s a2 a4 k) (P_X1_costs_249 r0) := by
  intro F
  induction F with
  | zero =>
    intro s a2 a4 c f b2 b4 hm
    have u22 := CI_b c (k := 249) (j := 6) bd_249_6
    exfalso; omega
  | succ F ih =>
    intro s a2 a4 c f b2 b4 hm
    refine T_of (fX1_costs_L5.eq_2 ..) ?_
    have u1 := CI_b c (k := 249) (j := 6) bd_249_6
    refine T_if1 (by decide +kernel) ?_
    refine T_leq (fun x2 e3 => ?_)
    have u4 := CI_b c (k := 249) (j := 6) bd_249_6
    refine T_ite (fun h5 => ?_) (fun h5 => ?_)
    · exact hk s a2 c f (by omega)
    · refine T_if1 (by decide +kernel) ?_
      refine T_useI (sf_X1_longOfLine_249 hfu s c a4 (by omega)) (fun v11 s6 hq => ?_)
      obtain ⟨c7, f8, ⟨x10, rfl, b12, b13⟩⟩ := hq
      refine T_vI ?_
      have f9 := z_Fr.tr (R := R_X1_costs_249) f f8 rs_X1_longOfLine_249__X1_costs_249
      have t14 : s6 249 6 = s 249 6 := f8 249 6 (by decide)
      refine T_if1 (by decide +kernel) ?_
      refine T_leq (fun x15 e16 => ?_)
      have u17 := CI_b c7 (k := 249) (j := 6) bd_249_6
      refine T_leq (fun x18 e19 => ?_)
      have w20 := z_wb e19
      refine T_ite (fun h21 => ?_) (fun h21 => ?_)
      · exact sj_X1_costs_249_J38 hfu r0 s6 c7 f9 a1 a4 a2 x10 a1 0 (by omega) (by omega) (by omega) (by omega) (by omega) (by omega) (2147483647 - a4) (by omega) (fun s' v2 v4 c' f' w2 w4 pg => ih s' v2 v4 c' f' w2 w4 (by omega)) hk
      · exact sj_X1_costs_249_J38 hfu r0 s6 c7 f9 a1 a4 a2 x10 a1 1 (by omega) (by omega) (by omega) (by omega) (by omega) (by omega) (2147483647 - a4) (by omega) (fun s' v2 v4 c' f' w2 w4 pg => ih s' v2 v4 c' f' w2 w4 (by omega)) hk
theorem sf_X1_costs_249 {fu : Nat} (hfu : 8589934592 ≤ fu) (r0 : z_M) (c0 : z_CI r0) (a1 : Int) (b1 : -2147483648 ≤ a1 ∧ a1 ≤ 2147483647) : z_T (fX1_costs fu r0 249 a1) (P_X1_costs_249 r0) := by
  refine T_of (fX1_costs.eq_1 ..) ?_
  refine sl_X1_costs_249_L5 hfu r0 a1 (by omega) (fun s1 y4 c2 f3 b5 => ?_) fu r0 0 0 c0 z_Fr.rf (by omega) (by omega) (by omega)
  have u6 := CI_b c2 (k := 249) (j := 6) bd_249_6
  exact T_ret ⟨c2, f3, ⟨y4, rfl, by omega, by omega⟩⟩
abbrev R_X11_better_1 (a b : Int) : Prop := (193 ≤ a ∧ a ≤ 219) ∨ (222 ≤ a ∧ a ≤ 222) ∨ (225 ≤ a ∧ a ≤ 239) ∨ (242 ≤ a ∧ a ≤ 244) ∨ (248 ≤ a ∧ a ≤ 248) ∨ (251 ≤ a ∧ a ≤ 253) ∨ (257 ≤ a ∧ a ≤ 257) ∨ (260 ≤ a ∧ a ≤ 278) ∨ (281 ≤ a ∧ a ≤ 295) ∨ (a = 1 ∧ (b = 16 ∨ b = 17 ∨ b = 18)) ∨ (a = 191 ∧ (b = 16 ∨ b = 17 ∨ b = 18)) ∨ (a = 220 ∧ (b = 4 ∨ b = 5)) ∨ (a = 223 ∧ (b = 9)) ∨ (a = 240 ∧ (b = 6)) ∨ (a = 249 ∧ (b = 6)) ∨ (a = 279 ∧ (b = 9))
abbrev P_X11_better_1 (r0 : z_M) : z_V → z_M → Prop := fun v s' => z_CI s' ∧ z_Fr R_X11_better_1 r0 s' ∧ (z_V16 s') ∧ (∃ x, v = vL x ∧ -9223372036854775808 ≤ x ∧ x ≤ 9223372036854775807)
theorem rs_X11_refresh_1__X11_better_1 (a b : Int) (h : R_X11_refresh_1 a b) : R_X11_better_1 a b := (h.elim (fun h => (Or.inl (⟨by omega, by omega⟩))) (fun h => (h.elim (fun h => (Or.inr (Or.inl (⟨by omega, by omega⟩)))) (fun h => (h.elim (fun h => (Or.inr (Or.inr (Or.inl (⟨by omega, by omega⟩))))) (fun h => (h.elim (fun h => (Or.inr (Or.inr (Or.inr (Or.inl (⟨by omega, by omega⟩)))))) (fun h => (h.elim (fun h => (Or.inr (Or.inr (Or.inr (Or.inr (Or.inl (⟨by omega, by omega⟩))))))) (fun h => (h.elim (fun h => (Or.inr (Or.inr (Or.inr (Or.inr (Or.inr (Or.inr (Or.inr (Or.inl (⟨by omega, by omega⟩)))))))))) (fun h => (h.elim (fun h => (Or.inr (Or.inr (Or.inr (Or.inr (Or.inr (Or.inr (Or.inr (Or.inr (Or.inl (⟨by omega, by omega⟩))))))))))) (fun h => (h.elim (fun h => (Or.inr (Or.inr (Or.inr (Or.inr (Or.inr (Or.inr (Or.inr (Or.inr (Or.inr (Or.inl (⟨h.1, by omega⟩)))))))))))) (fun h => (h.elim (fun h => (Or.inr (Or.inr (Or.inr (Or.inr (Or.inr (Or.inr (Or.inr (Or.inr (Or.inr (Or.inr (Or.inl (⟨h.1, by omega⟩))))))))))))) (fun h => (h.elim (fun h => (Or.inr (Or.inr (Or.inr (Or.inr (Or.inr (Or.inr (Or.inr (Or.inr (Or.inr (Or.inr (Or.inr (Or.inl (⟨h.1, by omega⟩)))))))))))))) (fun h => (h.elim (fun h => (Or.inr (Or.inr (Or.inr (Or.inr (Or.inr (Or.inr (Or.inr (Or.inr (Or.inr (Or.inr (Or.inr (Or.inr (Or.inl (⟨h.1, by omega⟩))))))))))))))) (fun h => (h.elim (fun h => (Or.inr (Or.inr (Or.inr (Or.inr (Or.inr (Or.inr (Or.inr (Or.inr (Or.inr (Or.inr (Or.inr (Or.inr (Or.inr (Or.inl (⟨h.1, by omega⟩)))))))))))))))) (fun h => (Or.inr (Or.inr (Or.inr (Or.inr (Or.inr (Or.inr (Or.inr (Or.inr (Or.inr (Or.inr (Or.inr (Or.inr (Or.inr (Or.inr (Or.inr (⟨h.1, by omega⟩))))))))))))))))))))))))))))))))))))))))
theorem rs_X1_go_249__X11_better_1 (a b : Int) (h : R_X1_go_249 a b) : R_X11_better_1 a b := (h.elim (fun h => (Or.inr (Or.inl (⟨by omega, by omega⟩)))) (fun h => (h.elim (fun h => (Or.inr (Or.inr (Or.inl (⟨by omega, by omega⟩))))) (fun h => (h.elim (fun h => (Or.inr (Or.inr (Or.inr (Or.inr (Or.inr (Or.inl (⟨by omega, by omega⟩)))))))) (fun h => (h.elim (fun h => (Or.inr (Or.inr (Or.inr (Or.inr (Or.inr (Or.inr (Or.inl (⟨by omega, by omega⟩))))))))) (fun h => (h.elim (fun h => (Or.inr (Or.inr (Or.inr (Or.inr (Or.inr (Or.inr (Or.inr (Or.inr (Or.inr (Or.inr (Or.inr (Or.inl (⟨h.1, by omega⟩)))))))))))))) (fun h => (h.elim (fun h => (Or.inr (Or.inr (Or.inr (Or.inr (Or.inr (Or.inr (Or.inr (Or.inr (Or.inr (Or.inr (Or.inr (Or.inr (Or.inl (⟨h.1, by omega⟩))))))))))))))) (fun h => (Or.inr (Or.inr (Or.inr (Or.inr (Or.inr (Or.inr (Or.inr (Or.inr (Or.inr (Or.inr (Or.inr (Or.inr (Or.inr (Or.inr (Or.inl (⟨h.1, by omega⟩))))))))))))))))))))))))))))
theorem rs_X1_costs_249__X11_better_1 (a b : Int) (h : R_X1_costs_249 a b) : R_X11_better_1 a b := (h.elim (fun h => (Or.inr (Or.inl (⟨by omega, by omega⟩)))) (fun h => (h.elim (fun h => (Or.inr (Or.inr (Or.inl (⟨by omega, by omega⟩))))) (fun h => (h.elim (fun h => (Or.inr (Or.inr (Or.inr (Or.inr (Or.inr (Or.inr (Or.inr (Or.inr (Or.inr (Or.inr (Or.inr (Or.inl (⟨h.1, by omega⟩)))))))))))))) (fun h => (Or.inr (Or.inr (Or.inr (Or.inr (Or.inr (Or.inr (Or.inr (Or.inr (Or.inr (Or.inr (Or.inr (Or.inr (Or.inl (⟨h.1, by omega⟩))))))))))))))))))))
theorem nr_X1_costs_249__195 (b : Int) : ¬ R_X1_costs_249 195 b := by
  unfold R_X1_costs_249; omega
theorem nr_X1_costs_249__197 (b : Int) : ¬ R_X1_costs_249 197 b := by
  unfold R_X1_costs_249; omega
theorem sf_X11_better_1 {fu : Nat} (hfu : 8589934592 ≤ fu) (r0 : z_M) (c0 : z_CI r0) (p0 : z_V16 r0) : z_T (fX11_better fu r0 1) (P_X11_better_1 r0) := by
  refine T_of (fX11_better.eq_1 ..) ?_
  refine T_if1 (by decide +kernel) ?_
  refine T_useN (sf_X11_refresh_1 hfu r0 c0 p0) (fun v6 s1 hq => ?_)
  obtain ⟨c2, f3, o7, rfl⟩ := hq
  refine T_vN ?_
  have f4 := z_Fr.tr (R := R_X11_better_1) z_Fr.rf f3 rs_X11_refresh_1__X11_better_1
  refine T_if1 (by decide +kernel) ?_
  refine T_let 2 (by decide +kernel) ?_
  refine T_if1 (by decide +kernel) ?_
  refine T_get (by decide +kernel) (c := 3) (by decide +kernel) bdr_3 (by decide) c2 (fun x10 e11 b12 w13 => ?_)
  have l14 : z_ln 2 = 9 := by decide +kernel
  refine T_if1 (by decide +kernel) ?_
  refine T_let 249 (by decide +kernel) ?_
  refine T_if1 (by decide +kernel) ?_
  refine T_useN (sf_X1_go_249 hfu s1 c2 x10 0 (by omega) (by omega)) (fun v20 s15 hq => ?_)
  obtain ⟨c16, f17, rfl⟩ := hq
  refine T_vN ?_
  have f18 := z_Fr.tr (R := R_X11_better_1) f4 f17 rs_X1_go_249__X11_better_1
  have r23 := z_U.fr o7 (f17 191 16 (by decide)) (f17 6 6 (by decide)) (fun b => f17 195 b (nr_X1_go_249__195 b)) (fun b => f17 197 b (nr_X1_go_249__197 b))
  refine T_if1 (by decide +kernel) ?_
  refine T_let 249 (by decide +kernel) ?_
  refine T_if1 (by decide +kernel) ?_
  refine T_useL (sf_X1_costs_249 hfu s15 c16 x10 (by omega)) (fun v29 s24 hq => ?_)
  obtain ⟨c25, f26, ⟨x28, rfl, b30, b31⟩⟩ := hq
  refine T_vL ?_
  have f27 := z_Fr.tr (R := R_X11_better_1) f18 f26 rs_X1_costs_249__X11_better_1
  have r32 := z_U.fr r23 (f26 191 16 (by decide)) (f26 6 6 (by decide)) (fun b => f26 195 b (nr_X1_costs_249__195 b)) (fun b => f26 197 b (nr_X1_costs_249__197 b))
  refine T_if1 (by decide +kernel) ?_
  refine T_let 249 (by decide +kernel) ?_
  refine T_if1 (by decide +kernel) ?_
  refine T_useN (sf_X1_go_249 hfu s24 c25 x10 1 (by omega) (by omega)) (fun v38 s33 hq => ?_)
  obtain ⟨c34, f35, rfl⟩ := hq
  refine T_vN ?_
  have f36 := z_Fr.tr (R := R_X11_better_1) f27 f35 rs_X1_go_249__X11_better_1
  have r41 := z_U.fr r32 (f35 191 16 (by decide)) (f35 6 6 (by decide)) (fun b => f35 195 b (nr_X1_go_249__195 b)) (fun b => f35 197 b (nr_X1_go_249__197 b))
  refine T_if1 (by decide +kernel) ?_
  refine T_let 249 (by decide +kernel) ?_
  refine T_if1 (by decide +kernel) ?_
  refine T_useL (sf_X1_costs_249 hfu s33 c34 x10 (by omega)) (fun v47 s42 hq => ?_)
  obtain ⟨c43, f44, ⟨x46, rfl, b48, b49⟩⟩ := hq
  refine T_vL ?_
  have f45 := z_Fr.tr (R := R_X11_better_1) f36 f44 rs_X1_costs_249__X11_better_1
  have r50 := z_U.fr r41 (f44 191 16 (by decide)) (f44 6 6 (by decide)) (fun b => f44 195 b (nr_X1_costs_249__195 b)) (fun b => f44 197 b (nr_X1_costs_249__197 b))
  refine T_leq (fun x51 e52 => ?_)
  have w53 := z_wlr e52
  exact T_ret ⟨c43, f45, (Or.inr r50), ⟨x51, rfl, by omega, by omega⟩⟩
abbrev R_X11_marks_1 (a b : Int) : Prop := (193 ≤ a ∧ a ≤ 219) ∨ (222 ≤ a ∧ a ≤ 222) ∨ (225 ≤ a ∧ a ≤ 239) ∨ (242 ≤ a ∧ a ≤ 244) ∨ (248 ≤ a ∧ a ≤ 248) ∨ (260 ≤ a ∧ a ≤ 278) ∨ (281 ≤ a ∧ a ≤ 295) ∨ (a = 1 ∧ (b = 15 ∨ b = 16 ∨ b = 17 ∨ b = 18)) ∨ (a = 191 ∧ (b = 16 ∨ b = 17 ∨ b = 18)) ∨ (a = 220 ∧ (b = 4 ∨ b = 5)) ∨ (a = 223 ∧ (b = 9)) ∨ (a = 240 ∧ (b = 6)) ∨ (a = 279 ∧ (b = 9))
abbrev P_X11_marks_1 (r0 : z_M) : z_V → z_M → Prop := fun v s' => z_CI s' ∧ z_Fr R_X11_marks_1 r0 s' ∧ (z_V16 s') ∧ ((∃ x, v = vI x ∧ -2147483648 ≤ x ∧ x ≤ 2147483647) ∨ v = vX 1)
theorem rs_X11_refresh_1__X11_marks_1 (a b : Int) (h : R_X11_refresh_1 a b) : R_X11_marks_1 a b := (h.elim (fun h => (Or.inl (⟨by omega, by omega⟩))) (fun h => (h.elim (fun h => (Or.inr (Or.inl (⟨by omega, by omega⟩)))) (fun h => (h.elim (fun h => (Or.inr (Or.inr (Or.inl (⟨by omega, by omega⟩))))) (fun h => (h.elim (fun h => (Or.inr (Or.inr (Or.inr (Or.inl (⟨by omega, by omega⟩)))))) (fun h => (h.elim (fun h => (Or.inr (Or.inr (Or.inr (Or.inr (Or.inl (⟨by omega, by omega⟩))))))) (fun h => (h.elim (fun h => (Or.inr (Or.inr (Or.inr (Or.inr (Or.inr (Or.inl (⟨by omega, by omega⟩)))))))) (fun h => (h.elim (fun h => (Or.inr (Or.inr (Or.inr (Or.inr (Or.inr (Or.inr (Or.inl (⟨by omega, by omega⟩))))))))) (fun h => (h.elim (fun h => (Or.inr (Or.inr (Or.inr (Or.inr (Or.inr (Or.inr (Or.inr (Or.inl (⟨h.1, by omega⟩)))))))))) (fun h => (h.elim (fun h => (Or.inr (Or.inr (Or.inr (Or.inr (Or.inr (Or.inr (Or.inr (Or.inr (Or.inl (⟨h.1, by omega⟩))))))))))) (fun h => (h.elim (fun h => (Or.inr (Or.inr (Or.inr (Or.inr (Or.inr (Or.inr (Or.inr (Or.inr (Or.inr (Or.inl (⟨h.1, by omega⟩)))))))))))) (fun h => (h.elim (fun h => (Or.inr (Or.inr (Or.inr (Or.inr (Or.inr (Or.inr (Or.inr (Or.inr (Or.inr (Or.inr (Or.inl (⟨h.1, by omega⟩))))))))))))) (fun h => (h.elim (fun h => (Or.inr (Or.inr (Or.inr (Or.inr (Or.inr (Or.inr (Or.inr (Or.inr (Or.inr (Or.inr (Or.inr (Or.inl (⟨h.1, by omega⟩)))))))))))))) (fun h => (Or.inr (Or.inr (Or.inr (Or.inr (Or.inr (Or.inr (Or.inr (Or.inr (Or.inr (Or.inr (Or.inr (Or.inr (⟨h.1, by omega⟩)))))))))))))))))))))))))))))))))))))
theorem nr_X10_marksOf_191__195 (b : Int) : ¬ R_X10_marksOf_191 195 b := not_false
theorem nr_X10_marksOf_191__197 (b : Int) : ¬ R_X10_marksOf_191 197 b := not_false
theorem sf_X11_marks_1 {fu : Nat} (hfu : 8589934592 ≤ fu) (r0 : z_M) (c0 : z_CI r0) (a1 : Int) (b1 : -2147483648 ≤ a1 ∧ a1 ≤ 2147483647) (p0 : z_V16 r0) : z_T (fX11_marks fu r0 1 a1) (P_X11_marks_1 r0) := by
  refine T_of (fX11_marks.eq_1 ..) ?_
  refine T_if1 (by decide +kernel) ?_
  refine T_nw ?_ (fun h1 h2 => ?_)
  · exact T_ret ⟨CI_up c0 bd_1_15 (z_wb rfl).1, z_Fr.upf (R := R_X11_marks_1) z_Fr.rf (fun a b h => z_up_k h) (fun b h => z_up_j h) (Or.inr (Or.inr (Or.inr (Or.inr (Or.inr (Or.inr (Or.inr (Or.inl (⟨rfl, by decide⟩))))))))), z_V16.fr p0 (z_up_j (by decide)) (z_up_k (by decide)) (z_up_k (by decide)) (fun _ => z_up_k (by decide)) (fun _ => z_up_k (by decide)), Or.inr rfl⟩
  refine T_if1 (by decide +kernel) ?_
  refine T_useN (sf_X11_refresh_1 hfu r0 c0 p0) (fun v8 s3 hq => ?_)
  obtain ⟨c4, f5, o9, rfl⟩ := hq
  refine T_vN ?_
  have f6 := z_Fr.tr (R := R_X11_marks_1) z_Fr.rf f5 rs_X11_refresh_1__X11_marks_1
  have t12 : s3 6 6 = r0 6 6 := f5 6 6 (by decide)
  refine T_if1 (by decide +kernel) ?_
  refine T_let 191 (by decide +kernel) ?_
  refine T_if1 (by decide +kernel) ?_
  refine T_let 6 (by decide +kernel) ?_
  refine T_if1 (by decide +kernel) ?_
  refine T_leq (fun x13 e14 => ?_)
  have u15 := CI_b c4 (k := 6) (j := 6) bd_6_6
  refine T_leq (fun x16 e17 => ?_)
  have w18 := z_wb e17
  refine T_if1 (by decide +kernel) ?_
  refine T_useI (sf_X10_marksOf_191 hfu s3 c4 0 x16 a1 (by omega) (by omega) (by omega)) (fun v24 s19 hq => ?_)
  obtain ⟨c20, f21, ⟨x23, rfl, b25, b26⟩⟩ := hq
  refine T_vI ?_
  have f22 := z_Fr.tr (R := R_X11_marks_1) f6 f21 (fun a b h => absurd h not_false)
  have t27 : s19 6 6 = s3 6 6 := f21 6 6 (by decide)
  have r28 := z_U.fr o9 (f21 191 16 (by decide)) (f21 6 6 (by decide)) (fun b => f21 195 b (nr_X10_marksOf_191__195 b)) (fun b => f21 197 b (nr_X10_marksOf_191__197 b))
  exact T_ret ⟨c20, f22, (Or.inr r28), Or.inl (⟨x23, rfl, by omega, by omega⟩)⟩
abbrev R_X1_movedFrom_249_259 (a b : Int) : Prop := False
abbrev P_X1_movedFrom_249_259 (r0 : z_M) : z_V → z_M → Prop := fun v s' => z_CI s' ∧ z_Fr R_X1_movedFrom_249_259 r0 s' ∧ (∃ x, v = vI x ∧ -2147483648 ≤ x ∧ x ≤ 2147483647)
theorem sj_X1_movedFrom_249_259_J64 {fu : Nat} (hfu : 8589934592 ≤ fu) (r0 s : z_M) (c : z_CI s) (f : z_Fr R_X1_movedFrom_249_259 r0 s) (a3 : Int) (a4 : Int) (t0 : Int) (t1 : Int) (b3 : -2147483648 ≤ a3 ∧ a3 ≤ 2147483647) (b4 : -2147483648 ≤ a4 ∧ a4 ≤ 2147483646) (d0 : -2147483648 ≤ t0 ∧ t0 ≤ 2147483647) (d1 : -2147483648 ≤ t1 ∧ t1 ≤ 2147483647) (M : Int) (pm : 2147483647 - a4 ≤ M) {r : z_M → Int → Int → z_O} {k : z_M → Int → z_O} (hr : ∀ (s' : z_M) (v2 : Int) (v4 : Int), z_CI s' → z_Fr R_X1_movedFrom_249_259 r0 s' → (-2147483648 ≤ v2 ∧ v2 ≤ 2147483647) → (-2147483648 ≤ v4 ∧ v4 ≤ 2147483647) → (2147483647 - v4 < M) → z_T (r s' v2 v4) (P_X1_movedFrom_249_259 r0)) (hk : ∀ (s' : z_M) (v2 : Int), z_CI s' → z_Fr R_X1_movedFrom_249_259 r0 s' → (-2147483648 ≤ v2 ∧ v2 ≤ 2147483647) → z_T (k s' v2) (P_X1_movedFrom_249_259 r0)) : z_T (fX1_movedFrom_J64 fu s 249 259 a3 a4 t0 t1 r k) (P_X1_movedFrom_249_259 r0) := by
  refine T_of (fX1_movedFrom_J64.eq_1 ..) ?_
  have u1 := CI_b c (k := 249) (j := 6) bd_249_6
  refine T_leq (fun x2 e3 => ?_)
  have w4 := z_wr e3
  refine T_leq (fun x5 e6 => ?_)
  have w7 := z_wb e6
  exact hr s x2 x5 c f (by omega) (by omega) (by omega)
theorem sl_X1_movedFrom_249_259_L22 {fu : Nat} (hfu : 8589934592 ≤ fu) (r0 : z_M) (a3 : Int) (b3 : -2147483648 ≤ a3 ∧ a3 ≤ 2147483647) {k : z_M → Int → z_O} (hk : ∀ (s' : z_M) (v2 : Int), z_CI s' → z_Fr R_X1_movedFrom_249_259 r0 s' → (-2147483648 ≤ v2 ∧ v2 ≤ 2147483647) → z_T (k s' v2) (P_X1_movedFrom_249_259 r0)) : ∀ (F : Nat) (s : z_M) (a2 : Int) (a4 : Int), z_CI s → z_Fr R_X1_movedFrom_249_259 r0 s → (-2147483648 ≤ a2 ∧ a2 ≤ 2147483647) → (-2147483648 ≤ a4 ∧ a4 ≤ 2147483647) → (2147483647 - a4 < (F : Int)) → z_T (fX1_movedFrom_L22 fu 249 259 a3 F s a2 a4 k) (P_X1_movedFrom_249_259 r0) := by
  intro F
  induction F with
  | zero =>
    intro s a2 a4 c f b2 b4 hm
    have u22 := CI_b c (k := 249) (j := 6) bd_249_6
    exfalso; omega
  | succ F ih =>
    intro s a2 a4 c f b2 b4 hm
    refine T_of (fX1_movedFrom_L22.eq_2 ..) ?_
    have u1 := CI_b c (k := 249) (j := 6) bd_249_6
    refine T_if1 (by decide +kernel) ?_
    refine T_let 256 (by decide +kernel) ?_
    refine T_leq (fun x2 e3 => ?_)
    have w4 := z_wr e3
    refine T_if1 (by decide +kernel) ?_
    refine T_get (by decide +kernel) (c := 257) (by decide +kernel) bdr_257 (by decide) c (fun x5 e6 b7 w8 => ?_)
    have l9 : z_ln 256 = 201 := by decide +kernel
    refine T_ite (fun h10 => ?_) (fun h10 => ?_)
    · exact hk s a2 c f (by omega)
    · refine T_if1 (by decide +kernel) ?_
      refine T_get (by decide +kernel) (c := 260) (by decide +kernel) bdr_260 (by decide) c (fun x11 e12 b13 w14 => ?_)
      have l15 : z_ln 259 = 200 := by decide +kernel
      refine T_ite (fun h16 => ?_) (fun h16 => ?_)
      · refine T_if1 (by decide +kernel) ?_
        refine T_let 191 (by decide +kernel) ?_
        refine T_if1 (by decide +kernel) ?_
        refine T_let 196 (by decide +kernel) ?_
        refine T_if1 (by decide +kernel) ?_
        refine T_get (by decide +kernel) (c := 197) (by decide +kernel) bdr_197 (by decide) c (fun x17 e18 b19 w20 => ?_)
        have l21 : z_ln 196 = 200 := by decide +kernel
        exact sj_X1_movedFrom_249_259_J64 hfu r0 s c f a3 a4 a2 x17 (by omega) (by omega) (by omega) (by omega) (2147483647 - a4) (by omega) (fun s' v2 v4 c' f' w2 w4 pg => ih s' v2 v4 c' f' w2 w4 (by omega)) hk
      · exact sj_X1_movedFrom_249_259_J64 hfu r0 s c f a3 a4 a2 0 (by omega) (by omega) (by omega) (by omega) (2147483647 - a4) (by omega) (fun s' v2 v4 c' f' w2 w4 pg => ih s' v2 v4 c' f' w2 w4 (by omega)) hk
theorem sl_X1_movedFrom_249_259_L4 {fu : Nat} (hfu : 8589934592 ≤ fu) (r0 : z_M) {k : z_M → Int → z_O} (hk : ∀ (s' : z_M) (v2 : Int), z_CI s' → z_Fr R_X1_movedFrom_249_259 r0 s' → (-2147483648 ≤ v2 ∧ v2 ≤ 2147483647) → z_T (k s' v2) (P_X1_movedFrom_249_259 r0)) : ∀ (F : Nat) (s : z_M) (a2 : Int) (a3 : Int), z_CI s → z_Fr R_X1_movedFrom_249_259 r0 s → (-2147483648 ≤ a2 ∧ a2 ≤ 2147483647) → (-2147483648 ≤ a3 ∧ a3 ≤ 2147483647) → (2147483647 - a3 < (F : Int)) → z_T (fX1_movedFrom_L4 fu 249 259 F s a2 a3 k) (P_X1_movedFrom_249_259 r0) := by
  intro F
  induction F with
  | zero =>
    intro s a2 a3 c f b2 b3 hm
    have u20 := CI_b c (k := 249) (j := 6) bd_249_6
    exfalso; omega
  | succ F ih =>
    intro s a2 a3 c f b2 b3 hm
    refine T_of (fX1_movedFrom_L4.eq_2 ..) ?_
    have u1 := CI_b c (k := 249) (j := 6) bd_249_6
    refine T_if1 (by decide +kernel) ?_
    refine T_leq (fun x2 e3 => ?_)
    have u4 := CI_b c (k := 249) (j := 6) bd_249_6
    refine T_ite (fun h5 => ?_) (fun h5 => ?_)
    · exact hk s a2 c f (by omega)
    · refine T_if1 (by decide +kernel) ?_
      refine T_let 256 (by decide +kernel) ?_
      refine T_if1 (by decide +kernel) ?_
      refine T_get (by decide +kernel) (c := 257) (by decide +kernel) bdr_257 (by decide) c (fun x6 e7 b8 w9 => ?_)
      have l10 : z_ln 256 = 201 := by decide +kernel
      refine sl_X1_movedFrom_249_259_L22 hfu r0 a3 (by omega) (fun s11 y14 c12 f13 b15 => ?_) fu s a2 x6 c f (by omega) (by omega) (by omega)
      have u16 := CI_b c12 (k := 249) (j := 6) bd_249_6
      refine T_leq (fun x17 e18 => ?_)
      have w19 := z_wb e18
      exact ih s11 y14 x17 c12 f13 (by omega) (by omega) (by omega)
theorem sf_X1_movedFrom_249_259 {fu : Nat} (hfu : 8589934592 ≤ fu) (r0 : z_M) (c0 : z_CI r0) : z_T (fX1_movedFrom fu r0 249 259) (P_X1_movedFrom_249_259 r0) := by
  refine T_of (fX1_movedFrom.eq_1 ..) ?_
  refine sl_X1_movedFrom_249_259_L4 hfu r0 (fun s1 y4 c2 f3 b5 => ?_) fu r0 0 0 c0 z_Fr.rf (by omega) (by omega) (by omega)
  have u6 := CI_b c2 (k := 249) (j := 6) bd_249_6
  exact T_ret ⟨c2, f3, ⟨y4, rfl, by omega, by omega⟩⟩
abbrev R_X11_moves_1 (a b : Int) : Prop := (3 ≤ a ∧ a ≤ 3) ∨ (193 ≤ a ∧ a ≤ 219) ∨ (222 ≤ a ∧ a ≤ 222) ∨ (225 ≤ a ∧ a ≤ 239) ∨ (242 ≤ a ∧ a ≤ 244) ∨ (248 ≤ a ∧ a ≤ 248) ∨ (251 ≤ a ∧ a ≤ 253) ∨ (257 ≤ a ∧ a ≤ 257) ∨ (260 ≤ a ∧ a ≤ 278) ∨ (281 ≤ a ∧ a ≤ 295) ∨ (a = 1 ∧ (b = 16 ∨ b = 17 ∨ b = 18)) ∨ (a = 191 ∧ (b = 16 ∨ b = 17 ∨ b = 18)) ∨ (a = 220 ∧ (b = 4 ∨ b = 5)) ∨ (a = 223 ∧ (b = 9)) ∨ (a = 240 ∧ (b = 6)) ∨ (a = 249 ∧ (b = 6)) ∨ (a = 279 ∧ (b = 9))
abbrev P_X11_moves_1 (r0 : z_M) : z_V → z_M → Prop := fun v s' => z_CI s' ∧ z_Fr R_X11_moves_1 r0 s' ∧ (z_V16 s') ∧ (∃ x, v = vI x ∧ -2147483648 ≤ x ∧ x ≤ 2147483647)
theorem rs_X11_refresh_1__X11_moves_1 (a b : Int) (h : R_X11_refresh_1 a b) : R_X11_moves_1 a b := (h.elim (fun h => (Or.inr (Or.inl (⟨by omega, by omega⟩)))) (fun h => (h.elim (fun h => (Or.inr (Or.inr (Or.inl (⟨by omega, by omega⟩))))) (fun h => (h.elim (fun h => (Or.inr (Or.inr (Or.inr (Or.inl (⟨by omega, by omega⟩)))))) (fun h => (h.elim (fun h => (Or.inr (Or.inr (Or.inr (Or.inr (Or.inl (⟨by omega, by omega⟩))))))) (fun h => (h.elim (fun h => (Or.inr (Or.inr (Or.inr (Or.inr (Or.inr (Or.inl (⟨by omega, by omega⟩)))))))) (fun h => (h.elim (fun h => (Or.inr (Or.inr (Or.inr (Or.inr (Or.inr (Or.inr (Or.inr (Or.inr (Or.inl (⟨by omega, by omega⟩))))))))))) (fun h => (h.elim (fun h => (Or.inr (Or.inr (Or.inr (Or.inr (Or.inr (Or.inr (Or.inr (Or.inr (Or.inr (Or.inl (⟨by omega, by omega⟩)))))))))))) (fun h => (h.elim (fun h => (Or.inr (Or.inr (Or.inr (Or.inr (Or.inr (Or.inr (Or.inr (Or.inr (Or.inr (Or.inr (Or.inl (⟨h.1, by omega⟩))))))))))))) (fun h => (h.elim (fun h => (Or.inr (Or.inr (Or.inr (Or.inr (Or.inr (Or.inr (Or.inr (Or.inr (Or.inr (Or.inr (Or.inr (Or.inl (⟨h.1, by omega⟩)))))))))))))) (fun h => (h.elim (fun h => (Or.inr (Or.inr (Or.inr (Or.inr (Or.inr (Or.inr (Or.inr (Or.inr (Or.inr (Or.inr (Or.inr (Or.inr (Or.inl (⟨h.1, by omega⟩))))))))))))))) (fun h => (h.elim (fun h => (Or.inr (Or.inr (Or.inr (Or.inr (Or.inr (Or.inr (Or.inr (Or.inr (Or.inr (Or.inr (Or.inr (Or.inr (Or.inr (Or.inl (⟨h.1, by omega⟩)))))))))))))))) (fun h => (h.elim (fun h => (Or.inr (Or.inr (Or.inr (Or.inr (Or.inr (Or.inr (Or.inr (Or.inr (Or.inr (Or.inr (Or.inr (Or.inr (Or.inr (Or.inr (Or.inl (⟨h.1, by omega⟩))))))))))))))))) (fun h => (Or.inr (Or.inr (Or.inr (Or.inr (Or.inr (Or.inr (Or.inr (Or.inr (Or.inr (Or.inr (Or.inr (Or.inr (Or.inr (Or.inr (Or.inr (Or.inr (⟨h.1, by omega⟩)))))))))))))))))))))))))))))))))))))))))
theorem rs_X10_build_191__X11_moves_1 (a b : Int) (h : R_X10_build_191 a b) : R_X11_moves_1 a b := (h.elim (fun h => (Or.inr (Or.inl (⟨by omega, by omega⟩)))) (fun h => (Or.inr (Or.inr (Or.inr (Or.inr (Or.inr (Or.inr (Or.inr (Or.inr (Or.inr (Or.inr (Or.inr (Or.inl (⟨h.1, by omega⟩)))))))))))))))
theorem rs_X5_forget_220__X11_moves_1 (a b : Int) (h : R_X5_forget_220 a b) : R_X11_moves_1 a b := (Or.inr (Or.inr (Or.inl (⟨by omega, by omega⟩))))
theorem rs_X1_go_249__X11_moves_1 (a b : Int) (h : R_X1_go_249 a b) : R_X11_moves_1 a b := (h.elim (fun h => (Or.inr (Or.inr (Or.inl (⟨by omega, by omega⟩))))) (fun h => (h.elim (fun h => (Or.inr (Or.inr (Or.inr (Or.inl (⟨by omega, by omega⟩)))))) (fun h => (h.elim (fun h => (Or.inr (Or.inr (Or.inr (Or.inr (Or.inr (Or.inr (Or.inl (⟨by omega, by omega⟩))))))))) (fun h => (h.elim (fun h => (Or.inr (Or.inr (Or.inr (Or.inr (Or.inr (Or.inr (Or.inr (Or.inl (⟨by omega, by omega⟩)))))))))) (fun h => (h.elim (fun h => (Or.inr (Or.inr (Or.inr (Or.inr (Or.inr (Or.inr (Or.inr (Or.inr (Or.inr (Or.inr (Or.inr (Or.inr (Or.inl (⟨h.1, by omega⟩))))))))))))))) (fun h => (h.elim (fun h => (Or.inr (Or.inr (Or.inr (Or.inr (Or.inr (Or.inr (Or.inr (Or.inr (Or.inr (Or.inr (Or.inr (Or.inr (Or.inr (Or.inl (⟨h.1, by omega⟩)))))))))))))))) (fun h => (Or.inr (Or.inr (Or.inr (Or.inr (Or.inr (Or.inr (Or.inr (Or.inr (Or.inr (Or.inr (Or.inr (Or.inr (Or.inr (Or.inr (Or.inr (Or.inl (⟨h.1, by omega⟩)))))))))))))))))))))))))))))
theorem nr_X1_movedFrom_249_259__195 (b : Int) : ¬ R_X1_movedFrom_249_259 195 b := not_false
theorem nr_X1_movedFrom_249_259__197 (b : Int) : ¬ R_X1_movedFrom_249_259 197 b := not_false
theorem sf_X11_moves_1 {fu : Nat} (hfu : 8589934592 ≤ fu) (r0 : z_M) (c0 : z_CI r0) (p0 : z_V16 r0) : z_T (fX11_moves fu r0 1) (P_X11_moves_1 r0) := by
  refine T_of (fX11_moves.eq_1 ..) ?_
  refine T_if1 (by decide +kernel) ?_
  refine T_useN (sf_X11_refresh_1 hfu r0 c0 p0) (fun v6 s1 hq => ?_)
  obtain ⟨c2, f3, o7, rfl⟩ := hq
  refine T_vN ?_
  have f4 := z_Fr.tr (R := R_X11_moves_1) z_Fr.rf f3 rs_X11_refresh_1__X11_moves_1
  refine T_if1 (by decide +kernel) ?_
  refine T_let 2 (by decide +kernel) ?_
  refine T_if1 (by decide +kernel) ?_
  refine T_let 2 (by decide +kernel) ?_
  refine T_if1 (by decide +kernel) ?_
  refine T_get (by decide +kernel) (c := 3) (by decide +kernel) bdr_3 (by decide) c2 (fun x10 e11 b12 w13 => ?_)
  have l14 : z_ln 2 = 9 := by decide +kernel
  refine T_leq (fun x15 e16 => ?_)
  have w17 := z_wb e16
  refine T_if1 (by decide +kernel) ?_
  refine T_put (by decide +kernel) (c := 3) (by decide +kernel) bdr_3 (by omega) c2 (fun s18 e21 c19 g22 => ?_)
  have f20 := z_Fr.up (R := R_X11_moves_1) f4 g22 (fun _ => (Or.inl (⟨by decide, by decide⟩)))
  have r23 := z_U.fr o7 (g22 191 16 (by decide)) (g22 6 6 (by decide)) (fun b => g22 195 b (by decide)) (fun b => g22 197 b (by decide))
  refine T_if1 (by decide +kernel) ?_
  refine T_let 191 (by decide +kernel) ?_
  refine T_if1 (by decide +kernel) ?_
  refine T_useN (sf_X10_build_191 hfu s18 c19) (fun v29 s24 hq => ?_)
  obtain ⟨c25, f26, o30, rfl⟩ := hq
  refine T_vN ?_
  have f27 := z_Fr.tr (R := R_X11_moves_1) f20 f26 rs_X10_build_191__X11_moves_1
  refine T_if1 (by decide +kernel) ?_
  refine T_let 220 (by decide +kernel) ?_
  refine T_if1 (by decide +kernel) ?_
  refine T_useN (sf_X5_forget_220 hfu s24 c25) (fun v38 s33 hq => ?_)
  obtain ⟨c34, f35, rfl⟩ := hq
  refine T_vN ?_
  have f36 := z_Fr.tr (R := R_X11_moves_1) f27 f35 rs_X5_forget_220__X11_moves_1
  have r41 := z_U.fr o30 (f35 191 16 (by decide)) (f35 6 6 (by decide)) (fun b => f35 195 b (nr_X5_forget_220__195 b)) (fun b => f35 197 b (nr_X5_forget_220__197 b))
  refine T_if1 (by decide +kernel) ?_
  refine T_let 249 (by decide +kernel) ?_
  refine T_if1 (by decide +kernel) ?_
  refine T_let 2 (by decide +kernel) ?_
  refine T_if1 (by decide +kernel) ?_
  refine T_get (by decide +kernel) (c := 3) (by decide +kernel) bdr_3 (by decide) c34 (fun x42 e43 b44 w45 => ?_)
  have l46 : z_ln 2 = 9 := by decide +kernel
  refine T_if1 (by decide +kernel) ?_
  refine T_let 2 (by decide +kernel) ?_
  refine T_if1 (by decide +kernel) ?_
  refine T_get (by decide +kernel) (c := 3) (by decide +kernel) bdr_3 (by decide) c34 (fun x47 e48 b49 w50 => ?_)
  have l51 : z_ln 2 = 9 := by decide +kernel
  refine T_if1 (by decide +kernel) ?_
  refine T_useN (sf_X1_go_249 hfu s33 c34 x42 x47 (by omega) (by omega)) (fun v57 s52 hq => ?_)
  obtain ⟨c53, f54, rfl⟩ := hq
  refine T_vN ?_
  have f55 := z_Fr.tr (R := R_X11_moves_1) f36 f54 rs_X1_go_249__X11_moves_1
  have r60 := z_U.fr r41 (f54 191 16 (by decide)) (f54 6 6 (by decide)) (fun b => f54 195 b (nr_X1_go_249__195 b)) (fun b => f54 197 b (nr_X1_go_249__197 b))
  refine T_if1 (by decide +kernel) ?_
  refine T_let 249 (by decide +kernel) ?_
  refine T_if1 (by decide +kernel) ?_
  refine T_let 258 (by decide +kernel) ?_
  refine T_if1 (by decide +kernel) ?_
  refine T_let 259 (by decide +kernel) ?_
  refine T_if1 (by decide +kernel) ?_
  refine T_useI (sf_X1_movedFrom_249_259 hfu s52 c53) (fun v66 s61 hq => ?_)
  obtain ⟨c62, f63, ⟨x65, rfl, b67, b68⟩⟩ := hq
  refine T_vI ?_
  have f64 := z_Fr.tr (R := R_X11_moves_1) f55 f63 (fun a b h => absurd h not_false)
  have r69 := z_U.fr r60 (f63 191 16 (by decide)) (f63 6 6 (by decide)) (fun b => f63 195 b (nr_X1_movedFrom_249_259__195 b)) (fun b => f63 197 b (nr_X1_movedFrom_249_259__197 b))
  refine T_if1 (by decide +kernel) ?_
  refine T_let 2 (by decide +kernel) ?_
  refine T_if1 (by decide +kernel) ?_
  refine T_let 2 (by decide +kernel) ?_
  refine T_if1 (by decide +kernel) ?_
  refine T_get (by decide +kernel) (c := 3) (by decide +kernel) bdr_3 (by decide) c62 (fun x70 e71 b72 w73 => ?_)
  have l74 : z_ln 2 = 9 := by decide +kernel
  refine T_leq (fun x75 e76 => ?_)
  have w77 := z_wb e76
  refine T_if1 (by decide +kernel) ?_
  refine T_put (by decide +kernel) (c := 3) (by decide +kernel) bdr_3 (by omega) c62 (fun s78 e81 c79 g82 => ?_)
  have f80 := z_Fr.up (R := R_X11_moves_1) f64 g82 (fun _ => (Or.inl (⟨by decide, by decide⟩)))
  have r83 := z_U.fr r69 (g82 191 16 (by decide)) (g82 6 6 (by decide)) (fun b => g82 195 b (by decide)) (fun b => g82 197 b (by decide))
  refine T_if1 ⟨(by decide +kernel), by unfold z_bl; omega⟩ ?_
  refine T_upg c79 bd_1_16 (by omega) (fun s84 c85 g87 g88 e89 => ?_)
  have f86 := z_Fr.upf (R := R_X11_moves_1) f80 g87 g88 (Or.inr (Or.inr (Or.inr (Or.inr (Or.inr (Or.inr (Or.inr (Or.inr (Or.inr (Or.inr (Or.inl (⟨rfl, by decide⟩))))))))))))
  have r90 := z_U.fr r83 (g87 191 16 (by decide)) (g87 6 6 (by decide)) (fun b => g87 195 b (by decide)) (fun b => g87 197 b (by decide))
  exact T_ret ⟨c85, f86, (Or.inr r90), ⟨x65, rfl, by omega, by omega⟩⟩
abbrev R_X11_lend_1 (a b : Int) : Prop := (193 ≤ a ∧ a ≤ 219) ∨ (222 ≤ a ∧ a ≤ 222) ∨ (225 ≤ a ∧ a ≤ 239) ∨ (242 ≤ a ∧ a ≤ 244) ∨ (248 ≤ a ∧ a ≤ 248) ∨ (260 ≤ a ∧ a ≤ 278) ∨ (281 ≤ a ∧ a ≤ 295) ∨ (a = 1 ∧ (b = 15 ∨ b = 16 ∨ b = 17 ∨ b = 18)) ∨ (a = 191 ∧ (b = 16 ∨ b = 17 ∨ b = 18)) ∨ (a = 220 ∧ (b = 4 ∨ b = 5)) ∨ (a = 223 ∧ (b = 9)) ∨ (a = 240 ∧ (b = 6)) ∨ (a = 279 ∧ (b = 9))
abbrev P_X11_lend_1 (r0 : z_M) : z_V → z_M → Prop := fun v s' => z_CI s' ∧ z_Fr R_X11_lend_1 r0 s' ∧ (z_V16 s') ∧ ((∃ x, v = vI x ∧ -2147483648 ≤ x ∧ x ≤ 2147483647) ∨ v = vX 1)
theorem rs_X11_refresh_1__X11_lend_1 (a b : Int) (h : R_X11_refresh_1 a b) : R_X11_lend_1 a b := (h.elim (fun h => (Or.inl (⟨by omega, by omega⟩))) (fun h => (h.elim (fun h => (Or.inr (Or.inl (⟨by omega, by omega⟩)))) (fun h => (h.elim (fun h => (Or.inr (Or.inr (Or.inl (⟨by omega, by omega⟩))))) (fun h => (h.elim (fun h => (Or.inr (Or.inr (Or.inr (Or.inl (⟨by omega, by omega⟩)))))) (fun h => (h.elim (fun h => (Or.inr (Or.inr (Or.inr (Or.inr (Or.inl (⟨by omega, by omega⟩))))))) (fun h => (h.elim (fun h => (Or.inr (Or.inr (Or.inr (Or.inr (Or.inr (Or.inl (⟨by omega, by omega⟩)))))))) (fun h => (h.elim (fun h => (Or.inr (Or.inr (Or.inr (Or.inr (Or.inr (Or.inr (Or.inl (⟨by omega, by omega⟩))))))))) (fun h => (h.elim (fun h => (Or.inr (Or.inr (Or.inr (Or.inr (Or.inr (Or.inr (Or.inr (Or.inl (⟨h.1, by omega⟩)))))))))) (fun h => (h.elim (fun h => (Or.inr (Or.inr (Or.inr (Or.inr (Or.inr (Or.inr (Or.inr (Or.inr (Or.inl (⟨h.1, by omega⟩))))))))))) (fun h => (h.elim (fun h => (Or.inr (Or.inr (Or.inr (Or.inr (Or.inr (Or.inr (Or.inr (Or.inr (Or.inr (Or.inl (⟨h.1, by omega⟩)))))))))))) (fun h => (h.elim (fun h => (Or.inr (Or.inr (Or.inr (Or.inr (Or.inr (Or.inr (Or.inr (Or.inr (Or.inr (Or.inr (Or.inl (⟨h.1, by omega⟩))))))))))))) (fun h => (h.elim (fun h => (Or.inr (Or.inr (Or.inr (Or.inr (Or.inr (Or.inr (Or.inr (Or.inr (Or.inr (Or.inr (Or.inr (Or.inl (⟨h.1, by omega⟩)))))))))))))) (fun h => (Or.inr (Or.inr (Or.inr (Or.inr (Or.inr (Or.inr (Or.inr (Or.inr (Or.inr (Or.inr (Or.inr (Or.inr (⟨h.1, by omega⟩)))))))))))))))))))))))))))))))))))))
theorem rs_X5_longWith_220__X11_lend_1 (a b : Int) (h : R_X5_longWith_220 a b) : R_X11_lend_1 a b := (h.elim (fun h => (Or.inr (Or.inr (Or.inl (⟨by omega, by omega⟩))))) (fun h => (h.elim (fun h => (Or.inr (Or.inr (Or.inr (Or.inr (Or.inr (Or.inr (Or.inr (Or.inr (Or.inr (Or.inl (⟨h.1, by omega⟩)))))))))))) (fun h => (Or.inr (Or.inr (Or.inr (Or.inr (Or.inr (Or.inr (Or.inr (Or.inr (Or.inr (Or.inr (Or.inl (⟨h.1, by omega⟩))))))))))))))))
theorem nr_X5_longWith_220__195 (b : Int) : ¬ R_X5_longWith_220 195 b := by
  unfold R_X5_longWith_220; omega
theorem nr_X5_longWith_220__197 (b : Int) : ¬ R_X5_longWith_220 197 b := by
  unfold R_X5_longWith_220; omega
theorem sj_X11_lend_1_J88 {fu : Nat} (hfu : 8589934592 ≤ fu) (r0 s : z_M) (c : z_CI s) (f : z_Fr R_X11_lend_1 r0 s) (a1 : Int) (a2 : Int) (a3 : Int) (a4 : Int) (b1 : -2147483648 ≤ a1 ∧ a1 ≤ 2147483647) (b2 : -2147483648 ≤ a2 ∧ a2 ≤ 2147483647) (b3 : -2147483648 ≤ a3 ∧ a3 ≤ 2147483647) (b4 : -2147483648 ≤ a4 ∧ a4 ≤ 2147483646) (p0 : z_V16 s) (M : Int) (pm : 2147483647 - a4 ≤ M) {r : z_M → Int → Int → Int → z_O} {k : z_M → Int → Int → z_O} (hr : ∀ (s' : z_M) (v2 : Int) (v3 : Int) (v4 : Int), z_CI s' → z_Fr R_X11_lend_1 r0 s' → (-2147483648 ≤ v2 ∧ v2 ≤ 2147483647) → (-2147483648 ≤ v3 ∧ v3 ≤ 2147483647) → (-2147483648 ≤ v4 ∧ v4 ≤ 2147483647) → (z_V16 s') → (2147483647 - v4 < M) → z_T (r s' v2 v3 v4) (P_X11_lend_1 r0)) (hk : ∀ (s' : z_M) (v2 : Int) (v3 : Int), z_CI s' → z_Fr R_X11_lend_1 r0 s' → (-2147483648 ≤ v2 ∧ v2 ≤ 2147483647) → (-2147483648 ≤ v3 ∧ v3 ≤ 2147483647) → (z_V16 s') → z_T (k s' v2 v3) (P_X11_lend_1 r0)) : z_T (fX11_lend_J88 fu s 1 a1 a2 a3 a4 r k) (P_X11_lend_1 r0) := by
  refine T_of (fX11_lend_J88.eq_1 ..) ?_
  have u1 := CI_b c (k := 191) (j := 16) bd_191_16
  refine T_leq (fun x2 e3 => ?_)
  have w4 := z_wb e3
  exact hr s a2 a3 x2 c f (by omega) (by omega) (by omega) p0 (by omega)
theorem sl_X11_lend_1_L43 {fu : Nat} (hfu : 8589934592 ≤ fu) (r0 : z_M) (a1 : Int) (b1 : -2147483648 ≤ a1 ∧ a1 ≤ 2147483647) {k : z_M → Int → Int → z_O} (hk : ∀ (s' : z_M) (v2 : Int) (v3 : Int), z_CI s' → z_Fr R_X11_lend_1 r0 s' → (-2147483648 ≤ v2 ∧ v2 ≤ 2147483647) → (-2147483648 ≤ v3 ∧ v3 ≤ 2147483647) → (z_V16 s') → z_T (k s' v2 v3) (P_X11_lend_1 r0)) : ∀ (F : Nat) (s : z_M) (a2 : Int) (a3 : Int) (a4 : Int), z_CI s → z_Fr R_X11_lend_1 r0 s → (-2147483648 ≤ a2 ∧ a2 ≤ 2147483647) → (-2147483648 ≤ a3 ∧ a3 ≤ 2147483647) → (-2147483648 ≤ a4 ∧ a4 ≤ 2147483647) → (z_V16 s) → (2147483647 - a4 < (F : Int)) → z_T (fX11_lend_L43 fu 1 a1 F s a2 a3 a4 k) (P_X11_lend_1 r0) := by
  intro F
  induction F with
  | zero =>
    intro s a2 a3 a4 c f b2 b3 b4 i0 hm
    have u24 := CI_b c (k := 191) (j := 16) bd_191_16
    exfalso; omega
  | succ F ih =>
    intro s a2 a3 a4 c f b2 b3 b4 i0 hm
    refine T_of (fX11_lend_L43.eq_2 ..) ?_
    have u1 := CI_b c (k := 191) (j := 16) bd_191_16
    refine T_pick (by decide) (fun x2 e3 b4 => ?_)
    have b5 : x2 = (6 : Int) := by rw [← e3]; decide +kernel
    refine T_ite (fun h6 => ?_) (fun h6 => ?_)
    · exact hk s a2 a3 c f (by omega) (by omega) i0
    · refine T_if1 (by decide +kernel) ?_
      refine T_let 220 (by decide +kernel) ?_
      refine T_if1 (by decide +kernel) ?_
      refine T_let 191 (by decide +kernel) ?_
      refine T_if1 (by decide +kernel) ?_
      refine T_leq (fun x7 e8 => ?_)
      have u9 := CI_b c (k := 191) (j := 16) bd_191_16
      refine T_leq (fun x10 e11 => ?_)
      have w12 := z_wb e11
      refine T_if1 (by decide +kernel) ?_
      refine T_useI (sf_X5_longWith_220 hfu s c 0 x10 a4 (by omega) (by omega) (by omega)) (fun v18 s13 hq => ?_)
      obtain ⟨c14, f15, ⟨x17, rfl, b19, b20⟩⟩ := hq
      refine T_vI ?_
      have f16 := z_Fr.tr (R := R_X11_lend_1) f f15 rs_X5_longWith_220__X11_lend_1
      have t21 : s13 191 16 = s 191 16 := f15 191 16 (by decide)
      have r22 := z_V16.fr i0 (f15 1 16 (by decide)) (f15 191 16 (by decide)) (f15 6 6 (by decide)) (fun b => f15 195 b (nr_X5_longWith_220__195 b)) (fun b => f15 197 b (nr_X5_longWith_220__197 b))
      refine T_ite (fun h23 => ?_) (fun h23 => ?_)
      · exact sj_X11_lend_1_J88 hfu r0 s13 c14 f16 a1 a2 a3 a4 (by omega) (by omega) (by omega) (by omega) r22 (2147483647 - a4) (by omega) (fun s' v2 v3 v4 c' f' w2 w3 w4 z0 pg => ih s' v2 v3 v4 c' f' w2 w3 w4 z0 (by omega)) hk
      · exact sj_X11_lend_1_J88 hfu r0 s13 c14 f16 a1 a4 x17 a4 (by omega) (by omega) (by omega) (by omega) r22 (2147483647 - a4) (by omega) (fun s' v2 v3 v4 c' f' w2 w3 w4 z0 pg => ih s' v2 v3 v4 c' f' w2 w3 w4 z0 (by omega)) hk
theorem sj_X11_lend_1_J103 {fu : Nat} (hfu : 8589934592 ≤ fu) (r0 s : z_M) (c : z_CI s) (f : z_Fr R_X11_lend_1 r0 s) (t0 : Int) (d0 : -2147483648 ≤ t0 ∧ t0 ≤ 2147483647) (p0 : z_V16 s) : z_T (fX11_lend_J103 fu s t0) (P_X11_lend_1 r0) := by
  refine T_of (fX11_lend_J103.eq_1 ..) ?_
  have u1 := CI_b c (k := 191) (j := 16) bd_191_16
  exact T_ret ⟨c, f, p0, Or.inl (⟨t0, rfl, by omega, by omega⟩)⟩
theorem sf_X11_lend_1 {fu : Nat} (hfu : 8589934592 ≤ fu) (r0 : z_M) (c0 : z_CI r0) (a1 : Int) (b1 : -2147483648 ≤ a1 ∧ a1 ≤ 2147483647) (p0 : z_V16 r0) : z_T (fX11_lend fu r0 1 a1) (P_X11_lend_1 r0) := by
  refine T_of (fX11_lend.eq_1 ..) ?_
  refine T_if1 (by decide +kernel) ?_
  refine T_nw ?_ (fun h1 h2 => ?_)
  · exact T_ret ⟨CI_up c0 bd_1_15 (z_wb rfl).1, z_Fr.upf (R := R_X11_lend_1) z_Fr.rf (fun a b h => z_up_k h) (fun b h => z_up_j h) (Or.inr (Or.inr (Or.inr (Or.inr (Or.inr (Or.inr (Or.inr (Or.inl (⟨rfl, by decide⟩))))))))), z_V16.fr p0 (z_up_j (by decide)) (z_up_k (by decide)) (z_up_k (by decide)) (fun _ => z_up_k (by decide)) (fun _ => z_up_k (by decide)), Or.inr rfl⟩
  refine T_if1 (by decide +kernel) ?_
  refine T_useN (sf_X11_refresh_1 hfu r0 c0 p0) (fun v8 s3 hq => ?_)
  obtain ⟨c4, f5, o9, rfl⟩ := hq
  refine T_vN ?_
  have f6 := z_Fr.tr (R := R_X11_lend_1) z_Fr.rf f5 rs_X11_refresh_1__X11_lend_1
  have u12 := CI_b c4 (k := 191) (j := 16) bd_191_16
  refine T_pick (by decide) (fun x13 e14 b15 => ?_)
  have b16 : x13 = (0 : Int) := by rw [← e14]; decide +kernel
  refine T_if1 (by decide +kernel) ?_
  refine T_let 220 (by decide +kernel) ?_
  refine T_if1 (by decide +kernel) ?_
  refine T_let 191 (by decide +kernel) ?_
  refine T_if1 (by decide +kernel) ?_
  refine T_leq (fun x17 e18 => ?_)
  have u19 := CI_b c4 (k := 191) (j := 16) bd_191_16
  refine T_leq (fun x20 e21 => ?_)
  have w22 := z_wb e21
  refine T_if1 (by decide +kernel) ?_
  refine T_useI (sf_X5_longWith_220 hfu s3 c4 0 x20 x13 (by omega) (by omega) (by omega)) (fun v28 s23 hq => ?_)
  obtain ⟨c24, f25, ⟨x27, rfl, b29, b30⟩⟩ := hq
  refine T_vI ?_
  have f26 := z_Fr.tr (R := R_X11_lend_1) f6 f25 rs_X5_longWith_220__X11_lend_1
  have t31 : s23 191 16 = s3 191 16 := f25 191 16 (by decide)
  have r32 := z_U.fr o9 (f25 191 16 (by decide)) (f25 6 6 (by decide)) (fun b => f25 195 b (nr_X5_longWith_220__195 b)) (fun b => f25 197 b (nr_X5_longWith_220__197 b))
  refine T_leq (fun x33 e34 => ?_)
  have w35 := z_wb e34
  refine sl_X11_lend_1_L43 hfu r0 a1 (by omega) (fun s36 y39 y40 c37 f38 b41 b42 g43 => ?_) fu s23 x13 x27 x33 c24 f26 (by omega) (by omega) (by omega) (Or.inr r32) (by omega)
  have u44 := CI_b c37 (k := 191) (j := 16) bd_191_16
  refine T_ite (fun h45 => ?_) (fun h45 => ?_)
  · exact sj_X11_lend_1_J103 hfu r0 s36 c37 f38 y40 (by omega) g43
  · exact sj_X11_lend_1_J103 hfu r0 s36 c37 f38 y39 (by omega) g43
abbrev R_X3_nearestOn_258 (a b : Int) : Prop := False
abbrev P_X3_nearestOn_258 (r0 : z_M) : z_V → z_M → Prop := fun v s' => z_CI s' ∧ z_Fr R_X3_nearestOn_258 r0 s' ∧ (∃ x, v = vI x ∧ -2147483648 ≤ x ∧ x ≤ 2147483647)
theorem sj_X3_nearestOn_258_J88 {fu : Nat} (hfu : 8589934592 ≤ fu) (r0 s : z_M) (c : z_CI s) (f : z_Fr R_X3_nearestOn_258 r0 s) (a1 : Int) (a2 : Int) (a3 : Int) (a4 : Int) (a5 : Int) (b1 : -2147483648 ≤ a1 ∧ a1 ≤ 2147483647) (b2 : -2147483648 ≤ a2 ∧ a2 ≤ 2147483647) (b3 : -2147483648 ≤ a3 ∧ a3 ≤ 2147483647) (b4 : -2147483648 ≤ a4 ∧ a4 ≤ 2147483647) (b5 : -2147483648 ≤ a5 ∧ a5 ≤ 2147483646) (M : Int) (pm : 2147483647 - a5 ≤ M) {r : z_M → Int → Int → Int → z_O} {k : z_M → Int → z_O} (hr : ∀ (s' : z_M) (v3 : Int) (v4 : Int) (v5 : Int), z_CI s' → z_Fr R_X3_nearestOn_258 r0 s' → (-2147483648 ≤ v3 ∧ v3 ≤ 2147483647) → (-2147483648 ≤ v4 ∧ v4 ≤ 2147483647) → (-2147483648 ≤ v5 ∧ v5 ≤ 2147483647) → (2147483647 - v5 < M) → z_T (r s' v3 v4 v5) (P_X3_nearestOn_258 r0)) (hk : ∀ (s' : z_M) (v3 : Int), z_CI s' → z_Fr R_X3_nearestOn_258 r0 s' → (-2147483648 ≤ v3 ∧ v3 ≤ 2147483647) → z_T (k s' v3) (P_X3_nearestOn_258 r0)) : z_T (fX3_nearestOn_J88 fu s 258 a1 a2 a3 a4 a5 r k) (P_X3_nearestOn_258 r0) := by
  refine T_of (fX3_nearestOn_J88.eq_1 ..) ?_
  refine T_leq (fun x1 e2 => ?_)
  have w3 := z_wb e2
  exact hr s a3 a4 x1 c f (by omega) (by omega) (by omega) (by omega)
theorem sj_X3_nearestOn_258_J72 {fu : Nat} (hfu : 8589934592 ≤ fu) (r0 s : z_M) (c : z_CI s) (f : z_Fr R_X3_nearestOn_258 r0 s) (a1 : Int) (a2 : Int) (a3 : Int) (a5 : Int) (a6 : Int) (b1 : -2147483648 ≤ a1 ∧ a1 ≤ 2147483647) (b2 : -2147483648 ≤ a2 ∧ a2 ≤ 2147483647) (b3 : -2147483648 ≤ a3 ∧ a3 ≤ 2147483647) (b5 : -2147483648 ≤ a5 ∧ a5 ≤ 2147483646) (b6 : -2147483648 ≤ a6 ∧ a6 ≤ 2147483647) (M : Int) (pm : 2147483647 - a5 ≤ M) {r : z_M → Int → Int → Int → z_O} {k : z_M → Int → z_O} (hr : ∀ (s' : z_M) (v3 : Int) (v4 : Int) (v5 : Int), z_CI s' → z_Fr R_X3_nearestOn_258 r0 s' → (-2147483648 ≤ v3 ∧ v3 ≤ 2147483647) → (-2147483648 ≤ v4 ∧ v4 ≤ 2147483647) → (-2147483648 ≤ v5 ∧ v5 ≤ 2147483647) → (2147483647 - v5 < M) → z_T (r s' v3 v4 v5) (P_X3_nearestOn_258 r0)) (hk : ∀ (s' : z_M) (v3 : Int), z_CI s' → z_Fr R_X3_nearestOn_258 r0 s' → (-2147483648 ≤ v3 ∧ v3 ≤ 2147483647) → z_T (k s' v3) (P_X3_nearestOn_258 r0)) : z_T (fX3_nearestOn_J72 fu s 258 a1 a2 a3 a5 a6 r k) (P_X3_nearestOn_258 r0) := by
  refine T_of (fX3_nearestOn_J72.eq_1 ..) ?_
  refine T_leq (fun x1 e2 => ?_)
  have w3 := z_wr e2
  refine T_if1 (by decide +kernel) ?_
  refine T_useI (sf_X3_letterPlace_258 hfu s c a5 a2 x1 (by omega) (by omega) (by omega)) (fun v9 s4 hq => ?_)
  obtain ⟨c5, f6, ⟨x8, rfl, b10, b11⟩⟩ := hq
  refine T_vI ?_
  have f7 := z_Fr.tr (R := R_X3_nearestOn_258) f f6 (fun a b h => absurd h not_false)
  refine T_leq (fun x12 e13 => ?_)
  have w14 := z_wr e13
  exact sj_X3_nearestOn_258_J88 hfu r0 s4 c5 f7 a1 a2 a3 x12 a5 (by omega) (by omega) (by omega) (by omega) (by omega) M (by omega) (fun s' v3 v4 v5 c' f' w3 w4 w5 pg => hr s' v3 v4 v5 c' f' w3 w4 w5 (by omega)) hk
theorem sl_X3_nearestOn_258_L17 {fu : Nat} (hfu : 8589934592 ≤ fu) (r0 : z_M) (a1 : Int) (a2 : Int) (b1 : -2147483648 ≤ a1 ∧ a1 ≤ 2147483647) (b2 : -2147483648 ≤ a2 ∧ a2 ≤ 2147483647) {k : z_M → Int → z_O} (hk : ∀ (s' : z_M) (v3 : Int), z_CI s' → z_Fr R_X3_nearestOn_258 r0 s' → (-2147483648 ≤ v3 ∧ v3 ≤ 2147483647) → z_T (k s' v3) (P_X3_nearestOn_258 r0)) : ∀ (F : Nat) (s : z_M) (a3 : Int) (a4 : Int) (a5 : Int), z_CI s → z_Fr R_X3_nearestOn_258 r0 s → (-2147483648 ≤ a3 ∧ a3 ≤ 2147483647) → (-2147483648 ≤ a4 ∧ a4 ≤ 2147483647) → (-2147483648 ≤ a5 ∧ a5 ≤ 2147483647) → (2147483647 - a5 < (F : Int)) → z_T (fX3_nearestOn_L17 fu 258 a1 a2 F s a3 a4 a5 k) (P_X3_nearestOn_258 r0) := by
  intro F
  induction F with
  | zero =>
    intro s a3 a4 a5 c f b3 b4 b5 hm
    exfalso; omega
  | succ F ih =>
    intro s a3 a4 a5 c f b3 b4 b5 hm
    refine T_of (fX3_nearestOn_L17.eq_2 ..) ?_
    refine T_if1 (by decide +kernel) ?_
    refine T_let 277 (by decide +kernel) ?_
    refine T_leq (fun x1 e2 => ?_)
    have w3 := z_wr e2
    refine T_if1 (by decide +kernel) ?_
    refine T_get (by decide +kernel) (c := 278) (by decide +kernel) bdr_278 (by decide) c (fun x4 e5 b6 w7 => ?_)
    have l8 : z_ln 277 = 201 := by decide +kernel
    refine T_ite (fun h9 => ?_) (fun h9 => ?_)
    · exact hk s a3 c f (by omega)
    · refine T_if1 (by decide +kernel) ?_
      refine T_let 279 (by decide +kernel) ?_
      refine T_if1 (by decide +kernel) ?_
      refine T_useI (sf_X0_letters_279 hfu s c a5 a2 (by omega) (by omega)) (fun v15 s10 hq => ?_)
      obtain ⟨c11, f12, ⟨x14, rfl, b16, b17⟩⟩ := hq
      refine T_vI ?_
      have f13 := z_Fr.tr (R := R_X3_nearestOn_258) f f12 (fun a b h => absurd h not_false)
      refine T_ite (fun h18 => ?_) (fun h18 => ?_)
      · exact sj_X3_nearestOn_258_J88 hfu r0 s10 c11 f13 a1 a2 a3 a4 a5 (by omega) (by omega) (by omega) (by omega) (by omega) (2147483647 - a5) (by omega) (fun s' v3 v4 v5 c' f' w3 w4 w5 pg => ih s' v3 v4 v5 c' f' w3 w4 w5 (by omega)) hk
      · refine T_ite (fun h19 => ?_) (fun h19 => ?_)
        · exact sj_X3_nearestOn_258_J72 hfu r0 s10 c11 f13 a1 a2 a3 a5 x14 (by omega) (by omega) (by omega) (by omega) (by omega) (2147483647 - a5) (by omega) (fun s' v3 v4 v5 c' f' w3 w4 w5 pg => ih s' v3 v4 v5 c' f' w3 w4 w5 (by omega)) hk
        · refine T_if1 (by decide +kernel) ?_
          refine T_useI (sf_X3_letterPlace_258 hfu s10 c11 a5 a2 0 (by omega) (by omega) (by omega)) (fun v25 s20 hq => ?_)
          obtain ⟨c21, f22, ⟨x24, rfl, b26, b27⟩⟩ := hq
          refine T_vI ?_
          have f23 := z_Fr.tr (R := R_X3_nearestOn_258) f13 f22 (fun a b h => absurd h not_false)
          refine T_leq (fun x28 e29 => ?_)
          have w30 := z_wr e29
          refine T_leq (fun x31 e32 => ?_)
          have w33 := z_minb a3 x28
          rw [e32] at w33
          exact sj_X3_nearestOn_258_J72 hfu r0 s20 c21 f23 a1 a2 x31 a5 x14 (by omega) (by omega) (by omega) (by omega) (by omega) (2147483647 - a5) (by omega) (fun s' v3 v4 v5 c' f' w3 w4 w5 pg => ih s' v3 v4 v5 c' f' w3 w4 w5 (by omega)) hk
theorem sf_X3_nearestOn_258 {fu : Nat} (hfu : 8589934592 ≤ fu) (r0 : z_M) (c0 : z_CI r0) (a1 : Int) (a2 : Int) (b1 : -2147483648 ≤ a1 ∧ a1 ≤ 2147483647) (b2 : -2147483648 ≤ a2 ∧ a2 ≤ 2147483647) : z_T (fX3_nearestOn fu r0 258 a1 a2) (P_X3_nearestOn_258 r0) := by
  refine T_of (fX3_nearestOn.eq_1 ..) ?_
  refine T_if1 (by decide +kernel) ?_
  refine T_let 277 (by decide +kernel) ?_
  refine T_if1 (by decide +kernel) ?_
  refine T_get (by decide +kernel) (c := 278) (by decide +kernel) bdr_278 (by decide) c0 (fun x1 e2 b3 w4 => ?_)
  have l5 : z_ln 277 = 201 := by decide +kernel
  refine sl_X3_nearestOn_258_L17 hfu r0 a1 a2 (by omega) (by omega) (fun s6 y9 c7 f8 b10 => ?_) fu r0 2147483647 2147483647 x1 c0 z_Fr.rf (by omega) (by omega) (by omega) (by omega)
  exact T_ret ⟨c7, f8, ⟨y9, rfl, by omega, by omega⟩⟩
abbrev R_X11_nearest_1 (a b : Int) : Prop := (193 ≤ a ∧ a ≤ 219) ∨ (222 ≤ a ∧ a ≤ 222) ∨ (225 ≤ a ∧ a ≤ 239) ∨ (242 ≤ a ∧ a ≤ 244) ∨ (248 ≤ a ∧ a ≤ 248) ∨ (260 ≤ a ∧ a ≤ 278) ∨ (281 ≤ a ∧ a ≤ 295) ∨ (a = 1 ∧ (b = 15 ∨ b = 16 ∨ b = 17 ∨ b = 18)) ∨ (a = 191 ∧ (b = 16 ∨ b = 17 ∨ b = 18)) ∨ (a = 220 ∧ (b = 4 ∨ b = 5)) ∨ (a = 223 ∧ (b = 9)) ∨ (a = 240 ∧ (b = 6)) ∨ (a = 279 ∧ (b = 9))
abbrev P_X11_nearest_1 (r0 : z_M) : z_V → z_M → Prop := fun v s' => z_CI s' ∧ z_Fr R_X11_nearest_1 r0 s' ∧ (z_V16 s') ∧ ((∃ x, v = vI x ∧ -2147483648 ≤ x ∧ x ≤ 2147483647) ∨ v = vX 1)
theorem rs_X11_refresh_1__X11_nearest_1 (a b : Int) (h : R_X11_refresh_1 a b) : R_X11_nearest_1 a b := (h.elim (fun h => (Or.inl (⟨by omega, by omega⟩))) (fun h => (h.elim (fun h => (Or.inr (Or.inl (⟨by omega, by omega⟩)))) (fun h => (h.elim (fun h => (Or.inr (Or.inr (Or.inl (⟨by omega, by omega⟩))))) (fun h => (h.elim (fun h => (Or.inr (Or.inr (Or.inr (Or.inl (⟨by omega, by omega⟩)))))) (fun h => (h.elim (fun h => (Or.inr (Or.inr (Or.inr (Or.inr (Or.inl (⟨by omega, by omega⟩))))))) (fun h => (h.elim (fun h => (Or.inr (Or.inr (Or.inr (Or.inr (Or.inr (Or.inl (⟨by omega, by omega⟩)))))))) (fun h => (h.elim (fun h => (Or.inr (Or.inr (Or.inr (Or.inr (Or.inr (Or.inr (Or.inl (⟨by omega, by omega⟩))))))))) (fun h => (h.elim (fun h => (Or.inr (Or.inr (Or.inr (Or.inr (Or.inr (Or.inr (Or.inr (Or.inl (⟨h.1, by omega⟩)))))))))) (fun h => (h.elim (fun h => (Or.inr (Or.inr (Or.inr (Or.inr (Or.inr (Or.inr (Or.inr (Or.inr (Or.inl (⟨h.1, by omega⟩))))))))))) (fun h => (h.elim (fun h => (Or.inr (Or.inr (Or.inr (Or.inr (Or.inr (Or.inr (Or.inr (Or.inr (Or.inr (Or.inl (⟨h.1, by omega⟩)))))))))))) (fun h => (h.elim (fun h => (Or.inr (Or.inr (Or.inr (Or.inr (Or.inr (Or.inr (Or.inr (Or.inr (Or.inr (Or.inr (Or.inl (⟨h.1, by omega⟩))))))))))))) (fun h => (h.elim (fun h => (Or.inr (Or.inr (Or.inr (Or.inr (Or.inr (Or.inr (Or.inr (Or.inr (Or.inr (Or.inr (Or.inr (Or.inl (⟨h.1, by omega⟩)))))))))))))) (fun h => (Or.inr (Or.inr (Or.inr (Or.inr (Or.inr (Or.inr (Or.inr (Or.inr (Or.inr (Or.inr (Or.inr (Or.inr (⟨h.1, by omega⟩)))))))))))))))))))))))))))))))))))))
theorem nr_X3_nearestOn_258__195 (b : Int) : ¬ R_X3_nearestOn_258 195 b := not_false
theorem nr_X3_nearestOn_258__197 (b : Int) : ¬ R_X3_nearestOn_258 197 b := not_false
theorem sj_X11_nearest_1_J69 {fu : Nat} (hfu : 8589934592 ≤ fu) (r0 s : z_M) (c : z_CI s) (f : z_Fr R_X11_nearest_1 r0 s) (a1 : Int) (a2 : Int) (a3 : Int) (a4 : Int) (b1 : -2147483648 ≤ a1 ∧ a1 ≤ 2147483647) (b2 : -2147483648 ≤ a2 ∧ a2 ≤ 2147483647) (b3 : -2147483648 ≤ a3 ∧ a3 ≤ 2147483647) (b4 : -2147483648 ≤ a4 ∧ a4 ≤ 2147483646) (p0 : z_V16 s) (M : Int) (pm : 2147483647 - a4 ≤ M) {r : z_M → Int → Int → Int → z_O} {k : z_M → Int → Int → z_O} (hr : ∀ (s' : z_M) (v2 : Int) (v3 : Int) (v4 : Int), z_CI s' → z_Fr R_X11_nearest_1 r0 s' → (-2147483648 ≤ v2 ∧ v2 ≤ 2147483647) → (-2147483648 ≤ v3 ∧ v3 ≤ 2147483647) → (-2147483648 ≤ v4 ∧ v4 ≤ 2147483647) → (z_V16 s') → (2147483647 - v4 < M) → z_T (r s' v2 v3 v4) (P_X11_nearest_1 r0)) (hk : ∀ (s' : z_M) (v2 : Int) (v3 : Int), z_CI s' → z_Fr R_X11_nearest_1 r0 s' → (-2147483648 ≤ v2 ∧ v2 ≤ 2147483647) → (-2147483648 ≤ v3 ∧ v3 ≤ 2147483647) → (z_V16 s') → z_T (k s' v2 v3) (P_X11_nearest_1 r0)) : z_T (fX11_nearest_J69 fu s 1 a1 a2 a3 a4 r k) (P_X11_nearest_1 r0) := by
  refine T_of (fX11_nearest_J69.eq_1 ..) ?_
  have u1 := CI_b c (k := 240) (j := 6) bd_240_6
  refine T_leq (fun x2 e3 => ?_)
  have w4 := z_wb e3
  exact hr s a2 a3 x2 c f (by omega) (by omega) (by omega) p0 (by omega)
theorem sl_X11_nearest_1_L20 {fu : Nat} (hfu : 8589934592 ≤ fu) (r0 : z_M) (a1 : Int) (b1 : -2147483648 ≤ a1 ∧ a1 ≤ 2147483647) {k : z_M → Int → Int → z_O} (hk : ∀ (s' : z_M) (v2 : Int) (v3 : Int), z_CI s' → z_Fr R_X11_nearest_1 r0 s' → (-2147483648 ≤ v2 ∧ v2 ≤ 2147483647) → (-2147483648 ≤ v3 ∧ v3 ≤ 2147483647) → (z_V16 s') → z_T (k s' v2 v3) (P_X11_nearest_1 r0)) : ∀ (F : Nat) (s : z_M) (a2 : Int) (a3 : Int) (a4 : Int), z_CI s → z_Fr R_X11_nearest_1 r0 s → (-2147483648 ≤ a2 ∧ a2 ≤ 2147483647) → (-2147483648 ≤ a3 ∧ a3 ≤ 2147483647) → (-2147483648 ≤ a4 ∧ a4 ≤ 2147483647) → (z_V16 s) → (2147483647 - a4 < (F : Int)) → z_T (fX11_nearest_L20 fu 1 a1 F s a2 a3 a4 k) (P_X11_nearest_1 r0) := by
  intro F
  induction F with
  | zero =>
    intro s a2 a3 a4 c f b2 b3 b4 i0 hm
    have u30 := CI_b c (k := 240) (j := 6) bd_240_6
    exfalso; omega
  | succ F ih =>
    intro s a2 a3 a4 c f b2 b3 b4 i0 hm
    refine T_of (fX11_nearest_L20.eq_2 ..) ?_
    have u1 := CI_b c (k := 240) (j := 6) bd_240_6
    refine T_if1 (by decide +kernel) ?_
    refine T_let 240 (by decide +kernel) ?_
    refine T_if1 (by decide +kernel) ?_
    refine T_leq (fun x2 e3 => ?_)
    have u4 := CI_b c (k := 240) (j := 6) bd_240_6
    refine T_ite (fun h5 => ?_) (fun h5 => ?_)
    · exact hk s a2 a3 c f (by omega) (by omega) i0
    · refine T_if1 (by decide +kernel) ?_
      refine T_let 258 (by decide +kernel) ?_
      refine T_if1 (by decide +kernel) ?_
      refine T_useI (sf_X3_nearestOn_258 hfu s c a4 0 (by omega) (by omega)) (fun v11 s6 hq => ?_)
      obtain ⟨c7, f8, ⟨x10, rfl, b12, b13⟩⟩ := hq
      refine T_vI ?_
      have f9 := z_Fr.tr (R := R_X11_nearest_1) f f8 (fun a b h => absurd h not_false)
      have t14 : s6 240 6 = s 240 6 := f8 240 6 (by decide)
      have r15 := z_V16.fr i0 (f8 1 16 (by decide)) (f8 191 16 (by decide)) (f8 6 6 (by decide)) (fun b => f8 195 b (nr_X3_nearestOn_258__195 b)) (fun b => f8 197 b (nr_X3_nearestOn_258__197 b))
      refine T_if1 (by decide +kernel) ?_
      refine T_let 258 (by decide +kernel) ?_
      refine T_if1 (by decide +kernel) ?_
      refine T_useI (sf_X3_nearestOn_258 hfu s6 c7 a4 1 (by omega) (by omega)) (fun v21 s16 hq => ?_)
      obtain ⟨c17, f18, ⟨x20, rfl, b22, b23⟩⟩ := hq
      refine T_vI ?_
      have f19 := z_Fr.tr (R := R_X11_nearest_1) f9 f18 (fun a b h => absurd h not_false)
      have t24 : s16 240 6 = s6 240 6 := f18 240 6 (by decide)
      have r25 := z_V16.fr r15 (f18 1 16 (by decide)) (f18 191 16 (by decide)) (f18 6 6 (by decide)) (fun b => f18 195 b (nr_X3_nearestOn_258__195 b)) (fun b => f18 197 b (nr_X3_nearestOn_258__197 b))
      refine T_leq (fun x26 e27 => ?_)
      have w28 := z_minb x10 x20
      rw [e27] at w28
      refine T_ite (fun h29 => ?_) (fun h29 => ?_)
      · exact sj_X11_nearest_1_J69 hfu r0 s16 c17 f19 a1 a2 a3 a4 (by omega) (by omega) (by omega) (by omega) r25 (2147483647 - a4) (by omega) (fun s' v2 v3 v4 c' f' w2 w3 w4 z0 pg => ih s' v2 v3 v4 c' f' w2 w3 w4 z0 (by omega)) hk
      · exact sj_X11_nearest_1_J69 hfu r0 s16 c17 f19 a1 x26 a4 a4 (by omega) (by omega) (by omega) (by omega) r25 (2147483647 - a4) (by omega) (fun s' v2 v3 v4 c' f' w2 w3 w4 z0 pg => ih s' v2 v3 v4 c' f' w2 w3 w4 z0 (by omega)) hk
theorem sj_X11_nearest_1_J94 {fu : Nat} (hfu : 8589934592 ≤ fu) (r0 s : z_M) (c : z_CI s) (f : z_Fr R_X11_nearest_1 r0 s) (t0 : Int) (d0 : -2147483648 ≤ t0 ∧ t0 ≤ 2147483647) (p0 : z_V16 s) : z_T (fX11_nearest_J94 fu s t0) (P_X11_nearest_1 r0) := by
  refine T_of (fX11_nearest_J94.eq_1 ..) ?_
  have u1 := CI_b c (k := 240) (j := 6) bd_240_6
  exact T_ret ⟨c, f, p0, Or.inl (⟨t0, rfl, by omega, by omega⟩)⟩
theorem sf_X11_nearest_1 {fu : Nat} (hfu : 8589934592 ≤ fu) (r0 : z_M) (c0 : z_CI r0) (a1 : Int) (b1 : -2147483648 ≤ a1 ∧ a1 ≤ 2147483647) (p0 : z_V16 r0) : z_T (fX11_nearest fu r0 1 a1) (P_X11_nearest_1 r0) := by
  refine T_of (fX11_nearest.eq_1 ..) ?_
  refine T_if1 (by decide +kernel) ?_
  refine T_nw ?_ (fun h1 h2 => ?_)
  · exact T_ret ⟨CI_up c0 bd_1_15 (z_wb rfl).1, z_Fr.upf (R := R_X11_nearest_1) z_Fr.rf (fun a b h => z_up_k h) (fun b h => z_up_j h) (Or.inr (Or.inr (Or.inr (Or.inr (Or.inr (Or.inr (Or.inr (Or.inl (⟨rfl, by decide⟩))))))))), z_V16.fr p0 (z_up_j (by decide)) (z_up_k (by decide)) (z_up_k (by decide)) (fun _ => z_up_k (by decide)) (fun _ => z_up_k (by decide)), Or.inr rfl⟩
  refine T_if1 (by decide +kernel) ?_
  refine T_useN (sf_X11_refresh_1 hfu r0 c0 p0) (fun v8 s3 hq => ?_)
  obtain ⟨c4, f5, o9, rfl⟩ := hq
  refine T_vN ?_
  have f6 := z_Fr.tr (R := R_X11_nearest_1) z_Fr.rf f5 rs_X11_refresh_1__X11_nearest_1
  have u12 := CI_b c4 (k := 240) (j := 6) bd_240_6
  refine sl_X11_nearest_1_L20 hfu r0 a1 (by omega) (fun s13 y16 y17 c14 f15 b18 b19 g20 => ?_) fu s3 2147483647 (-1) 0 c4 f6 (by omega) (by omega) (by omega) (Or.inr o9) (by omega)
  have u21 := CI_b c14 (k := 240) (j := 6) bd_240_6
  refine T_ite (fun h22 => ?_) (fun h22 => ?_)
  · refine T_ite (fun h23 => ?_) (fun h23 => ?_)
    · exact sj_X11_nearest_1_J94 hfu r0 s13 c14 f15 y16 (by omega) g20
    · exact sj_X11_nearest_1_J94 hfu r0 s13 c14 f15 999 (by omega) g20
  · exact T_ret ⟨c14, f15, g20, Or.inl (⟨y17, rfl, by omega, by omega⟩)⟩
abbrev R_X11_partner_1 (a b : Int) : Prop := (193 ≤ a ∧ a ≤ 219) ∨ (222 ≤ a ∧ a ≤ 222) ∨ (225 ≤ a ∧ a ≤ 239) ∨ (242 ≤ a ∧ a ≤ 244) ∨ (248 ≤ a ∧ a ≤ 248) ∨ (260 ≤ a ∧ a ≤ 278) ∨ (281 ≤ a ∧ a ≤ 295) ∨ (a = 1 ∧ (b = 14 ∨ b = 16 ∨ b = 17 ∨ b = 18)) ∨ (a = 191 ∧ (b = 16 ∨ b = 17 ∨ b = 18)) ∨ (a = 220 ∧ (b = 4 ∨ b = 5)) ∨ (a = 223 ∧ (b = 9)) ∨ (a = 240 ∧ (b = 6)) ∨ (a = 279 ∧ (b = 9))
abbrev P_X11_partner_1 (r0 : z_M) : z_V → z_M → Prop := fun v s' => z_CI s' ∧ z_Fr R_X11_partner_1 r0 s' ∧ (z_V16 s') ∧ ((∃ x, v = vI x ∧ -2147483648 ≤ x ∧ x ≤ 2147483647) ∨ v = vX 0)
theorem rs_X11_refresh_1__X11_partner_1 (a b : Int) (h : R_X11_refresh_1 a b) : R_X11_partner_1 a b := (h.elim (fun h => (Or.inl (⟨by omega, by omega⟩))) (fun h => (h.elim (fun h => (Or.inr (Or.inl (⟨by omega, by omega⟩)))) (fun h => (h.elim (fun h => (Or.inr (Or.inr (Or.inl (⟨by omega, by omega⟩))))) (fun h => (h.elim (fun h => (Or.inr (Or.inr (Or.inr (Or.inl (⟨by omega, by omega⟩)))))) (fun h => (h.elim (fun h => (Or.inr (Or.inr (Or.inr (Or.inr (Or.inl (⟨by omega, by omega⟩))))))) (fun h => (h.elim (fun h => (Or.inr (Or.inr (Or.inr (Or.inr (Or.inr (Or.inl (⟨by omega, by omega⟩)))))))) (fun h => (h.elim (fun h => (Or.inr (Or.inr (Or.inr (Or.inr (Or.inr (Or.inr (Or.inl (⟨by omega, by omega⟩))))))))) (fun h => (h.elim (fun h => (Or.inr (Or.inr (Or.inr (Or.inr (Or.inr (Or.inr (Or.inr (Or.inl (⟨h.1, by omega⟩)))))))))) (fun h => (h.elim (fun h => (Or.inr (Or.inr (Or.inr (Or.inr (Or.inr (Or.inr (Or.inr (Or.inr (Or.inl (⟨h.1, by omega⟩))))))))))) (fun h => (h.elim (fun h => (Or.inr (Or.inr (Or.inr (Or.inr (Or.inr (Or.inr (Or.inr (Or.inr (Or.inr (Or.inl (⟨h.1, by omega⟩)))))))))))) (fun h => (h.elim (fun h => (Or.inr (Or.inr (Or.inr (Or.inr (Or.inr (Or.inr (Or.inr (Or.inr (Or.inr (Or.inr (Or.inl (⟨h.1, by omega⟩))))))))))))) (fun h => (h.elim (fun h => (Or.inr (Or.inr (Or.inr (Or.inr (Or.inr (Or.inr (Or.inr (Or.inr (Or.inr (Or.inr (Or.inr (Or.inl (⟨h.1, by omega⟩)))))))))))))) (fun h => (Or.inr (Or.inr (Or.inr (Or.inr (Or.inr (Or.inr (Or.inr (Or.inr (Or.inr (Or.inr (Or.inr (Or.inr (⟨h.1, by omega⟩)))))))))))))))))))))))))))))))))))))
theorem sf_X11_partner_1 {fu : Nat} (hfu : 8589934592 ≤ fu) (r0 : z_M) (c0 : z_CI r0) (a1 : Int) (b1 : -2147483648 ≤ a1 ∧ a1 ≤ 2147483647) (p0 : z_V16 r0) : z_T (fX11_partner fu r0 1 a1) (P_X11_partner_1 r0) := by
  refine T_of (fX11_partner.eq_1 ..) ?_
  refine T_if1 (by decide +kernel) ?_
  refine T_useN (sf_X11_refresh_1 hfu r0 c0 p0) (fun v6 s1 hq => ?_)
  obtain ⟨c2, f3, o7, rfl⟩ := hq
  refine T_vN ?_
  have f4 := z_Fr.tr (R := R_X11_partner_1) z_Fr.rf f3 rs_X11_refresh_1__X11_partner_1
  have u10 := CI_b c2 (k := 191) (j := 16) bd_191_16
  refine T_if1 (by decide +kernel) ?_
  refine T_let 191 (by decide +kernel) ?_
  refine T_if1 (by decide +kernel) ?_
  refine T_leq (fun x11 e12 => ?_)
  have u13 := CI_b c2 (k := 191) (j := 16) bd_191_16
  refine T_if1 (by decide +kernel) ?_
  refine T_ne ?_ (fun h14 h15 => ?_)
  · exact T_ret ⟨CI_up c2 bd_1_14 (z_wb rfl).1, z_Fr.upf (R := R_X11_partner_1) f4 (fun a b h => z_up_k h) (fun b h => z_up_j h) (Or.inr (Or.inr (Or.inr (Or.inr (Or.inr (Or.inr (Or.inr (Or.inl (⟨rfl, by decide⟩))))))))), Or.inr (z_U.fr o7 (z_up_k (by decide)) (z_up_k (by decide)) (fun _ => z_up_k (by decide)) (fun _ => z_up_k (by decide))), Or.inr rfl⟩
  refine T_if1 (by decide +kernel) ?_
  refine T_let 191 (by decide +kernel) ?_
  refine T_if1 (by decide +kernel) ?_
  refine T_let 206 (by decide +kernel) ?_
  refine T_if1 (by decide +kernel) ?_
  refine T_get (by decide +kernel) (c := 207) (by decide +kernel) bdr_207 (by decide) c2 (fun x16 e17 b18 w19 => ?_)
  have l20 : z_ln 206 = 200 := by decide +kernel
  exact T_ret ⟨c2, f4, (Or.inr o7), Or.inl (⟨x16, rfl, by omega, by omega⟩)⟩
abbrev R_X11_side_1 (a b : Int) : Prop := (193 ≤ a ∧ a ≤ 219) ∨ (222 ≤ a ∧ a ≤ 222) ∨ (225 ≤ a ∧ a ≤ 239) ∨ (242 ≤ a ∧ a ≤ 244) ∨ (248 ≤ a ∧ a ≤ 248) ∨ (260 ≤ a ∧ a ≤ 278) ∨ (281 ≤ a ∧ a ≤ 295) ∨ (a = 1 ∧ (b = 14 ∨ b = 15 ∨ b = 16 ∨ b = 17 ∨ b = 18)) ∨ (a = 191 ∧ (b = 16 ∨ b = 17 ∨ b = 18)) ∨ (a = 220 ∧ (b = 4 ∨ b = 5)) ∨ (a = 223 ∧ (b = 9)) ∨ (a = 240 ∧ (b = 6)) ∨ (a = 279 ∧ (b = 9))
abbrev P_X11_side_1 (r0 : z_M) : z_V → z_M → Prop := fun v s' => z_CI s' ∧ z_Fr R_X11_side_1 r0 s' ∧ (z_V16 s') ∧ ((∃ x, v = vI x ∧ -2147483648 ≤ x ∧ x ≤ 2147483647) ∨ v = vX 0 ∨ v = vX 1)
theorem rs_X11_refresh_1__X11_side_1 (a b : Int) (h : R_X11_refresh_1 a b) : R_X11_side_1 a b := (h.elim (fun h => (Or.inl (⟨by omega, by omega⟩))) (fun h => (h.elim (fun h => (Or.inr (Or.inl (⟨by omega, by omega⟩)))) (fun h => (h.elim (fun h => (Or.inr (Or.inr (Or.inl (⟨by omega, by omega⟩))))) (fun h => (h.elim (fun h => (Or.inr (Or.inr (Or.inr (Or.inl (⟨by omega, by omega⟩)))))) (fun h => (h.elim (fun h => (Or.inr (Or.inr (Or.inr (Or.inr (Or.inl (⟨by omega, by omega⟩))))))) (fun h => (h.elim (fun h => (Or.inr (Or.inr (Or.inr (Or.inr (Or.inr (Or.inl (⟨by omega, by omega⟩)))))))) (fun h => (h.elim (fun h => (Or.inr (Or.inr (Or.inr (Or.inr (Or.inr (Or.inr (Or.inl (⟨by omega, by omega⟩))))))))) (fun h => (h.elim (fun h => (Or.inr (Or.inr (Or.inr (Or.inr (Or.inr (Or.inr (Or.inr (Or.inl (⟨h.1, by omega⟩)))))))))) (fun h => (h.elim (fun h => (Or.inr (Or.inr (Or.inr (Or.inr (Or.inr (Or.inr (Or.inr (Or.inr (Or.inl (⟨h.1, by omega⟩))))))))))) (fun h => (h.elim (fun h => (Or.inr (Or.inr (Or.inr (Or.inr (Or.inr (Or.inr (Or.inr (Or.inr (Or.inr (Or.inl (⟨h.1, by omega⟩)))))))))))) (fun h => (h.elim (fun h => (Or.inr (Or.inr (Or.inr (Or.inr (Or.inr (Or.inr (Or.inr (Or.inr (Or.inr (Or.inr (Or.inl (⟨h.1, by omega⟩))))))))))))) (fun h => (h.elim (fun h => (Or.inr (Or.inr (Or.inr (Or.inr (Or.inr (Or.inr (Or.inr (Or.inr (Or.inr (Or.inr (Or.inr (Or.inl (⟨h.1, by omega⟩)))))))))))))) (fun h => (Or.inr (Or.inr (Or.inr (Or.inr (Or.inr (Or.inr (Or.inr (Or.inr (Or.inr (Or.inr (Or.inr (Or.inr (⟨h.1, by omega⟩)))))))))))))))))))))))))))))))))))))
theorem nr_X3_marksBeside_258__195 (b : Int) : ¬ R_X3_marksBeside_258 195 b := not_false
theorem nr_X3_marksBeside_258__197 (b : Int) : ¬ R_X3_marksBeside_258 197 b := not_false
theorem sj_X11_side_1_J55 {fu : Nat} (hfu : 8589934592 ≤ fu) (r0 s : z_M) (c : z_CI s) (f : z_Fr R_X11_side_1 r0 s) (t0 : Int) (d0 : -2147483648 ≤ t0 ∧ t0 ≤ 2147483647) (p0 : z_V16 s) : z_T (fX11_side_J55 fu s t0) (P_X11_side_1 r0) := by
  refine T_of (fX11_side_J55.eq_1 ..) ?_
  have u1 := CI_b c (k := 240) (j := 6) bd_240_6
  exact T_ret ⟨c, f, p0, Or.inl (⟨t0, rfl, by omega, by omega⟩)⟩
theorem nr_X3_lettersBeside_258__195 (b : Int) : ¬ R_X3_lettersBeside_258 195 b := not_false
theorem nr_X3_lettersBeside_258__197 (b : Int) : ¬ R_X3_lettersBeside_258 197 b := not_false
theorem sf_X11_side_1 {fu : Nat} (hfu : 8589934592 ≤ fu) (r0 : z_M) (c0 : z_CI r0) (a1 : Int) (a2 : Int) (a3 : Int) (b1 : -2147483648 ≤ a1 ∧ a1 ≤ 2147483647) (b2 : -2147483648 ≤ a2 ∧ a2 ≤ 2147483647) (b3 : -2147483648 ≤ a3 ∧ a3 ≤ 2147483647) (p0 : z_V16 r0) : z_T (fX11_side fu r0 1 a1 a2 a3) (P_X11_side_1 r0) := by
  refine T_of (fX11_side.eq_1 ..) ?_
  refine T_if1 (by decide +kernel) ?_
  refine T_useN (sf_X11_refresh_1 hfu r0 c0 p0) (fun v6 s1 hq => ?_)
  obtain ⟨c2, f3, o7, rfl⟩ := hq
  refine T_vN ?_
  have f4 := z_Fr.tr (R := R_X11_side_1) z_Fr.rf f3 rs_X11_refresh_1__X11_side_1
  have u10 := CI_b c2 (k := 240) (j := 6) bd_240_6
  refine T_if1 (by decide +kernel) ?_
  refine T_let 240 (by decide +kernel) ?_
  refine T_if1 (by decide +kernel) ?_
  refine T_leq (fun x11 e12 => ?_)
  have u13 := CI_b c2 (k := 240) (j := 6) bd_240_6
  refine T_if1 (by decide +kernel) ?_
  refine T_ne ?_ (fun h14 h15 => ?_)
  · exact T_ret ⟨CI_up c2 bd_1_14 (z_wb rfl).1, z_Fr.upf (R := R_X11_side_1) f4 (fun a b h => z_up_k h) (fun b h => z_up_j h) (Or.inr (Or.inr (Or.inr (Or.inr (Or.inr (Or.inr (Or.inr (Or.inl (⟨rfl, by decide⟩))))))))), Or.inr (z_U.fr o7 (z_up_k (by decide)) (z_up_k (by decide)) (fun _ => z_up_k (by decide)) (fun _ => z_up_k (by decide))), Or.inr (Or.inl rfl)⟩
  refine T_if1 (by decide +kernel) ?_
  refine T_nw ?_ (fun h16 h17 => ?_)
  · exact T_ret ⟨CI_up c2 bd_1_15 (z_wb rfl).1, z_Fr.upf (R := R_X11_side_1) f4 (fun a b h => z_up_k h) (fun b h => z_up_j h) (Or.inr (Or.inr (Or.inr (Or.inr (Or.inr (Or.inr (Or.inr (Or.inl (⟨rfl, by decide⟩))))))))), Or.inr (z_U.fr o7 (z_up_k (by decide)) (z_up_k (by decide)) (fun _ => z_up_k (by decide)) (fun _ => z_up_k (by decide))), Or.inr (Or.inr rfl)⟩
  refine T_if1 (by decide +kernel) ?_
  refine T_nw ?_ (fun h18 h19 => ?_)
  · exact T_ret ⟨CI_up c2 bd_1_15 (z_wb rfl).1, z_Fr.upf (R := R_X11_side_1) f4 (fun a b h => z_up_k h) (fun b h => z_up_j h) (Or.inr (Or.inr (Or.inr (Or.inr (Or.inr (Or.inr (Or.inr (Or.inl (⟨rfl, by decide⟩))))))))), Or.inr (z_U.fr o7 (z_up_k (by decide)) (z_up_k (by decide)) (fun _ => z_up_k (by decide)) (fun _ => z_up_k (by decide))), Or.inr (Or.inr rfl)⟩
  refine T_ite (fun h20 => ?_) (fun h20 => ?_)
  · refine T_if1 (by decide +kernel) ?_
    refine T_let 258 (by decide +kernel) ?_
    refine T_if1 (by decide +kernel) ?_
    refine T_useI (sf_X3_marksBeside_258 hfu s1 c2 a1 a2 (by omega) (by omega)) (fun v26 s21 hq => ?_)
    obtain ⟨c22, f23, ⟨x25, rfl, b27, b28⟩⟩ := hq
    refine T_vI ?_
    have f24 := z_Fr.tr (R := R_X11_side_1) f4 f23 (fun a b h => absurd h not_false)
    have t29 : s21 240 6 = s1 240 6 := f23 240 6 (by decide)
    have r30 := z_U.fr o7 (f23 191 16 (by decide)) (f23 6 6 (by decide)) (fun b => f23 195 b (nr_X3_marksBeside_258__195 b)) (fun b => f23 197 b (nr_X3_marksBeside_258__197 b))
    exact sj_X11_side_1_J55 hfu r0 s21 c22 f24 x25 (by omega) (Or.inr r30)
  · refine T_if1 (by decide +kernel) ?_
    refine T_let 258 (by decide +kernel) ?_
    refine T_if1 (by decide +kernel) ?_
    refine T_useI (sf_X3_lettersBeside_258 hfu s1 c2 a1 a2 (by omega) (by omega)) (fun v36 s31 hq => ?_)
    obtain ⟨c32, f33, ⟨x35, rfl, b37, b38⟩⟩ := hq
    refine T_vI ?_
    have f34 := z_Fr.tr (R := R_X11_side_1) f4 f33 (fun a b h => absurd h not_false)
    have t39 : s31 240 6 = s1 240 6 := f33 240 6 (by decide)
    have r40 := z_U.fr o7 (f33 191 16 (by decide)) (f33 6 6 (by decide)) (fun b => f33 195 b (nr_X3_lettersBeside_258__195 b)) (fun b => f33 197 b (nr_X3_lettersBeside_258__197 b))
    exact sj_X11_side_1_J55 hfu r0 s31 c32 f34 x35 (by omega) (Or.inr r40)
abbrev R_X11_refreshSides_1 (a b : Int) : Prop := (298 ≤ a ∧ a ≤ 308) ∨ (a = 1 ∧ (b = 18)) ∨ (a = 296 ∧ (b = 9))
abbrev P_X11_refreshSides_1 (r0 : z_M) : z_V → z_M → Prop := fun v s' => z_CI s' ∧ z_Fr R_X11_refreshSides_1 r0 s' ∧ (z_V16 s') ∧ (v = vN)
theorem sj_X11_refreshSides_1_J19 {fu : Nat} (hfu : 8589934592 ≤ fu) (r0 s : z_M) (c : z_CI s) (f : z_Fr R_X11_refreshSides_1 r0 s) (p0 : z_V16 s) : z_T (fX11_refreshSides_J19 fu s) (P_X11_refreshSides_1 r0) := by
  refine T_of (fX11_refreshSides_J19.eq_1 ..) ?_
  have u1 := CI_b c (k := 1) (j := 18) bd_1_18
  exact T_ret ⟨c, f, p0, rfl⟩
theorem rs_X8_build_296__X11_refreshSides_1 (a b : Int) (h : R_X8_build_296 a b) : R_X11_refreshSides_1 a b := (h.elim (fun h => (Or.inl (⟨by omega, by omega⟩))) (fun h => (Or.inr (Or.inr (⟨h.1, by omega⟩)))))
theorem nr_X8_build_296__195 (b : Int) : ¬ R_X8_build_296 195 b := by
  unfold R_X8_build_296; omega
theorem nr_X8_build_296__197 (b : Int) : ¬ R_X8_build_296 197 b := by
  unfold R_X8_build_296; omega
theorem sf_X11_refreshSides_1 {fu : Nat} (hfu : 8589934592 ≤ fu) (r0 : z_M) (c0 : z_CI r0) (p0 : z_V16 r0) : z_T (fX11_refreshSides fu r0 1) (P_X11_refreshSides_1 r0) := by
  refine T_of (fX11_refreshSides.eq_1 ..) ?_
  refine T_if1 (by decide +kernel) ?_
  refine T_leq (fun x1 e2 => ?_)
  have u3 := CI_b c0 (k := 1) (j := 18) bd_1_18
  refine T_ite (fun h4 => ?_) (fun h4 => ?_)
  · exact sj_X11_refreshSides_1_J19 hfu r0 r0 c0 z_Fr.rf p0
  · refine T_if1 (by decide +kernel) ?_
    refine T_let 296 (by decide +kernel) ?_
    refine T_if1 (by decide +kernel) ?_
    refine T_useN (sf_X8_build_296 hfu r0 c0) (fun v10 s5 hq => ?_)
    obtain ⟨c6, f7, rfl⟩ := hq
    refine T_vN ?_
    have f8 := z_Fr.tr (R := R_X11_refreshSides_1) z_Fr.rf f7 rs_X8_build_296__X11_refreshSides_1
    have t13 : s5 1 18 = r0 1 18 := f7 1 18 (by decide)
    have r14 := z_V16.fr p0 (f7 1 16 (by decide)) (f7 191 16 (by decide)) (f7 6 6 (by decide)) (fun b => f7 195 b (nr_X8_build_296__195 b)) (fun b => f7 197 b (nr_X8_build_296__197 b))
    refine T_if1 ⟨(by decide +kernel), by unfold z_bl; omega⟩ ?_
    refine T_upg c6 bd_1_18 (by omega) (fun s15 c16 g18 g19 e20 => ?_)
    have f17 := z_Fr.upf (R := R_X11_refreshSides_1) f8 g18 g19 (Or.inr (Or.inl (⟨rfl, by decide⟩)))
    have r21 := z_V16.fr r14 (g19 16 (by decide)) (g18 191 16 (by decide)) (g18 6 6 (by decide)) (fun b => g18 195 b (by decide)) (fun b => g18 197 b (by decide))
    exact sj_X11_refreshSides_1_J19 hfu r0 s15 c16 f17 r21
abbrev R_X11_gutter_1 (a b : Int) : Prop := (193 ≤ a ∧ a ≤ 219) ∨ (222 ≤ a ∧ a ≤ 222) ∨ (225 ≤ a ∧ a ≤ 239) ∨ (242 ≤ a ∧ a ≤ 244) ∨ (248 ≤ a ∧ a ≤ 248) ∨ (260 ≤ a ∧ a ≤ 278) ∨ (281 ≤ a ∧ a ≤ 295) ∨ (298 ≤ a ∧ a ≤ 308) ∨ (a = 1 ∧ (b = 14 ∨ b = 16 ∨ b = 17 ∨ b = 18)) ∨ (a = 191 ∧ (b = 16 ∨ b = 17 ∨ b = 18)) ∨ (a = 220 ∧ (b = 4 ∨ b = 5)) ∨ (a = 223 ∧ (b = 9)) ∨ (a = 240 ∧ (b = 6)) ∨ (a = 279 ∧ (b = 9)) ∨ (a = 296 ∧ (b = 9))
abbrev P_X11_gutter_1 (r0 : z_M) : z_V → z_M → Prop := fun v s' => z_CI s' ∧ z_Fr R_X11_gutter_1 r0 s' ∧ (z_V16 s') ∧ ((∃ x, v = vI x ∧ -2147483648 ≤ x ∧ x ≤ 2147483647) ∨ v = vX 0)
theorem rs_X11_refresh_1__X11_gutter_1 (a b : Int) (h : R_X11_refresh_1 a b) : R_X11_gutter_1 a b := (h.elim (fun h => (Or.inl (⟨by omega, by omega⟩))) (fun h => (h.elim (fun h => (Or.inr (Or.inl (⟨by omega, by omega⟩)))) (fun h => (h.elim (fun h => (Or.inr (Or.inr (Or.inl (⟨by omega, by omega⟩))))) (fun h => (h.elim (fun h => (Or.inr (Or.inr (Or.inr (Or.inl (⟨by omega, by omega⟩)))))) (fun h => (h.elim (fun h => (Or.inr (Or.inr (Or.inr (Or.inr (Or.inl (⟨by omega, by omega⟩))))))) (fun h => (h.elim (fun h => (Or.inr (Or.inr (Or.inr (Or.inr (Or.inr (Or.inl (⟨by omega, by omega⟩)))))))) (fun h => (h.elim (fun h => (Or.inr (Or.inr (Or.inr (Or.inr (Or.inr (Or.inr (Or.inl (⟨by omega, by omega⟩))))))))) (fun h => (h.elim (fun h => (Or.inr (Or.inr (Or.inr (Or.inr (Or.inr (Or.inr (Or.inr (Or.inr (Or.inl (⟨h.1, by omega⟩))))))))))) (fun h => (h.elim (fun h => (Or.inr (Or.inr (Or.inr (Or.inr (Or.inr (Or.inr (Or.inr (Or.inr (Or.inr (Or.inl (⟨h.1, by omega⟩)))))))))))) (fun h => (h.elim (fun h => (Or.inr (Or.inr (Or.inr (Or.inr (Or.inr (Or.inr (Or.inr (Or.inr (Or.inr (Or.inr (Or.inl (⟨h.1, by omega⟩))))))))))))) (fun h => (h.elim (fun h => (Or.inr (Or.inr (Or.inr (Or.inr (Or.inr (Or.inr (Or.inr (Or.inr (Or.inr (Or.inr (Or.inr (Or.inl (⟨h.1, by omega⟩)))))))))))))) (fun h => (h.elim (fun h => (Or.inr (Or.inr (Or.inr (Or.inr (Or.inr (Or.inr (Or.inr (Or.inr (Or.inr (Or.inr (Or.inr (Or.inr (Or.inl (⟨h.1, by omega⟩))))))))))))))) (fun h => (Or.inr (Or.inr (Or.inr (Or.inr (Or.inr (Or.inr (Or.inr (Or.inr (Or.inr (Or.inr (Or.inr (Or.inr (Or.inr (Or.inl (⟨h.1, by omega⟩)))))))))))))))))))))))))))))))))))))))
theorem rs_X11_refreshSides_1__X11_gutter_1 (a b : Int) (h : R_X11_refreshSides_1 a b) : R_X11_gutter_1 a b := (h.elim (fun h => (Or.inr (Or.inr (Or.inr (Or.inr (Or.inr (Or.inr (Or.inr (Or.inl (⟨by omega, by omega⟩)))))))))) (fun h => (h.elim (fun h => (Or.inr (Or.inr (Or.inr (Or.inr (Or.inr (Or.inr (Or.inr (Or.inr (Or.inl (⟨h.1, by omega⟩))))))))))) (fun h => (Or.inr (Or.inr (Or.inr (Or.inr (Or.inr (Or.inr (Or.inr (Or.inr (Or.inr (Or.inr (Or.inr (Or.inr (Or.inr (Or.inr (⟨h.1, by omega⟩)))))))))))))))))))
theorem nr_X11_refreshSides_1__195 (b : Int) : ¬ R_X11_refreshSides_1 195 b := by
  unfold R_X11_refreshSides_1; omega
theorem nr_X11_refreshSides_1__197 (b : Int) : ¬ R_X11_refreshSides_1 197 b := by
  unfold R_X11_refreshSides_1; omega
theorem sj_X11_gutter_1_J48 {fu : Nat} (hfu : 8589934592 ≤ fu) (r0 s : z_M) (c : z_CI s) (f : z_Fr R_X11_gutter_1 r0 s) (t0 : Int) (d0 : -2147483648 ≤ t0 ∧ t0 ≤ 2147483647) (p0 : z_V16 s) : z_T (fX11_gutter_J48 fu s t0) (P_X11_gutter_1 r0) := by
  refine T_of (fX11_gutter_J48.eq_1 ..) ?_
  have u1 := CI_b c (k := 240) (j := 6) bd_240_6
  exact T_ret ⟨c, f, p0, Or.inl (⟨t0, rfl, by omega, by omega⟩)⟩
theorem sf_X11_gutter_1 {fu : Nat} (hfu : 8589934592 ≤ fu) (r0 : z_M) (c0 : z_CI r0) (a1 : Int) (b1 : -2147483648 ≤ a1 ∧ a1 ≤ 2147483647) (p0 : z_V16 r0) : z_T (fX11_gutter fu r0 1 a1) (P_X11_gutter_1 r0) := by
  refine T_of (fX11_gutter.eq_1 ..) ?_
  refine T_if1 (by decide +kernel) ?_
  refine T_useN (sf_X11_refresh_1 hfu r0 c0 p0) (fun v6 s1 hq => ?_)
  obtain ⟨c2, f3, o7, rfl⟩ := hq
  refine T_vN ?_
  have f4 := z_Fr.tr (R := R_X11_gutter_1) z_Fr.rf f3 rs_X11_refresh_1__X11_gutter_1
  have u10 := CI_b c2 (k := 240) (j := 6) bd_240_6
  refine T_if1 (by decide +kernel) ?_
  refine T_let 240 (by decide +kernel) ?_
  refine T_if1 (by decide +kernel) ?_
  refine T_leq (fun x11 e12 => ?_)
  have u13 := CI_b c2 (k := 240) (j := 6) bd_240_6
  refine T_if1 (by decide +kernel) ?_
  refine T_ne ?_ (fun h14 h15 => ?_)
  · exact T_ret ⟨CI_up c2 bd_1_14 (z_wb rfl).1, z_Fr.upf (R := R_X11_gutter_1) f4 (fun a b h => z_up_k h) (fun b h => z_up_j h) (Or.inr (Or.inr (Or.inr (Or.inr (Or.inr (Or.inr (Or.inr (Or.inr (Or.inl (⟨rfl, by decide⟩)))))))))), Or.inr (z_U.fr o7 (z_up_k (by decide)) (z_up_k (by decide)) (fun _ => z_up_k (by decide)) (fun _ => z_up_k (by decide))), Or.inr rfl⟩
  refine T_if1 (by decide +kernel) ?_
  refine T_useN (sf_X11_refreshSides_1 hfu s1 c2 (Or.inr o7)) (fun v21 s16 hq => ?_)
  obtain ⟨c17, f18, o22, rfl⟩ := hq
  refine T_vN ?_
  have f19 := z_Fr.tr (R := R_X11_gutter_1) f4 f18 rs_X11_refreshSides_1__X11_gutter_1
  have t25 : s16 240 6 = s1 240 6 := f18 240 6 (by decide)
  have r26 := z_U.fr o7 (f18 191 16 (by decide)) (f18 6 6 (by decide)) (fun b => f18 195 b (nr_X11_refreshSides_1__195 b)) (fun b => f18 197 b (nr_X11_refreshSides_1__197 b))
  refine T_if1 (by decide +kernel) ?_
  refine T_let 240 (by decide +kernel) ?_
  refine T_if1 (by decide +kernel) ?_
  refine T_leq (fun x27 e28 => ?_)
  have u29 := CI_b c17 (k := 240) (j := 6) bd_240_6
  refine T_leq (fun x30 e31 => ?_)
  have w32 := z_wr e31
  refine T_ite (fun h33 => ?_) (fun h33 => ?_)
  · refine T_if1 (by decide +kernel) ?_
    refine T_let 296 (by decide +kernel) ?_
    refine T_if1 (by decide +kernel) ?_
    refine T_let 301 (by decide +kernel) ?_
    refine T_if1 (by decide +kernel) ?_
    refine T_get (by decide +kernel) (c := 302) (by decide +kernel) bdr_302 (by decide) c17 (fun x34 e35 b36 w37 => ?_)
    have l38 : z_ln 301 = 200 := by decide +kernel
    exact sj_X11_gutter_1_J48 hfu r0 s16 c17 f19 x34 (by omega) o22
  · exact sj_X11_gutter_1_J48 hfu r0 s16 c17 f19 (-1) (by omega) o22
abbrev R_X11_clash_1 (a b : Int) : Prop := (193 ≤ a ∧ a ≤ 219) ∨ (222 ≤ a ∧ a ≤ 222) ∨ (225 ≤ a ∧ a ≤ 239) ∨ (242 ≤ a ∧ a ≤ 244) ∨ (248 ≤ a ∧ a ≤ 248) ∨ (260 ≤ a ∧ a ≤ 278) ∨ (281 ≤ a ∧ a ≤ 295) ∨ (298 ≤ a ∧ a ≤ 308) ∨ (a = 1 ∧ (b = 14 ∨ b = 16 ∨ b = 17 ∨ b = 18)) ∨ (a = 191 ∧ (b = 16 ∨ b = 17 ∨ b = 18)) ∨ (a = 220 ∧ (b = 4 ∨ b = 5)) ∨ (a = 223 ∧ (b = 9)) ∨ (a = 240 ∧ (b = 6)) ∨ (a = 279 ∧ (b = 9)) ∨ (a = 296 ∧ (b = 9))
abbrev P_X11_clash_1 (r0 : z_M) : z_V → z_M → Prop := fun v s' => z_CI s' ∧ z_Fr R_X11_clash_1 r0 s' ∧ (z_V16 s') ∧ ((∃ x, v = vI x ∧ -2147483648 ≤ x ∧ x ≤ 2147483647) ∨ v = vX 0)
theorem rs_X11_refresh_1__X11_clash_1 (a b : Int) (h : R_X11_refresh_1 a b) : R_X11_clash_1 a b := (h.elim (fun h => (Or.inl (⟨by omega, by omega⟩))) (fun h => (h.elim (fun h => (Or.inr (Or.inl (⟨by omega, by omega⟩)))) (fun h => (h.elim (fun h => (Or.inr (Or.inr (Or.inl (⟨by omega, by omega⟩))))) (fun h => (h.elim (fun h => (Or.inr (Or.inr (Or.inr (Or.inl (⟨by omega, by omega⟩)))))) (fun h => (h.elim (fun h => (Or.inr (Or.inr (Or.inr (Or.inr (Or.inl (⟨by omega, by omega⟩))))))) (fun h => (h.elim (fun h => (Or.inr (Or.inr (Or.inr (Or.inr (Or.inr (Or.inl (⟨by omega, by omega⟩)))))))) (fun h => (h.elim (fun h => (Or.inr (Or.inr (Or.inr (Or.inr (Or.inr (Or.inr (Or.inl (⟨by omega, by omega⟩))))))))) (fun h => (h.elim (fun h => (Or.inr (Or.inr (Or.inr (Or.inr (Or.inr (Or.inr (Or.inr (Or.inr (Or.inl (⟨h.1, by omega⟩))))))))))) (fun h => (h.elim (fun h => (Or.inr (Or.inr (Or.inr (Or.inr (Or.inr (Or.inr (Or.inr (Or.inr (Or.inr (Or.inl (⟨h.1, by omega⟩)))))))))))) (fun h => (h.elim (fun h => (Or.inr (Or.inr (Or.inr (Or.inr (Or.inr (Or.inr (Or.inr (Or.inr (Or.inr (Or.inr (Or.inl (⟨h.1, by omega⟩))))))))))))) (fun h => (h.elim (fun h => (Or.inr (Or.inr (Or.inr (Or.inr (Or.inr (Or.inr (Or.inr (Or.inr (Or.inr (Or.inr (Or.inr (Or.inl (⟨h.1, by omega⟩)))))))))))))) (fun h => (h.elim (fun h => (Or.inr (Or.inr (Or.inr (Or.inr (Or.inr (Or.inr (Or.inr (Or.inr (Or.inr (Or.inr (Or.inr (Or.inr (Or.inl (⟨h.1, by omega⟩))))))))))))))) (fun h => (Or.inr (Or.inr (Or.inr (Or.inr (Or.inr (Or.inr (Or.inr (Or.inr (Or.inr (Or.inr (Or.inr (Or.inr (Or.inr (Or.inl (⟨h.1, by omega⟩)))))))))))))))))))))))))))))))))))))))
theorem rs_X11_refreshSides_1__X11_clash_1 (a b : Int) (h : R_X11_refreshSides_1 a b) : R_X11_clash_1 a b := (h.elim (fun h => (Or.inr (Or.inr (Or.inr (Or.inr (Or.inr (Or.inr (Or.inr (Or.inl (⟨by omega, by omega⟩)))))))))) (fun h => (h.elim (fun h => (Or.inr (Or.inr (Or.inr (Or.inr (Or.inr (Or.inr (Or.inr (Or.inr (Or.inl (⟨h.1, by omega⟩))))))))))) (fun h => (Or.inr (Or.inr (Or.inr (Or.inr (Or.inr (Or.inr (Or.inr (Or.inr (Or.inr (Or.inr (Or.inr (Or.inr (Or.inr (Or.inr (⟨h.1, by omega⟩)))))))))))))))))))
theorem sf_X11_clash_1 {fu : Nat} (hfu : 8589934592 ≤ fu) (r0 : z_M) (c0 : z_CI r0) (a1 : Int) (b1 : -2147483648 ≤ a1 ∧ a1 ≤ 2147483647) (p0 : z_V16 r0) : z_T (fX11_clash fu r0 1 a1) (P_X11_clash_1 r0) := by
  refine T_of (fX11_clash.eq_1 ..) ?_
  refine T_if1 (by decide +kernel) ?_
  refine T_useN (sf_X11_refresh_1 hfu r0 c0 p0) (fun v6 s1 hq => ?_)
  obtain ⟨c2, f3, o7, rfl⟩ := hq
  refine T_vN ?_
  have f4 := z_Fr.tr (R := R_X11_clash_1) z_Fr.rf f3 rs_X11_refresh_1__X11_clash_1
  have u10 := CI_b c2 (k := 240) (j := 6) bd_240_6
  refine T_if1 (by decide +kernel) ?_
  refine T_let 240 (by decide +kernel) ?_
  refine T_if1 (by decide +kernel) ?_
  refine T_leq (fun x11 e12 => ?_)
  have u13 := CI_b c2 (k := 240) (j := 6) bd_240_6
  refine T_if1 (by decide +kernel) ?_
  refine T_ne ?_ (fun h14 h15 => ?_)
  · exact T_ret ⟨CI_up c2 bd_1_14 (z_wb rfl).1, z_Fr.upf (R := R_X11_clash_1) f4 (fun a b h => z_up_k h) (fun b h => z_up_j h) (Or.inr (Or.inr (Or.inr (Or.inr (Or.inr (Or.inr (Or.inr (Or.inr (Or.inl (⟨rfl, by decide⟩)))))))))), Or.inr (z_U.fr o7 (z_up_k (by decide)) (z_up_k (by decide)) (fun _ => z_up_k (by decide)) (fun _ => z_up_k (by decide))), Or.inr rfl⟩
  refine T_if1 (by decide +kernel) ?_
  refine T_useN (sf_X11_refreshSides_1 hfu s1 c2 (Or.inr o7)) (fun v21 s16 hq => ?_)
  obtain ⟨c17, f18, o22, rfl⟩ := hq
  refine T_vN ?_
  have f19 := z_Fr.tr (R := R_X11_clash_1) f4 f18 rs_X11_refreshSides_1__X11_clash_1
  have t25 : s16 240 6 = s1 240 6 := f18 240 6 (by decide)
  have r26 := z_U.fr o7 (f18 191 16 (by decide)) (f18 6 6 (by decide)) (fun b => f18 195 b (nr_X11_refreshSides_1__195 b)) (fun b => f18 197 b (nr_X11_refreshSides_1__197 b))
  refine T_if1 (by decide +kernel) ?_
  refine T_let 296 (by decide +kernel) ?_
  refine T_if1 (by decide +kernel) ?_
  refine T_let 299 (by decide +kernel) ?_
  refine T_if1 (by decide +kernel) ?_
  refine T_get (by decide +kernel) (c := 300) (by decide +kernel) bdr_300 (by decide) c17 (fun x27 e28 b29 w30 => ?_)
  have l31 : z_ln 299 = 200 := by decide +kernel
  exact T_ret ⟨c17, f19, o22, Or.inl (⟨x27, rfl, by omega, by omega⟩)⟩
abbrev R_X8_thickOf_296 (a b : Int) : Prop := False
abbrev P_X8_thickOf_296 (r0 : z_M) : z_V → z_M → Prop := fun v s' => z_CI s' ∧ z_Fr R_X8_thickOf_296 r0 s' ∧ (∃ x, v = vI x ∧ -2147483648 ≤ x ∧ x ≤ 2147483647)
theorem sf_X8_thickOf_296 {fu : Nat} (hfu : 8589934592 ≤ fu) (r0 : z_M) (c0 : z_CI r0) (a1 : Int) (a2 : Int) (b1 : -2147483648 ≤ a1 ∧ a1 ≤ 2147483647) (b2 : -2147483648 ≤ a2 ∧ a2 ≤ 2147483647) : z_T (fX8_thickOf fu r0 296 a1 a2) (P_X8_thickOf_296 r0) := by
  refine T_of (fX8_thickOf.eq_1 ..) ?_
  refine T_if1 (by decide +kernel) ?_
  refine T_let 303 (by decide +kernel) ?_
  refine T_if1 (by decide +kernel) ?_
  refine T_get (by decide +kernel) (c := 304) (by decide +kernel) bdr_304 (by decide) c0 (fun x1 e2 b3 w4 => ?_)
  have l5 : z_ln 303 = 201 := by decide +kernel
  refine T_if1 (by decide +kernel) ?_
  refine T_let 303 (by decide +kernel) ?_
  refine T_if1 (by decide +kernel) ?_
  refine T_get (by decide +kernel) (c := 304) (by decide +kernel) bdr_304 (by decide) c0 (fun x6 e7 b8 w9 => ?_)
  have l10 : z_ln 303 = 201 := by decide +kernel
  refine T_leq (fun x11 e12 => ?_)
  have w13 := z_wr e12
  refine T_leq (fun x14 e15 => ?_)
  have w16 := z_wr e15
  refine T_leq (fun x17 e18 => ?_)
  have w19 := z_wr e18
  refine T_leq (fun x20 e21 => ?_)
  have w22 := z_wr e21
  refine T_leq (fun x23 e24 => ?_)
  have w25 := z_wr e24
  refine T_if1 (by decide +kernel) ?_
  refine T_let 305 (by decide +kernel) ?_
  refine T_if1 (by decide +kernel) ?_
  refine T_get (by decide +kernel) (c := 306) (by decide +kernel) bdr_306 (by decide) c0 (fun x26 e27 b28 w29 => ?_)
  have l30 : z_ln 305 = 200 := by decide +kernel
  refine T_leq (fun x31 e32 => ?_)
  have w33 := z_wr e32
  refine T_if1 (by decide +kernel) ?_
  refine T_let 307 (by decide +kernel) ?_
  refine T_if1 (by decide +kernel) ?_
  refine T_get (by decide +kernel) (c := 308) (by decide +kernel) bdr_308 (by decide) c0 (fun x34 e35 b36 w37 => ?_)
  have l38 : z_ln 307 = 200 := by decide +kernel
  refine T_leq (fun x39 e40 => ?_)
  have w41 := z_wr e40
  exact T_ret ⟨c0, z_Fr.rf, ⟨x39, rfl, by omega, by omega⟩⟩
abbrev R_X11_thick_1 (a b : Int) : Prop := (193 ≤ a ∧ a ≤ 219) ∨ (222 ≤ a ∧ a ≤ 222) ∨ (225 ≤ a ∧ a ≤ 239) ∨ (242 ≤ a ∧ a ≤ 244) ∨ (248 ≤ a ∧ a ≤ 248) ∨ (260 ≤ a ∧ a ≤ 278) ∨ (281 ≤ a ∧ a ≤ 295) ∨ (298 ≤ a ∧ a ≤ 308) ∨ (a = 1 ∧ (b = 14 ∨ b = 15 ∨ b = 16 ∨ b = 17 ∨ b = 18)) ∨ (a = 191 ∧ (b = 16 ∨ b = 17 ∨ b = 18)) ∨ (a = 220 ∧ (b = 4 ∨ b = 5)) ∨ (a = 223 ∧ (b = 9)) ∨ (a = 240 ∧ (b = 6)) ∨ (a = 279 ∧ (b = 9)) ∨ (a = 296 ∧ (b = 9))
abbrev P_X11_thick_1 (r0 : z_M) : z_V → z_M → Prop := fun v s' => z_CI s' ∧ z_Fr R_X11_thick_1 r0 s' ∧ (z_V16 s') ∧ ((∃ x, v = vI x ∧ -2147483648 ≤ x ∧ x ≤ 2147483647) ∨ v = vX 0 ∨ v = vX 1)
theorem rs_X11_refresh_1__X11_thick_1 (a b : Int) (h : R_X11_refresh_1 a b) : R_X11_thick_1 a b := (h.elim (fun h => (Or.inl (⟨by omega, by omega⟩))) (fun h => (h.elim (fun h => (Or.inr (Or.inl (⟨by omega, by omega⟩)))) (fun h => (h.elim (fun h => (Or.inr (Or.inr (Or.inl (⟨by omega, by omega⟩))))) (fun h => (h.elim (fun h => (Or.inr (Or.inr (Or.inr (Or.inl (⟨by omega, by omega⟩)))))) (fun h => (h.elim (fun h => (Or.inr (Or.inr (Or.inr (Or.inr (Or.inl (⟨by omega, by omega⟩))))))) (fun h => (h.elim (fun h => (Or.inr (Or.inr (Or.inr (Or.inr (Or.inr (Or.inl (⟨by omega, by omega⟩)))))))) (fun h => (h.elim (fun h => (Or.inr (Or.inr (Or.inr (Or.inr (Or.inr (Or.inr (Or.inl (⟨by omega, by omega⟩))))))))) (fun h => (h.elim (fun h => (Or.inr (Or.inr (Or.inr (Or.inr (Or.inr (Or.inr (Or.inr (Or.inr (Or.inl (⟨h.1, by omega⟩))))))))))) (fun h => (h.elim (fun h => (Or.inr (Or.inr (Or.inr (Or.inr (Or.inr (Or.inr (Or.inr (Or.inr (Or.inr (Or.inl (⟨h.1, by omega⟩)))))))))))) (fun h => (h.elim (fun h => (Or.inr (Or.inr (Or.inr (Or.inr (Or.inr (Or.inr (Or.inr (Or.inr (Or.inr (Or.inr (Or.inl (⟨h.1, by omega⟩))))))))))))) (fun h => (h.elim (fun h => (Or.inr (Or.inr (Or.inr (Or.inr (Or.inr (Or.inr (Or.inr (Or.inr (Or.inr (Or.inr (Or.inr (Or.inl (⟨h.1, by omega⟩)))))))))))))) (fun h => (h.elim (fun h => (Or.inr (Or.inr (Or.inr (Or.inr (Or.inr (Or.inr (Or.inr (Or.inr (Or.inr (Or.inr (Or.inr (Or.inr (Or.inl (⟨h.1, by omega⟩))))))))))))))) (fun h => (Or.inr (Or.inr (Or.inr (Or.inr (Or.inr (Or.inr (Or.inr (Or.inr (Or.inr (Or.inr (Or.inr (Or.inr (Or.inr (Or.inl (⟨h.1, by omega⟩)))))))))))))))))))))))))))))))))))))))
theorem rs_X11_refreshSides_1__X11_thick_1 (a b : Int) (h : R_X11_refreshSides_1 a b) : R_X11_thick_1 a b := (h.elim (fun h => (Or.inr (Or.inr (Or.inr (Or.inr (Or.inr (Or.inr (Or.inr (Or.inl (⟨by omega, by omega⟩)))))))))) (fun h => (h.elim (fun h => (Or.inr (Or.inr (Or.inr (Or.inr (Or.inr (Or.inr (Or.inr (Or.inr (Or.inl (⟨h.1, by omega⟩))))))))))) (fun h => (Or.inr (Or.inr (Or.inr (Or.inr (Or.inr (Or.inr (Or.inr (Or.inr (Or.inr (Or.inr (Or.inr (Or.inr (Or.inr (Or.inr (⟨h.1, by omega⟩)))))))))))))))))))
theorem nr_X8_thickOf_296__195 (b : Int) : ¬ R_X8_thickOf_296 195 b := not_false
theorem nr_X8_thickOf_296__197 (b : Int) : ¬ R_X8_thickOf_296 197 b := not_false
theorem sf_X11_thick_1 {fu : Nat} (hfu : 8589934592 ≤ fu) (r0 : z_M) (c0 : z_CI r0) (a1 : Int) (a2 : Int) (b1 : -2147483648 ≤ a1 ∧ a1 ≤ 2147483647) (b2 : -2147483648 ≤ a2 ∧ a2 ≤ 2147483647) (p0 : z_V16 r0) : z_T (fX11_thick fu r0 1 a1 a2) (P_X11_thick_1 r0) := by
  refine T_of (fX11_thick.eq_1 ..) ?_
  refine T_if1 (by decide +kernel) ?_
  refine T_useN (sf_X11_refresh_1 hfu r0 c0 p0) (fun v6 s1 hq => ?_)
  obtain ⟨c2, f3, o7, rfl⟩ := hq
  refine T_vN ?_
  have f4 := z_Fr.tr (R := R_X11_thick_1) z_Fr.rf f3 rs_X11_refresh_1__X11_thick_1
  have u10 := CI_b c2 (k := 240) (j := 6) bd_240_6
  refine T_if1 (by decide +kernel) ?_
  refine T_let 240 (by decide +kernel) ?_
  refine T_if1 (by decide +kernel) ?_
  refine T_leq (fun x11 e12 => ?_)
  have u13 := CI_b c2 (k := 240) (j := 6) bd_240_6
  refine T_if1 (by decide +kernel) ?_
  refine T_ne ?_ (fun h14 h15 => ?_)
  · exact T_ret ⟨CI_up c2 bd_1_14 (z_wb rfl).1, z_Fr.upf (R := R_X11_thick_1) f4 (fun a b h => z_up_k h) (fun b h => z_up_j h) (Or.inr (Or.inr (Or.inr (Or.inr (Or.inr (Or.inr (Or.inr (Or.inr (Or.inl (⟨rfl, by decide⟩)))))))))), Or.inr (z_U.fr o7 (z_up_k (by decide)) (z_up_k (by decide)) (fun _ => z_up_k (by decide)) (fun _ => z_up_k (by decide))), Or.inr (Or.inl rfl)⟩
  refine T_if1 (by decide +kernel) ?_
  refine T_let 240 (by decide +kernel) ?_
  refine T_if1 (by decide +kernel) ?_
  refine T_leq (fun x16 e17 => ?_)
  have u18 := CI_b c2 (k := 240) (j := 6) bd_240_6
  refine T_if1 (by decide +kernel) ?_
  refine T_ne ?_ (fun h19 h20 => ?_)
  · exact T_ret ⟨CI_up c2 bd_1_14 (z_wb rfl).1, z_Fr.upf (R := R_X11_thick_1) f4 (fun a b h => z_up_k h) (fun b h => z_up_j h) (Or.inr (Or.inr (Or.inr (Or.inr (Or.inr (Or.inr (Or.inr (Or.inr (Or.inl (⟨rfl, by decide⟩)))))))))), Or.inr (z_U.fr o7 (z_up_k (by decide)) (z_up_k (by decide)) (fun _ => z_up_k (by decide)) (fun _ => z_up_k (by decide))), Or.inr (Or.inl rfl)⟩
  refine T_if1 (by decide +kernel) ?_
  refine T_let 240 (by decide +kernel) ?_
  refine T_if1 (by decide +kernel) ?_
  refine T_leq (fun x21 e22 => ?_)
  have u23 := CI_b c2 (k := 240) (j := 6) bd_240_6
  refine T_if1 (by decide +kernel) ?_
  refine T_nw ?_ (fun h24 h25 => ?_)
  · exact T_ret ⟨CI_up c2 bd_1_15 (z_wb rfl).1, z_Fr.upf (R := R_X11_thick_1) f4 (fun a b h => z_up_k h) (fun b h => z_up_j h) (Or.inr (Or.inr (Or.inr (Or.inr (Or.inr (Or.inr (Or.inr (Or.inr (Or.inl (⟨rfl, by decide⟩)))))))))), Or.inr (z_U.fr o7 (z_up_k (by decide)) (z_up_k (by decide)) (fun _ => z_up_k (by decide)) (fun _ => z_up_k (by decide))), Or.inr (Or.inr rfl)⟩
  refine T_if1 (by decide +kernel) ?_
  refine T_useN (sf_X11_refreshSides_1 hfu s1 c2 (Or.inr o7)) (fun v31 s26 hq => ?_)
  obtain ⟨c27, f28, o32, rfl⟩ := hq
  refine T_vN ?_
  have f29 := z_Fr.tr (R := R_X11_thick_1) f4 f28 rs_X11_refreshSides_1__X11_thick_1
  have t35 : s26 240 6 = s1 240 6 := f28 240 6 (by decide)
  have r36 := z_U.fr o7 (f28 191 16 (by decide)) (f28 6 6 (by decide)) (fun b => f28 195 b (nr_X11_refreshSides_1__195 b)) (fun b => f28 197 b (nr_X11_refreshSides_1__197 b))
  refine T_if1 (by decide +kernel) ?_
  refine T_let 296 (by decide +kernel) ?_
  refine T_if1 (by decide +kernel) ?_
  refine T_useI (sf_X8_thickOf_296 hfu s26 c27 a1 a2 (by omega) (by omega)) (fun v42 s37 hq => ?_)
  obtain ⟨c38, f39, ⟨x41, rfl, b43, b44⟩⟩ := hq
  refine T_vI ?_
  have f40 := z_Fr.tr (R := R_X11_thick_1) f29 f39 (fun a b h => absurd h not_false)
  have t45 : s37 240 6 = s26 240 6 := f39 240 6 (by decide)
  have r46 := z_U.fr r36 (f39 191 16 (by decide)) (f39 6 6 (by decide)) (fun b => f39 195 b (nr_X8_thickOf_296__195 b)) (fun b => f39 197 b (nr_X8_thickOf_296__197 b))
  have r47 := z_V16.fr o32 (f39 1 16 (by decide)) (f39 191 16 (by decide)) (f39 6 6 (by decide)) (fun b => f39 195 b (nr_X8_thickOf_296__195 b)) (fun b => f39 197 b (nr_X8_thickOf_296__197 b))
  exact T_ret ⟨c38, f40, r47, Or.inl (⟨x41, rfl, by omega, by omega⟩)⟩
abbrev R_X8_pageEnd_296 (a b : Int) : Prop := False
abbrev P_X8_pageEnd_296 (r0 : z_M) : z_V → z_M → Prop := fun v s' => z_CI s' ∧ z_Fr R_X8_pageEnd_296 r0 s' ∧ (∃ x, v = vI x ∧ 0 ≤ x ∧ x ≤ 200)
theorem sl_X8_pageEnd_296_L2 {fu : Nat} (hfu : 8589934592 ≤ fu) (r0 : z_M) (a1 : Int) (a2 : Int) (b1 : -2147483648 ≤ a1 ∧ a1 ≤ 2147483647) (b2 : -2147483648 ≤ a2 ∧ a2 ≤ 2147483647) {k : z_M → Int → z_O} (hk : ∀ (s' : z_M) (v3 : Int), z_CI s' → z_Fr R_X8_pageEnd_296 r0 s' → (0 ≤ v3 ∧ v3 ≤ 200) → z_T (k s' v3) (P_X8_pageEnd_296 r0)) : ∀ (F : Nat) (s : z_M) (a3 : Int), z_CI s → z_Fr R_X8_pageEnd_296 r0 s → (0 ≤ a3 ∧ a3 ≤ 200) → (2147483647 - a3 < (F : Int)) → z_T (fX8_pageEnd_L2 fu 296 a1 a2 F s a3 k) (P_X8_pageEnd_296 r0) := by
  intro F
  induction F with
  | zero =>
    intro s a3 c f b3 hm
    exfalso; omega
  | succ F ih =>
    intro s a3 c f b3 hm
    refine T_of (fX8_pageEnd_L2.eq_2 ..) ?_
    refine T_leq (fun x1 e2 => ?_)
    have w3 := z_wb e2
    refine T_if1 (by decide +kernel) ?_
    refine T_let 258 (by decide +kernel) ?_
    refine T_if1 (by decide +kernel) ?_
    refine T_useI (sf_X3_lineCount_258 hfu s c) (fun v9 s4 hq => ?_)
    obtain ⟨c5, f6, ⟨x8, rfl, b10, b11⟩⟩ := hq
    refine T_vI ?_
    have f7 := z_Fr.tr (R := R_X8_pageEnd_296) f f6 (fun a b h => absurd h not_false)
    refine T_ite (fun h12 => ?_) (fun h12 => ?_)
    · exact hk s4 a3 c5 f7 (by omega)
    · refine T_leq (fun x13 e14 => ?_)
      have w15 := z_wb e14
      refine T_if1 (by decide +kernel) ?_
      refine T_useI (sf_X8_thickOf_296 hfu s4 c5 a1 x13 (by omega) (by omega)) (fun v21 s16 hq => ?_)
      obtain ⟨c17, f18, ⟨x20, rfl, b22, b23⟩⟩ := hq
      refine T_vI ?_
      have f19 := z_Fr.tr (R := R_X8_pageEnd_296) f7 f18 (fun a b h => absurd h not_false)
      refine T_ite (fun h24 => ?_) (fun h24 => ?_)
      · exact hk s16 a3 c17 f19 (by omega)
      · refine T_leq (fun x25 e26 => ?_)
        have w27 := z_wb e26
        exact ih s16 x25 c17 f19 (by omega) (by omega)
theorem sj_X8_pageEnd_296_J33 {fu : Nat} (hfu : 8589934592 ≤ fu) (r0 s : z_M) (c : z_CI s) (f : z_Fr R_X8_pageEnd_296 r0 s) (a3 : Int) (b3 : 0 ≤ a3 ∧ a3 ≤ 200) : z_T (fX8_pageEnd_J33 fu s a3) (P_X8_pageEnd_296 r0) := by
  refine T_of (fX8_pageEnd_J33.eq_1 ..) ?_
  exact T_ret ⟨c, f, ⟨a3, rfl, by omega, by omega⟩⟩
theorem sf_X8_pageEnd_296 {fu : Nat} (hfu : 8589934592 ≤ fu) (r0 : z_M) (c0 : z_CI r0) (a1 : Int) (a2 : Int) (b1 : 0 ≤ a1 ∧ a1 ≤ 200) (b2 : -2147483648 ≤ a2 ∧ a2 ≤ 2147483647) : z_T (fX8_pageEnd fu r0 296 a1 a2) (P_X8_pageEnd_296 r0) := by
  refine T_of (fX8_pageEnd.eq_1 ..) ?_
  refine sl_X8_pageEnd_296_L2 hfu r0 a1 a2 (by omega) (by omega) (fun s1 y4 c2 f3 b5 => ?_) fu r0 a1 c0 z_Fr.rf (by omega) (by omega)
  exact sj_X8_pageEnd_296_J33 hfu r0 s1 c2 f3 y4 (by omega)
abbrev R_X8_pageCount_296 (a b : Int) : Prop := False
abbrev P_X8_pageCount_296 (r0 : z_M) : z_V → z_M → Prop := fun v s' => z_CI s' ∧ z_Fr R_X8_pageCount_296 r0 s' ∧ (∃ x, v = vI x ∧ -2147483648 ≤ x ∧ x ≤ 2147483647)
theorem sl_X8_pageCount_296_L4 {fu : Nat} (hfu : 8589934592 ≤ fu) (r0 : z_M) (a1 : Int) (b1 : -2147483648 ≤ a1 ∧ a1 ≤ 2147483647) {k : z_M → Int → z_O} (hk : ∀ (s' : z_M) (v2 : Int), z_CI s' → z_Fr R_X8_pageCount_296 r0 s' → (-2147483648 ≤ v2 ∧ v2 ≤ 2147483647) → z_T (k s' v2) (P_X8_pageCount_296 r0)) : ∀ (F : Nat) (s : z_M) (a2 : Int) (a3 : Int), z_CI s → z_Fr R_X8_pageCount_296 r0 s → (-2147483648 ≤ a2 ∧ a2 ≤ 2147483647) → (0 ≤ a3 ∧ a3 ≤ 201) → (2147483647 - a3 < (F : Int)) → z_T (fX8_pageCount_L4 fu 296 a1 F s a2 a3 k) (P_X8_pageCount_296 r0) := by
  intro F
  induction F with
  | zero =>
    intro s a2 a3 c f b2 b3 hm
    exfalso; omega
  | succ F ih =>
    intro s a2 a3 c f b2 b3 hm
    refine T_of (fX8_pageCount_L4.eq_2 ..) ?_
    refine T_if1 (by decide +kernel) ?_
    refine T_let 258 (by decide +kernel) ?_
    refine T_if1 (by decide +kernel) ?_
    refine T_useI (sf_X3_lineCount_258 hfu s c) (fun v6 s1 hq => ?_)
    obtain ⟨c2, f3, ⟨x5, rfl, b7, b8⟩⟩ := hq
    refine T_vI ?_
    have f4 := z_Fr.tr (R := R_X8_pageCount_296) f f3 (fun a b h => absurd h not_false)
    refine T_ite (fun h9 => ?_) (fun h9 => ?_)
    · exact hk s1 a2 c2 f4 (by omega)
    · refine T_if1 (by decide +kernel) ?_
      refine T_useI (sf_X8_pageEnd_296 hfu s1 c2 a3 a1 (by omega) (by omega)) (fun v15 s10 hq => ?_)
      obtain ⟨c11, f12, ⟨x14, rfl, b16, b17⟩⟩ := hq
      refine T_vI ?_
      have f13 := z_Fr.tr (R := R_X8_pageCount_296) f4 f12 (fun a b h => absurd h not_false)
      refine T_leq (fun x18 e19 => ?_)
      have w20 := z_maxb a3 x14
      rw [e19] at w20
      refine T_leq (fun x21 e22 => ?_)
      have w23 := z_wb e22
      refine T_leq (fun x24 e25 => ?_)
      have w26 := z_wb e25
      exact ih s10 x24 x21 c11 f13 (by omega) (by omega) (by omega)
theorem sf_X8_pageCount_296 {fu : Nat} (hfu : 8589934592 ≤ fu) (r0 : z_M) (c0 : z_CI r0) (a1 : Int) (b1 : -2147483648 ≤ a1 ∧ a1 ≤ 2147483647) : z_T (fX8_pageCount fu r0 296 a1) (P_X8_pageCount_296 r0) := by
  refine T_of (fX8_pageCount.eq_1 ..) ?_
  refine sl_X8_pageCount_296_L4 hfu r0 a1 (by omega) (fun s1 y4 c2 f3 b5 => ?_) fu r0 0 0 c0 z_Fr.rf (by omega) (by omega) (by omega)
  exact T_ret ⟨c2, f3, ⟨y4, rfl, by omega, by omega⟩⟩
abbrev R_X11_pages_1 (a b : Int) : Prop := (193 ≤ a ∧ a ≤ 219) ∨ (222 ≤ a ∧ a ≤ 222) ∨ (225 ≤ a ∧ a ≤ 239) ∨ (242 ≤ a ∧ a ≤ 244) ∨ (248 ≤ a ∧ a ≤ 248) ∨ (260 ≤ a ∧ a ≤ 278) ∨ (281 ≤ a ∧ a ≤ 295) ∨ (298 ≤ a ∧ a ≤ 308) ∨ (a = 1 ∧ (b = 15 ∨ b = 16 ∨ b = 17 ∨ b = 18)) ∨ (a = 191 ∧ (b = 16 ∨ b = 17 ∨ b = 18)) ∨ (a = 220 ∧ (b = 4 ∨ b = 5)) ∨ (a = 223 ∧ (b = 9)) ∨ (a = 240 ∧ (b = 6)) ∨ (a = 279 ∧ (b = 9)) ∨ (a = 296 ∧ (b = 9))
abbrev P_X11_pages_1 (r0 : z_M) : z_V → z_M → Prop := fun v s' => z_CI s' ∧ z_Fr R_X11_pages_1 r0 s' ∧ (z_V16 s') ∧ ((∃ x, v = vI x ∧ -2147483648 ≤ x ∧ x ≤ 2147483647) ∨ v = vX 1)
theorem rs_X11_refresh_1__X11_pages_1 (a b : Int) (h : R_X11_refresh_1 a b) : R_X11_pages_1 a b := (h.elim (fun h => (Or.inl (⟨by omega, by omega⟩))) (fun h => (h.elim (fun h => (Or.inr (Or.inl (⟨by omega, by omega⟩)))) (fun h => (h.elim (fun h => (Or.inr (Or.inr (Or.inl (⟨by omega, by omega⟩))))) (fun h => (h.elim (fun h => (Or.inr (Or.inr (Or.inr (Or.inl (⟨by omega, by omega⟩)))))) (fun h => (h.elim (fun h => (Or.inr (Or.inr (Or.inr (Or.inr (Or.inl (⟨by omega, by omega⟩))))))) (fun h => (h.elim (fun h => (Or.inr (Or.inr (Or.inr (Or.inr (Or.inr (Or.inl (⟨by omega, by omega⟩)))))))) (fun h => (h.elim (fun h => (Or.inr (Or.inr (Or.inr (Or.inr (Or.inr (Or.inr (Or.inl (⟨by omega, by omega⟩))))))))) (fun h => (h.elim (fun h => (Or.inr (Or.inr (Or.inr (Or.inr (Or.inr (Or.inr (Or.inr (Or.inr (Or.inl (⟨h.1, by omega⟩))))))))))) (fun h => (h.elim (fun h => (Or.inr (Or.inr (Or.inr (Or.inr (Or.inr (Or.inr (Or.inr (Or.inr (Or.inr (Or.inl (⟨h.1, by omega⟩)))))))))))) (fun h => (h.elim (fun h => (Or.inr (Or.inr (Or.inr (Or.inr (Or.inr (Or.inr (Or.inr (Or.inr (Or.inr (Or.inr (Or.inl (⟨h.1, by omega⟩))))))))))))) (fun h => (h.elim (fun h => (Or.inr (Or.inr (Or.inr (Or.inr (Or.inr (Or.inr (Or.inr (Or.inr (Or.inr (Or.inr (Or.inr (Or.inl (⟨h.1, by omega⟩)))))))))))))) (fun h => (h.elim (fun h => (Or.inr (Or.inr (Or.inr (Or.inr (Or.inr (Or.inr (Or.inr (Or.inr (Or.inr (Or.inr (Or.inr (Or.inr (Or.inl (⟨h.1, by omega⟩))))))))))))))) (fun h => (Or.inr (Or.inr (Or.inr (Or.inr (Or.inr (Or.inr (Or.inr (Or.inr (Or.inr (Or.inr (Or.inr (Or.inr (Or.inr (Or.inl (⟨h.1, by omega⟩)))))))))))))))))))))))))))))))))))))))
theorem rs_X11_refreshSides_1__X11_pages_1 (a b : Int) (h : R_X11_refreshSides_1 a b) : R_X11_pages_1 a b := (h.elim (fun h => (Or.inr (Or.inr (Or.inr (Or.inr (Or.inr (Or.inr (Or.inr (Or.inl (⟨by omega, by omega⟩)))))))))) (fun h => (h.elim (fun h => (Or.inr (Or.inr (Or.inr (Or.inr (Or.inr (Or.inr (Or.inr (Or.inr (Or.inl (⟨h.1, by omega⟩))))))))))) (fun h => (Or.inr (Or.inr (Or.inr (Or.inr (Or.inr (Or.inr (Or.inr (Or.inr (Or.inr (Or.inr (Or.inr (Or.inr (Or.inr (Or.inr (⟨h.1, by omega⟩)))))))))))))))))))
theorem nr_X8_pageCount_296__195 (b : Int) : ¬ R_X8_pageCount_296 195 b := not_false
theorem nr_X8_pageCount_296__197 (b : Int) : ¬ R_X8_pageCount_296 197 b := not_false
theorem sf_X11_pages_1 {fu : Nat} (hfu : 8589934592 ≤ fu) (r0 : z_M) (c0 : z_CI r0) (a1 : Int) (b1 : -2147483648 ≤ a1 ∧ a1 ≤ 2147483647) (p0 : z_V16 r0) : z_T (fX11_pages fu r0 1 a1) (P_X11_pages_1 r0) := by
  refine T_of (fX11_pages.eq_1 ..) ?_
  refine T_if1 (by decide +kernel) ?_
  refine T_nw ?_ (fun h1 h2 => ?_)
  · exact T_ret ⟨CI_up c0 bd_1_15 (z_wb rfl).1, z_Fr.upf (R := R_X11_pages_1) z_Fr.rf (fun a b h => z_up_k h) (fun b h => z_up_j h) (Or.inr (Or.inr (Or.inr (Or.inr (Or.inr (Or.inr (Or.inr (Or.inr (Or.inl (⟨rfl, by decide⟩)))))))))), z_V16.fr p0 (z_up_j (by decide)) (z_up_k (by decide)) (z_up_k (by decide)) (fun _ => z_up_k (by decide)) (fun _ => z_up_k (by decide)), Or.inr rfl⟩
  refine T_if1 (by decide +kernel) ?_
  refine T_useN (sf_X11_refresh_1 hfu r0 c0 p0) (fun v8 s3 hq => ?_)
  obtain ⟨c4, f5, o9, rfl⟩ := hq
  refine T_vN ?_
  have f6 := z_Fr.tr (R := R_X11_pages_1) z_Fr.rf f5 rs_X11_refresh_1__X11_pages_1
  refine T_if1 (by decide +kernel) ?_
  refine T_useN (sf_X11_refreshSides_1 hfu s3 c4 (Or.inr o9)) (fun v17 s12 hq => ?_)
  obtain ⟨c13, f14, o18, rfl⟩ := hq
  refine T_vN ?_
  have f15 := z_Fr.tr (R := R_X11_pages_1) f6 f14 rs_X11_refreshSides_1__X11_pages_1
  have r21 := z_U.fr o9 (f14 191 16 (by decide)) (f14 6 6 (by decide)) (fun b => f14 195 b (nr_X11_refreshSides_1__195 b)) (fun b => f14 197 b (nr_X11_refreshSides_1__197 b))
  refine T_if1 (by decide +kernel) ?_
  refine T_let 296 (by decide +kernel) ?_
  refine T_if1 (by decide +kernel) ?_
  refine T_useI (sf_X8_pageCount_296 hfu s12 c13 a1 (by omega)) (fun v27 s22 hq => ?_)
  obtain ⟨c23, f24, ⟨x26, rfl, b28, b29⟩⟩ := hq
  refine T_vI ?_
  have f25 := z_Fr.tr (R := R_X11_pages_1) f15 f24 (fun a b h => absurd h not_false)
  have r30 := z_U.fr r21 (f24 191 16 (by decide)) (f24 6 6 (by decide)) (fun b => f24 195 b (nr_X8_pageCount_296__195 b)) (fun b => f24 197 b (nr_X8_pageCount_296__197 b))
  have r31 := z_V16.fr o18 (f24 1 16 (by decide)) (f24 191 16 (by decide)) (f24 6 6 (by decide)) (fun b => f24 195 b (nr_X8_pageCount_296__195 b)) (fun b => f24 197 b (nr_X8_pageCount_296__197 b))
  exact T_ret ⟨c23, f25, r31, Or.inl (⟨x26, rfl, by omega, by omega⟩)⟩
abbrev R_X11_page_1 (a b : Int) : Prop := (193 ≤ a ∧ a ≤ 219) ∨ (222 ≤ a ∧ a ≤ 222) ∨ (225 ≤ a ∧ a ≤ 239) ∨ (242 ≤ a ∧ a ≤ 244) ∨ (248 ≤ a ∧ a ≤ 248) ∨ (260 ≤ a ∧ a ≤ 278) ∨ (281 ≤ a ∧ a ≤ 295) ∨ (298 ≤ a ∧ a ≤ 308) ∨ (a = 1 ∧ (b = 15 ∨ b = 16 ∨ b = 17 ∨ b = 18)) ∨ (a = 191 ∧ (b = 16 ∨ b = 17 ∨ b = 18)) ∨ (a = 220 ∧ (b = 4 ∨ b = 5)) ∨ (a = 223 ∧ (b = 9)) ∨ (a = 240 ∧ (b = 6)) ∨ (a = 279 ∧ (b = 9)) ∨ (a = 296 ∧ (b = 9))
abbrev P_X11_page_1 (r0 : z_M) : z_V → z_M → Prop := fun v s' => z_CI s' ∧ z_Fr R_X11_page_1 r0 s' ∧ (z_V16 s') ∧ ((∃ x, v = vI x ∧ -2147483648 ≤ x ∧ x ≤ 2147483647) ∨ v = vX 1)
theorem rs_X11_refresh_1__X11_page_1 (a b : Int) (h : R_X11_refresh_1 a b) : R_X11_page_1 a b := (h.elim (fun h => (Or.inl (⟨by omega, by omega⟩))) (fun h => (h.elim (fun h => (Or.inr (Or.inl (⟨by omega, by omega⟩)))) (fun h => (h.elim (fun h => (Or.inr (Or.inr (Or.inl (⟨by omega, by omega⟩))))) (fun h => (h.elim (fun h => (Or.inr (Or.inr (Or.inr (Or.inl (⟨by omega, by omega⟩)))))) (fun h => (h.elim (fun h => (Or.inr (Or.inr (Or.inr (Or.inr (Or.inl (⟨by omega, by omega⟩))))))) (fun h => (h.elim (fun h => (Or.inr (Or.inr (Or.inr (Or.inr (Or.inr (Or.inl (⟨by omega, by omega⟩)))))))) (fun h => (h.elim (fun h => (Or.inr (Or.inr (Or.inr (Or.inr (Or.inr (Or.inr (Or.inl (⟨by omega, by omega⟩))))))))) (fun h => (h.elim (fun h => (Or.inr (Or.inr (Or.inr (Or.inr (Or.inr (Or.inr (Or.inr (Or.inr (Or.inl (⟨h.1, by omega⟩))))))))))) (fun h => (h.elim (fun h => (Or.inr (Or.inr (Or.inr (Or.inr (Or.inr (Or.inr (Or.inr (Or.inr (Or.inr (Or.inl (⟨h.1, by omega⟩)))))))))))) (fun h => (h.elim (fun h => (Or.inr (Or.inr (Or.inr (Or.inr (Or.inr (Or.inr (Or.inr (Or.inr (Or.inr (Or.inr (Or.inl (⟨h.1, by omega⟩))))))))))))) (fun h => (h.elim (fun h => (Or.inr (Or.inr (Or.inr (Or.inr (Or.inr (Or.inr (Or.inr (Or.inr (Or.inr (Or.inr (Or.inr (Or.inl (⟨h.1, by omega⟩)))))))))))))) (fun h => (h.elim (fun h => (Or.inr (Or.inr (Or.inr (Or.inr (Or.inr (Or.inr (Or.inr (Or.inr (Or.inr (Or.inr (Or.inr (Or.inr (Or.inl (⟨h.1, by omega⟩))))))))))))))) (fun h => (Or.inr (Or.inr (Or.inr (Or.inr (Or.inr (Or.inr (Or.inr (Or.inr (Or.inr (Or.inr (Or.inr (Or.inr (Or.inr (Or.inl (⟨h.1, by omega⟩)))))))))))))))))))))))))))))))))))))))
theorem rs_X11_refreshSides_1__X11_page_1 (a b : Int) (h : R_X11_refreshSides_1 a b) : R_X11_page_1 a b := (h.elim (fun h => (Or.inr (Or.inr (Or.inr (Or.inr (Or.inr (Or.inr (Or.inr (Or.inl (⟨by omega, by omega⟩)))))))))) (fun h => (h.elim (fun h => (Or.inr (Or.inr (Or.inr (Or.inr (Or.inr (Or.inr (Or.inr (Or.inr (Or.inl (⟨h.1, by omega⟩))))))))))) (fun h => (Or.inr (Or.inr (Or.inr (Or.inr (Or.inr (Or.inr (Or.inr (Or.inr (Or.inr (Or.inr (Or.inr (Or.inr (Or.inr (Or.inr (⟨h.1, by omega⟩)))))))))))))))))))
theorem nr_X8_pageEnd_296__195 (b : Int) : ¬ R_X8_pageEnd_296 195 b := not_false
theorem nr_X8_pageEnd_296__197 (b : Int) : ¬ R_X8_pageEnd_296 197 b := not_false
theorem sl_X11_page_1_L45 {fu : Nat} (hfu : 8589934592 ≤ fu) (r0 : z_M) (a1 : Int) (a2 : Int) (a3 : Int) (b1 : -2147483648 ≤ a1 ∧ a1 ≤ 2147483647) (b2 : -2147483648 ≤ a2 ∧ a2 ≤ 2147483647) (b3 : -2147483648 ≤ a3 ∧ a3 ≤ 2147483647) {k : z_M → Int → z_O} (hk : ∀ (s' : z_M) (v4 : Int), z_CI s' → z_Fr R_X11_page_1 r0 s' → (0 ≤ v4 ∧ v4 ≤ 201) → (z_V16 s') → z_T (k s' v4) (P_X11_page_1 r0)) : ∀ (F : Nat) (s : z_M) (a4 : Int) (a5 : Int), z_CI s → z_Fr R_X11_page_1 r0 s → (0 ≤ a4 ∧ a4 ≤ 201) → (-2147483648 ≤ a5 ∧ a5 ≤ 2147483647) → (z_V16 s) → (2147483647 - a5 < (F : Int)) → z_T (fX11_page_L45 fu 1 a1 a2 a3 F s a4 a5 k) (P_X11_page_1 r0) := by
  intro F
  induction F with
  | zero =>
    intro s a4 a5 c f b4 b5 i0 hm
    have u23 := CI_b c (k := 240) (j := 6) bd_240_6
    exfalso; omega
  | succ F ih =>
    intro s a4 a5 c f b4 b5 i0 hm
    refine T_of (fX11_page_L45.eq_2 ..) ?_
    have u1 := CI_b c (k := 240) (j := 6) bd_240_6
    refine T_ite (fun h2 => ?_) (fun h2 => ?_)
    · exact hk s a4 c f (by omega) i0
    · refine T_if1 (by decide +kernel) ?_
      refine T_let 240 (by decide +kernel) ?_
      refine T_if1 (by decide +kernel) ?_
      refine T_leq (fun x3 e4 => ?_)
      have u5 := CI_b c (k := 240) (j := 6) bd_240_6
      refine T_ite (fun h6 => ?_) (fun h6 => ?_)
      · exact hk s a4 c f (by omega) i0
      · refine T_if1 (by decide +kernel) ?_
        refine T_let 296 (by decide +kernel) ?_
        refine T_if1 (by decide +kernel) ?_
        refine T_useI (sf_X8_pageEnd_296 hfu s c a4 a1 (by omega) (by omega)) (fun v12 s7 hq => ?_)
        obtain ⟨c8, f9, ⟨x11, rfl, b13, b14⟩⟩ := hq
        refine T_vI ?_
        have f10 := z_Fr.tr (R := R_X11_page_1) f f9 (fun a b h => absurd h not_false)
        have t15 : s7 240 6 = s 240 6 := f9 240 6 (by decide)
        have r16 := z_V16.fr i0 (f9 1 16 (by decide)) (f9 191 16 (by decide)) (f9 6 6 (by decide)) (fun b => f9 195 b (nr_X8_pageEnd_296__195 b)) (fun b => f9 197 b (nr_X8_pageEnd_296__197 b))
        refine T_leq (fun x17 e18 => ?_)
        have w19 := z_wb e18
        refine T_leq (fun x20 e21 => ?_)
        have w22 := z_wb e21
        exact ih s7 x17 x20 c8 f10 (by omega) (by omega) r16 (by omega)
theorem sj_X11_page_1_J144 {fu : Nat} (hfu : 8589934592 ≤ fu) (r0 s : z_M) (c : z_CI s) (f : z_Fr R_X11_page_1 r0 s) (t0 : Int) (d0 : -2147483648 ≤ t0 ∧ t0 ≤ 2147483647) (p0 : z_V16 s) : z_T (fX11_page_J144 fu s t0) (P_X11_page_1 r0) := by
  refine T_of (fX11_page_J144.eq_1 ..) ?_
  have u1 := CI_b c (k := 240) (j := 6) bd_240_6
  exact T_ret ⟨c, f, p0, Or.inl (⟨t0, rfl, by omega, by omega⟩)⟩
theorem sj_X11_page_1_J83 {fu : Nat} (hfu : 8589934592 ≤ fu) (r0 s : z_M) (c : z_CI s) (f : z_Fr R_X11_page_1 r0 s) (a1 : Int) (a3 : Int) (a4 : Int) (b1 : -2147483648 ≤ a1 ∧ a1 ≤ 2147483647) (b3 : -2147483648 ≤ a3 ∧ a3 ≤ 2147483647) (b4 : 0 ≤ a4 ∧ a4 ≤ 201) (p0 : z_V16 s) : z_T (fX11_page_J83 fu s 1 a1 a3 a4) (P_X11_page_1 r0) := by
  refine T_of (fX11_page_J83.eq_1 ..) ?_
  have u1 := CI_b c (k := 240) (j := 6) bd_240_6
  refine T_if1 (by decide +kernel) ?_
  refine T_let 240 (by decide +kernel) ?_
  refine T_if1 (by decide +kernel) ?_
  refine T_leq (fun x2 e3 => ?_)
  have u4 := CI_b c (k := 240) (j := 6) bd_240_6
  refine T_ite (fun h5 => ?_) (fun h5 => ?_)
  · refine T_if1 (by decide +kernel) ?_
    refine T_let 296 (by decide +kernel) ?_
    refine T_if1 (by decide +kernel) ?_
    refine T_useI (sf_X8_pageEnd_296 hfu s c a4 a1 (by omega) (by omega)) (fun v11 s6 hq => ?_)
    obtain ⟨c7, f8, ⟨x10, rfl, b12, b13⟩⟩ := hq
    refine T_vI ?_
    have f9 := z_Fr.tr (R := R_X11_page_1) f f8 (fun a b h => absurd h not_false)
    have t14 : s6 240 6 = s 240 6 := f8 240 6 (by decide)
    have r15 := z_V16.fr p0 (f8 1 16 (by decide)) (f8 191 16 (by decide)) (f8 6 6 (by decide)) (fun b => f8 195 b (nr_X8_pageEnd_296__195 b)) (fun b => f8 197 b (nr_X8_pageEnd_296__197 b))
    refine T_ite (fun h16 => ?_) (fun h16 => ?_)
    · refine T_ite (fun h17 => ?_) (fun h17 => ?_)
      · refine T_if1 (by decide +kernel) ?_
        refine T_let 296 (by decide +kernel) ?_
        refine T_if1 (by decide +kernel) ?_
        refine T_useI (sf_X8_thickOf_296 hfu s6 c7 a4 x10 (by omega) (by omega)) (fun v23 s18 hq => ?_)
        obtain ⟨c19, f20, ⟨x22, rfl, b24, b25⟩⟩ := hq
        refine T_vI ?_
        have f21 := z_Fr.tr (R := R_X11_page_1) f9 f20 (fun a b h => absurd h not_false)
        have t26 : s18 240 6 = s6 240 6 := f20 240 6 (by decide)
        have r27 := z_V16.fr r15 (f20 1 16 (by decide)) (f20 191 16 (by decide)) (f20 6 6 (by decide)) (fun b => f20 195 b (nr_X8_thickOf_296__195 b)) (fun b => f20 197 b (nr_X8_thickOf_296__197 b))
        exact sj_X11_page_1_J144 hfu r0 s18 c19 f21 x22 (by omega) r27
      · refine T_leq (fun x28 e29 => ?_)
        have w30 := z_wb e29
        refine T_leq (fun x31 e32 => ?_)
        have w33 := z_wb e32
        exact sj_X11_page_1_J144 hfu r0 s6 c7 f9 x31 (by omega) r15
    · exact sj_X11_page_1_J144 hfu r0 s6 c7 f9 a4 (by omega) r15
  · exact T_ret ⟨c, f, p0, Or.inl (⟨(-1), rfl, by omega, by omega⟩)⟩
theorem sj_X11_page_1_J40 {fu : Nat} (hfu : 8589934592 ≤ fu) (r0 s : z_M) (c : z_CI s) (f : z_Fr R_X11_page_1 r0 s) (a1 : Int) (a2 : Int) (a3 : Int) (t0 : Int) (b1 : -2147483648 ≤ a1 ∧ a1 ≤ 2147483647) (b2 : -2147483648 ≤ a2 ∧ a2 ≤ 2147483647) (b3 : -2147483648 ≤ a3 ∧ a3 ≤ 2147483647) (d0 : 0 ≤ t0 ∧ t0 ≤ 200) (p0 : z_V16 s) : z_T (fX11_page_J40 fu s 1 a1 a2 a3 t0) (P_X11_page_1 r0) := by
  refine T_of (fX11_page_J40.eq_1 ..) ?_
  have u1 := CI_b c (k := 240) (j := 6) bd_240_6
  refine sl_X11_page_1_L45 hfu r0 a1 a2 a3 (by omega) (by omega) (by omega) (fun s2 y5 c3 f4 b6 g7 => ?_) fu s t0 0 c f (by omega) (by omega) p0 (by omega)
  have u8 := CI_b c3 (k := 240) (j := 6) bd_240_6
  exact sj_X11_page_1_J83 hfu r0 s2 c3 f4 a1 a3 y5 (by omega) (by omega) (by omega) g7
theorem sf_X11_page_1 {fu : Nat} (hfu : 8589934592 ≤ fu) (r0 : z_M) (c0 : z_CI r0) (a1 : Int) (a2 : Int) (a3 : Int) (b1 : -2147483648 ≤ a1 ∧ a1 ≤ 2147483647) (b2 : -2147483648 ≤ a2 ∧ a2 ≤ 2147483647) (b3 : -2147483648 ≤ a3 ∧ a3 ≤ 2147483647) (p0 : z_V16 r0) : z_T (fX11_page fu r0 1 a1 a2 a3) (P_X11_page_1 r0) := by
  refine T_of (fX11_page.eq_1 ..) ?_
  refine T_if1 (by decide +kernel) ?_
  refine T_nw ?_ (fun h1 h2 => ?_)
  · exact T_ret ⟨CI_up c0 bd_1_15 (z_wb rfl).1, z_Fr.upf (R := R_X11_page_1) z_Fr.rf (fun a b h => z_up_k h) (fun b h => z_up_j h) (Or.inr (Or.inr (Or.inr (Or.inr (Or.inr (Or.inr (Or.inr (Or.inr (Or.inl (⟨rfl, by decide⟩)))))))))), z_V16.fr p0 (z_up_j (by decide)) (z_up_k (by decide)) (z_up_k (by decide)) (fun _ => z_up_k (by decide)) (fun _ => z_up_k (by decide)), Or.inr rfl⟩
  refine T_if1 (by decide +kernel) ?_
  refine T_nw ?_ (fun h3 h4 => ?_)
  · exact T_ret ⟨CI_up c0 bd_1_15 (z_wb rfl).1, z_Fr.upf (R := R_X11_page_1) z_Fr.rf (fun a b h => z_up_k h) (fun b h => z_up_j h) (Or.inr (Or.inr (Or.inr (Or.inr (Or.inr (Or.inr (Or.inr (Or.inr (Or.inl (⟨rfl, by decide⟩)))))))))), z_V16.fr p0 (z_up_j (by decide)) (z_up_k (by decide)) (z_up_k (by decide)) (fun _ => z_up_k (by decide)) (fun _ => z_up_k (by decide)), Or.inr rfl⟩
  refine T_if1 (by decide +kernel) ?_
  refine T_useN (sf_X11_refresh_1 hfu r0 c0 p0) (fun v10 s5 hq => ?_)
  obtain ⟨c6, f7, o11, rfl⟩ := hq
  refine T_vN ?_
  have f8 := z_Fr.tr (R := R_X11_page_1) z_Fr.rf f7 rs_X11_refresh_1__X11_page_1
  have u14 := CI_b c6 (k := 240) (j := 6) bd_240_6
  refine T_if1 (by decide +kernel) ?_
  refine T_useN (sf_X11_refreshSides_1 hfu s5 c6 (Or.inr o11)) (fun v20 s15 hq => ?_)
  obtain ⟨c16, f17, o21, rfl⟩ := hq
  refine T_vN ?_
  have f18 := z_Fr.tr (R := R_X11_page_1) f8 f17 rs_X11_refreshSides_1__X11_page_1
  have t24 : s15 240 6 = s5 240 6 := f17 240 6 (by decide)
  have r25 := z_U.fr o11 (f17 191 16 (by decide)) (f17 6 6 (by decide)) (fun b => f17 195 b (nr_X11_refreshSides_1__195 b)) (fun b => f17 197 b (nr_X11_refreshSides_1__197 b))
  refine T_ite (fun h26 => ?_) (fun h26 => ?_)
  · exact sj_X11_page_1_J40 hfu r0 s15 c16 f18 a1 a2 a3 0 (by omega) (by omega) (by omega) (by omega) o21
  · refine T_if1 (by decide +kernel) ?_
    refine T_let 240 (by decide +kernel) ?_
    refine T_if1 (by decide +kernel) ?_
    refine T_leq (fun x27 e28 => ?_)
    have u29 := CI_b c16 (k := 240) (j := 6) bd_240_6
    exact sj_X11_page_1_J40 hfu r0 s15 c16 f18 a1 a2 a3 x27 (by omega) (by omega) (by omega) (by omega) o21
abbrev R_X11_narrow_1 (a b : Int) : Prop := (193 ≤ a ∧ a ≤ 219) ∨ (222 ≤ a ∧ a ≤ 222) ∨ (225 ≤ a ∧ a ≤ 239) ∨ (242 ≤ a ∧ a ≤ 244) ∨ (248 ≤ a ∧ a ≤ 248) ∨ (260 ≤ a ∧ a ≤ 278) ∨ (281 ≤ a ∧ a ≤ 295) ∨ (298 ≤ a ∧ a ≤ 308) ∨ (a = 1 ∧ (b = 15 ∨ b = 16 ∨ b = 17 ∨ b = 18)) ∨ (a = 191 ∧ (b = 16 ∨ b = 17 ∨ b = 18)) ∨ (a = 220 ∧ (b = 4 ∨ b = 5)) ∨ (a = 223 ∧ (b = 9)) ∨ (a = 240 ∧ (b = 6)) ∨ (a = 279 ∧ (b = 9)) ∨ (a = 296 ∧ (b = 9))
abbrev P_X11_narrow_1 (r0 : z_M) : z_V → z_M → Prop := fun v s' => z_CI s' ∧ z_Fr R_X11_narrow_1 r0 s' ∧ (z_V16 s') ∧ ((∃ x, v = vI x ∧ -2147483648 ≤ x ∧ x ≤ 2147483647) ∨ v = vX 1)
theorem rs_X11_refresh_1__X11_narrow_1 (a b : Int) (h : R_X11_refresh_1 a b) : R_X11_narrow_1 a b := (h.elim (fun h => (Or.inl (⟨by omega, by omega⟩))) (fun h => (h.elim (fun h => (Or.inr (Or.inl (⟨by omega, by omega⟩)))) (fun h => (h.elim (fun h => (Or.inr (Or.inr (Or.inl (⟨by omega, by omega⟩))))) (fun h => (h.elim (fun h => (Or.inr (Or.inr (Or.inr (Or.inl (⟨by omega, by omega⟩)))))) (fun h => (h.elim (fun h => (Or.inr (Or.inr (Or.inr (Or.inr (Or.inl (⟨by omega, by omega⟩))))))) (fun h => (h.elim (fun h => (Or.inr (Or.inr (Or.inr (Or.inr (Or.inr (Or.inl (⟨by omega, by omega⟩)))))))) (fun h => (h.elim (fun h => (Or.inr (Or.inr (Or.inr (Or.inr (Or.inr (Or.inr (Or.inl (⟨by omega, by omega⟩))))))))) (fun h => (h.elim (fun h => (Or.inr (Or.inr (Or.inr (Or.inr (Or.inr (Or.inr (Or.inr (Or.inr (Or.inl (⟨h.1, by omega⟩))))))))))) (fun h => (h.elim (fun h => (Or.inr (Or.inr (Or.inr (Or.inr (Or.inr (Or.inr (Or.inr (Or.inr (Or.inr (Or.inl (⟨h.1, by omega⟩)))))))))))) (fun h => (h.elim (fun h => (Or.inr (Or.inr (Or.inr (Or.inr (Or.inr (Or.inr (Or.inr (Or.inr (Or.inr (Or.inr (Or.inl (⟨h.1, by omega⟩))))))))))))) (fun h => (h.elim (fun h => (Or.inr (Or.inr (Or.inr (Or.inr (Or.inr (Or.inr (Or.inr (Or.inr (Or.inr (Or.inr (Or.inr (Or.inl (⟨h.1, by omega⟩)))))))))))))) (fun h => (h.elim (fun h => (Or.inr (Or.inr (Or.inr (Or.inr (Or.inr (Or.inr (Or.inr (Or.inr (Or.inr (Or.inr (Or.inr (Or.inr (Or.inl (⟨h.1, by omega⟩))))))))))))))) (fun h => (Or.inr (Or.inr (Or.inr (Or.inr (Or.inr (Or.inr (Or.inr (Or.inr (Or.inr (Or.inr (Or.inr (Or.inr (Or.inr (Or.inl (⟨h.1, by omega⟩)))))))))))))))))))))))))))))))))))))))
theorem rs_X11_refreshSides_1__X11_narrow_1 (a b : Int) (h : R_X11_refreshSides_1 a b) : R_X11_narrow_1 a b := (h.elim (fun h => (Or.inr (Or.inr (Or.inr (Or.inr (Or.inr (Or.inr (Or.inr (Or.inl (⟨by omega, by omega⟩)))))))))) (fun h => (h.elim (fun h => (Or.inr (Or.inr (Or.inr (Or.inr (Or.inr (Or.inr (Or.inr (Or.inr (Or.inl (⟨h.1, by omega⟩))))))))))) (fun h => (Or.inr (Or.inr (Or.inr (Or.inr (Or.inr (Or.inr (Or.inr (Or.inr (Or.inr (Or.inr (Or.inr (Or.inr (Or.inr (Or.inr (⟨h.1, by omega⟩)))))))))))))))))))
theorem sj_X11_narrow_1_J60 {fu : Nat} (hfu : 8589934592 ≤ fu) (r0 s : z_M) (c : z_CI s) (f : z_Fr R_X11_narrow_1 r0 s) (a1 : Int) (a2 : Int) (a3 : Int) (b1 : -2147483648 ≤ a1 ∧ a1 ≤ 2147483647) (b2 : 12 ≤ a2 ∧ a2 ≤ 10000) (b3 : 12 ≤ a3 ∧ a3 ≤ 10000) (p0 : a2 ≤ a3) (p1 : z_V16 s) (M : Int) (pm : a3 - a2 < M) {r : z_M → Int → Int → z_O} {k : z_M → Int → z_O} (hr : ∀ (s' : z_M) (v2 : Int) (v3 : Int), z_CI s' → z_Fr R_X11_narrow_1 r0 s' → (12 ≤ v2 ∧ v2 ≤ 10000) → (12 ≤ v3 ∧ v3 ≤ 10000) → (v2 ≤ v3) → (z_V16 s') → (v3 - v2 < M) → z_T (r s' v2 v3) (P_X11_narrow_1 r0)) (hk : ∀ (s' : z_M) (v2 : Int), z_CI s' → z_Fr R_X11_narrow_1 r0 s' → (12 ≤ v2 ∧ v2 ≤ 10000) → (z_V16 s') → z_T (k s' v2) (P_X11_narrow_1 r0)) : z_T (fX11_narrow_J60 fu s 1 a1 a2 a3 r k) (P_X11_narrow_1 r0) := by
  refine T_of (fX11_narrow_J60.eq_1 ..) ?_
  exact hr s a2 a3 c f (by omega) (by omega) (by omega) p1 (by omega)
theorem sl_X11_narrow_1_L24 {fu : Nat} (hfu : 8589934592 ≤ fu) (r0 : z_M) (a1 : Int) (b1 : -2147483648 ≤ a1 ∧ a1 ≤ 2147483647) {k : z_M → Int → z_O} (hk : ∀ (s' : z_M) (v2 : Int), z_CI s' → z_Fr R_X11_narrow_1 r0 s' → (12 ≤ v2 ∧ v2 ≤ 10000) → (z_V16 s') → z_T (k s' v2) (P_X11_narrow_1 r0)) : ∀ (F : Nat) (s : z_M) (a2 : Int) (a3 : Int), z_CI s → z_Fr R_X11_narrow_1 r0 s → (12 ≤ a2 ∧ a2 ≤ 10000) → (12 ≤ a3 ∧ a3 ≤ 10000) → (a2 ≤ a3) → (z_V16 s) → (a3 - a2 < (F : Int)) → z_T (fX11_narrow_L24 fu 1 a1 F s a2 a3 k) (P_X11_narrow_1 r0) := by
  intro F
  induction F with
  | zero =>
    intro s a2 a3 c f b2 b3 i0 i1 hm
    exfalso; omega
  | succ F ih =>
    intro s a2 a3 c f b2 b3 i0 i1 hm
    refine T_of (fX11_narrow_L24.eq_2 ..) ?_
    refine T_ite (fun h1 => ?_) (fun h1 => ?_)
    · exact hk s a2 c f (by omega) i1
    · refine T_leq (fun x2 e3 => ?_)
      have w4 := z_wb e3
      refine T_if1 (by omega) ?_
      refine T_leq (fun x5 e6 => ?_)
      have w7 := z_wb e6
      have w8 := z_td2 (e := x2)
      refine T_if1 (by decide +kernel) ?_
      refine T_let 296 (by decide +kernel) ?_
      refine T_if1 (by decide +kernel) ?_
      refine T_useI (sf_X8_pageCount_296 hfu s c x5 (by omega)) (fun v14 s9 hq => ?_)
      obtain ⟨c10, f11, ⟨x13, rfl, b15, b16⟩⟩ := hq
      refine T_vI ?_
      have f12 := z_Fr.tr (R := R_X11_narrow_1) f f11 (fun a b h => absurd h not_false)
      have r17 := z_V16.fr i1 (f11 1 16 (by decide)) (f11 191 16 (by decide)) (f11 6 6 (by decide)) (fun b => f11 195 b (nr_X8_pageCount_296__195 b)) (fun b => f11 197 b (nr_X8_pageCount_296__197 b))
      refine T_ite (fun h18 => ?_) (fun h18 => ?_)
      · refine T_leq (fun x19 e20 => ?_)
        have w21 := z_wb e20
        exact sj_X11_narrow_1_J60 hfu r0 s9 c10 f12 a1 x19 a3 (by omega) (by omega) (by omega) (by omega) r17 (a3 - a2) (by omega) (fun s' v2 v3 c' f' w2 w3 z0 z1 pg => ih s' v2 v3 c' f' w2 w3 z0 z1 (by omega)) hk
      · exact sj_X11_narrow_1_J60 hfu r0 s9 c10 f12 a1 a2 x5 (by omega) (by omega) (by omega) (by omega) r17 (a3 - a2) (by omega) (fun s' v2 v3 c' f' w2 w3 z0 z1 pg => ih s' v2 v3 c' f' w2 w3 z0 z1 (by omega)) hk
theorem sj_X11_narrow_1_J75 {fu : Nat} (hfu : 8589934592 ≤ fu) (r0 s : z_M) (c : z_CI s) (f : z_Fr R_X11_narrow_1 r0 s) (t0 : Int) (d0 : -2147483648 ≤ t0 ∧ t0 ≤ 2147483647) (p0 : z_V16 s) : z_T (fX11_narrow_J75 fu s t0) (P_X11_narrow_1 r0) := by
  refine T_of (fX11_narrow_J75.eq_1 ..) ?_
  exact T_ret ⟨c, f, p0, Or.inl (⟨t0, rfl, by omega, by omega⟩)⟩
theorem sf_X11_narrow_1 {fu : Nat} (hfu : 8589934592 ≤ fu) (r0 : z_M) (c0 : z_CI r0) (a1 : Int) (b1 : -2147483648 ≤ a1 ∧ a1 ≤ 2147483647) (p0 : z_V16 r0) : z_T (fX11_narrow fu r0 1 a1) (P_X11_narrow_1 r0) := by
  refine T_of (fX11_narrow.eq_1 ..) ?_
  refine T_if1 (by decide +kernel) ?_
  refine T_nw ?_ (fun h1 h2 => ?_)
  · exact T_ret ⟨CI_up c0 bd_1_15 (z_wb rfl).1, z_Fr.upf (R := R_X11_narrow_1) z_Fr.rf (fun a b h => z_up_k h) (fun b h => z_up_j h) (Or.inr (Or.inr (Or.inr (Or.inr (Or.inr (Or.inr (Or.inr (Or.inr (Or.inl (⟨rfl, by decide⟩)))))))))), z_V16.fr p0 (z_up_j (by decide)) (z_up_k (by decide)) (z_up_k (by decide)) (fun _ => z_up_k (by decide)) (fun _ => z_up_k (by decide)), Or.inr rfl⟩
  refine T_if1 (by decide +kernel) ?_
  refine T_useN (sf_X11_refresh_1 hfu r0 c0 p0) (fun v8 s3 hq => ?_)
  obtain ⟨c4, f5, o9, rfl⟩ := hq
  refine T_vN ?_
  have f6 := z_Fr.tr (R := R_X11_narrow_1) z_Fr.rf f5 rs_X11_refresh_1__X11_narrow_1
  refine T_if1 (by decide +kernel) ?_
  refine T_useN (sf_X11_refreshSides_1 hfu s3 c4 (Or.inr o9)) (fun v17 s12 hq => ?_)
  obtain ⟨c13, f14, o18, rfl⟩ := hq
  refine T_vN ?_
  have f15 := z_Fr.tr (R := R_X11_narrow_1) f6 f14 rs_X11_refreshSides_1__X11_narrow_1
  have r21 := z_U.fr o9 (f14 191 16 (by decide)) (f14 6 6 (by decide)) (fun b => f14 195 b (nr_X11_refreshSides_1__195 b)) (fun b => f14 197 b (nr_X11_refreshSides_1__197 b))
  refine sl_X11_narrow_1_L24 hfu r0 a1 (by omega) (fun s22 y25 c23 f24 b26 g27 => ?_) fu s12 12 10000 c13 f15 (by omega) (by omega) (by omega) o18 (by omega)
  refine T_ite (fun h28 => ?_) (fun h28 => ?_)
  · exact sj_X11_narrow_1_J75 hfu r0 s22 c23 f24 y25 (by omega) g27
  · exact sj_X11_narrow_1_J75 hfu r0 s22 c23 f24 (-1) (by omega) g27
abbrev R_X11_status_1 (a b : Int) : Prop := False
abbrev P_X11_status_1 (r0 : z_M) : z_V → z_M → Prop := fun v s' => z_CI s' ∧ z_Fr R_X11_status_1 r0 s' ∧ (z_V16 s') ∧ (∃ x, v = vI x ∧ -2147483648 ≤ x ∧ x ≤ 2147483647)
theorem sj_X11_status_1_J24 {fu : Nat} (hfu : 8589934592 ≤ fu) (r0 s : z_M) (c : z_CI s) (f : z_Fr R_X11_status_1 r0 s) (t0 : Int) (d0 : -2147483648 ≤ t0 ∧ t0 ≤ 2147483647) (p0 : z_V16 s) : z_T (fX11_status_J24 fu s t0) (P_X11_status_1 r0) := by
  refine T_of (fX11_status_J24.eq_1 ..) ?_
  have u1 := CI_b c (k := 1) (j := 14) bd_1_14
  have u2 := CI_b c (k := 1) (j := 15) bd_1_15
  exact T_ret ⟨c, f, p0, ⟨t0, rfl, by omega, by omega⟩⟩
theorem sf_X11_status_1 {fu : Nat} (hfu : 8589934592 ≤ fu) (r0 : z_M) (c0 : z_CI r0) (a1 : Int) (b1 : -2147483648 ≤ a1 ∧ a1 ≤ 2147483647) (p0 : z_V16 r0) : z_T (fX11_status fu r0 1 a1) (P_X11_status_1 r0) := by
  refine T_of (fX11_status.eq_1 ..) ?_
  refine T_ite (fun h1 => ?_) (fun h1 => ?_)
  · refine T_ite (fun h2 => ?_) (fun h2 => ?_)
    · exact sj_X11_status_1_J24 hfu r0 r0 c0 z_Fr.rf (-1) (by omega) p0
    · refine T_if1 (by decide +kernel) ?_
      refine T_leq (fun x3 e4 => ?_)
      have u5 := CI_b c0 (k := 1) (j := 15) bd_1_15
      exact sj_X11_status_1_J24 hfu r0 r0 c0 z_Fr.rf x3 (by omega) p0
  · refine T_if1 (by decide +kernel) ?_
    refine T_leq (fun x6 e7 => ?_)
    have u8 := CI_b c0 (k := 1) (j := 14) bd_1_14
    exact sj_X11_status_1_J24 hfu r0 r0 c0 z_Fr.rf x6 (by omega) p0
abbrev R_X11_cut_1 (a b : Int) : Prop := (8 ≤ a ∧ a ≤ 18) ∨ (33 ≤ a ∧ a ≤ 190) ∨ (193 ≤ a ∧ a ≤ 219) ∨ (222 ≤ a ∧ a ≤ 222) ∨ (225 ≤ a ∧ a ≤ 239) ∨ (242 ≤ a ∧ a ≤ 244) ∨ (248 ≤ a ∧ a ≤ 248) ∨ (260 ≤ a ∧ a ≤ 278) ∨ (281 ≤ a ∧ a ≤ 295) ∨ (a = 1 ∧ (b = 14 ∨ b = 15 ∨ b = 16 ∨ b = 17 ∨ b = 18)) ∨ (a = 6 ∧ (b = 6 ∨ b = 7)) ∨ (a = 191 ∧ (b = 16 ∨ b = 17 ∨ b = 18)) ∨ (a = 220 ∧ (b = 4 ∨ b = 5)) ∨ (a = 223 ∧ (b = 9)) ∨ (a = 240 ∧ (b = 6)) ∨ (a = 279 ∧ (b = 9))
abbrev P_X11_cut_1 (r0 : z_M) : z_V → z_M → Prop := fun v s' => z_CI s' ∧ z_Fr R_X11_cut_1 r0 s' ∧ (z_V16 s') ∧ ((∃ x, v = vI x ∧ -2147483648 ≤ x ∧ x ≤ 2147483647) ∨ v = vX 0 ∨ v = vX 1)
theorem rs_X11_refresh_1__X11_cut_1 (a b : Int) (h : R_X11_refresh_1 a b) : R_X11_cut_1 a b := (h.elim (fun h => (Or.inr (Or.inr (Or.inl (⟨by omega, by omega⟩))))) (fun h => (h.elim (fun h => (Or.inr (Or.inr (Or.inr (Or.inl (⟨by omega, by omega⟩)))))) (fun h => (h.elim (fun h => (Or.inr (Or.inr (Or.inr (Or.inr (Or.inl (⟨by omega, by omega⟩))))))) (fun h => (h.elim (fun h => (Or.inr (Or.inr (Or.inr (Or.inr (Or.inr (Or.inl (⟨by omega, by omega⟩)))))))) (fun h => (h.elim (fun h => (Or.inr (Or.inr (Or.inr (Or.inr (Or.inr (Or.inr (Or.inl (⟨by omega, by omega⟩))))))))) (fun h => (h.elim (fun h => (Or.inr (Or.inr (Or.inr (Or.inr (Or.inr (Or.inr (Or.inr (Or.inl (⟨by omega, by omega⟩)))))))))) (fun h => (h.elim (fun h => (Or.inr (Or.inr (Or.inr (Or.inr (Or.inr (Or.inr (Or.inr (Or.inr (Or.inl (⟨by omega, by omega⟩))))))))))) (fun h => (h.elim (fun h => (Or.inr (Or.inr (Or.inr (Or.inr (Or.inr (Or.inr (Or.inr (Or.inr (Or.inr (Or.inl (⟨h.1, by omega⟩)))))))))))) (fun h => (h.elim (fun h => (Or.inr (Or.inr (Or.inr (Or.inr (Or.inr (Or.inr (Or.inr (Or.inr (Or.inr (Or.inr (Or.inr (Or.inl (⟨h.1, by omega⟩)))))))))))))) (fun h => (h.elim (fun h => (Or.inr (Or.inr (Or.inr (Or.inr (Or.inr (Or.inr (Or.inr (Or.inr (Or.inr (Or.inr (Or.inr (Or.inr (Or.inl (⟨h.1, by omega⟩))))))))))))))) (fun h => (h.elim (fun h => (Or.inr (Or.inr (Or.inr (Or.inr (Or.inr (Or.inr (Or.inr (Or.inr (Or.inr (Or.inr (Or.inr (Or.inr (Or.inr (Or.inl (⟨h.1, by omega⟩)))))))))))))))) (fun h => (h.elim (fun h => (Or.inr (Or.inr (Or.inr (Or.inr (Or.inr (Or.inr (Or.inr (Or.inr (Or.inr (Or.inr (Or.inr (Or.inr (Or.inr (Or.inr (Or.inl (⟨h.1, by omega⟩))))))))))))))))) (fun h => (Or.inr (Or.inr (Or.inr (Or.inr (Or.inr (Or.inr (Or.inr (Or.inr (Or.inr (Or.inr (Or.inr (Or.inr (Or.inr (Or.inr (Or.inr (⟨h.1, by omega⟩))))))))))))))))))))))))))))))))))))))))
theorem rs_X2_keep_33_6__X11_cut_1 (a b : Int) (h : R_X2_keep_33_6 a b) : R_X11_cut_1 a b := (Or.inr (Or.inl (⟨by omega, by omega⟩)))
theorem rs_X9_drop_6__X11_cut_1 (a b : Int) (h : R_X9_drop_6 a b) : R_X11_cut_1 a b := (h.elim (fun h => (Or.inl (⟨by omega, by omega⟩))) (fun h => (Or.inr (Or.inr (Or.inr (Or.inr (Or.inr (Or.inr (Or.inr (Or.inr (Or.inr (Or.inr (Or.inl (⟨h.1, by omega⟩))))))))))))))
theorem nr_X9_drop_6__195 (b : Int) : ¬ R_X9_drop_6 195 b := by
  unfold R_X9_drop_6; omega
theorem nr_X9_drop_6__197 (b : Int) : ¬ R_X9_drop_6 197 b := by
  unfold R_X9_drop_6; omega
theorem sf_X11_cut_1 {fu : Nat} (hfu : 8589934592 ≤ fu) (r0 : z_M) (c0 : z_CI r0) (a1 : Int) (a2 : Int) (b1 : -2147483648 ≤ a1 ∧ a1 ≤ 2147483647) (b2 : -2147483648 ≤ a2 ∧ a2 ≤ 2147483647) (p0 : z_V16 r0) : z_T (fX11_cut fu r0 1 a1 a2) (P_X11_cut_1 r0) := by
  refine T_of (fX11_cut.eq_1 ..) ?_
  refine T_if1 (by decide +kernel) ?_
  refine T_useN (sf_X11_refresh_1 hfu r0 c0 p0) (fun v6 s1 hq => ?_)
  obtain ⟨c2, f3, o7, rfl⟩ := hq
  refine T_vN ?_
  have f4 := z_Fr.tr (R := R_X11_cut_1) z_Fr.rf f3 rs_X11_refresh_1__X11_cut_1
  have u10 := CI_b c2 (k := 191) (j := 16) bd_191_16
  refine T_if1 (by decide +kernel) ?_
  refine T_let 191 (by decide +kernel) ?_
  refine T_if1 (by decide +kernel) ?_
  refine T_leq (fun x11 e12 => ?_)
  have u13 := CI_b c2 (k := 191) (j := 16) bd_191_16
  refine T_if1 (by decide +kernel) ?_
  refine T_ne ?_ (fun h14 h15 => ?_)
  · exact T_ret ⟨CI_up c2 bd_1_14 (z_wb rfl).1, z_Fr.upf (R := R_X11_cut_1) f4 (fun a b h => z_up_k h) (fun b h => z_up_j h) (Or.inr (Or.inr (Or.inr (Or.inr (Or.inr (Or.inr (Or.inr (Or.inr (Or.inr (Or.inl (⟨rfl, by decide⟩))))))))))), Or.inr (z_U.fr o7 (z_up_k (by decide)) (z_up_k (by decide)) (fun _ => z_up_k (by decide)) (fun _ => z_up_k (by decide))), Or.inr (Or.inl rfl)⟩
  refine T_if1 (by decide +kernel) ?_
  refine T_let 191 (by decide +kernel) ?_
  refine T_if1 (by decide +kernel) ?_
  refine T_leq (fun x16 e17 => ?_)
  have u18 := CI_b c2 (k := 191) (j := 16) bd_191_16
  refine T_if1 (by decide +kernel) ?_
  refine T_ne ?_ (fun h19 h20 => ?_)
  · exact T_ret ⟨CI_up c2 bd_1_14 (z_wb rfl).1, z_Fr.upf (R := R_X11_cut_1) f4 (fun a b h => z_up_k h) (fun b h => z_up_j h) (Or.inr (Or.inr (Or.inr (Or.inr (Or.inr (Or.inr (Or.inr (Or.inr (Or.inr (Or.inl (⟨rfl, by decide⟩))))))))))), Or.inr (z_U.fr o7 (z_up_k (by decide)) (z_up_k (by decide)) (fun _ => z_up_k (by decide)) (fun _ => z_up_k (by decide))), Or.inr (Or.inl rfl)⟩
  refine T_if1 (by decide +kernel) ?_
  refine T_let 191 (by decide +kernel) ?_
  refine T_if1 (by decide +kernel) ?_
  refine T_leq (fun x21 e22 => ?_)
  have u23 := CI_b c2 (k := 191) (j := 16) bd_191_16
  refine T_if1 (by decide +kernel) ?_
  refine T_nw ?_ (fun h24 h25 => ?_)
  · exact T_ret ⟨CI_up c2 bd_1_15 (z_wb rfl).1, z_Fr.upf (R := R_X11_cut_1) f4 (fun a b h => z_up_k h) (fun b h => z_up_j h) (Or.inr (Or.inr (Or.inr (Or.inr (Or.inr (Or.inr (Or.inr (Or.inr (Or.inr (Or.inl (⟨rfl, by decide⟩))))))))))), Or.inr (z_U.fr o7 (z_up_k (by decide)) (z_up_k (by decide)) (fun _ => z_up_k (by decide)) (fun _ => z_up_k (by decide))), Or.inr (Or.inr rfl)⟩
  refine T_if1 (by decide +kernel) ?_
  refine T_let 33 (by decide +kernel) ?_
  refine T_if1 (by decide +kernel) ?_
  refine T_let 6 (by decide +kernel) ?_
  refine T_if1 (by decide +kernel) ?_
  refine T_useN (sf_X2_keep_33_6 hfu s1 c2) (fun v31 s26 hq => ?_)
  obtain ⟨c27, f28, rfl⟩ := hq
  refine T_vN ?_
  have f29 := z_Fr.tr (R := R_X11_cut_1) f4 f28 rs_X2_keep_33_6__X11_cut_1
  have t34 : s26 191 16 = s1 191 16 := f28 191 16 (by decide)
  have r35 := z_U.fr o7 (f28 191 16 (by decide)) (f28 6 6 (by decide)) (fun b => f28 195 b (nr_X2_keep_33_6__195 b)) (fun b => f28 197 b (nr_X2_keep_33_6__197 b))
  refine T_if1 (by decide +kernel) ?_
  refine T_let 6 (by decide +kernel) ?_
  refine T_if1 (by decide +kernel) ?_
  refine T_let 191 (by decide +kernel) ?_
  refine T_if1 (by decide +kernel) ?_
  refine T_let 194 (by decide +kernel) ?_
  refine T_if1 (by decide +kernel) ?_
  refine T_get (by decide +kernel) (c := 195) (by decide +kernel) bdr_195 (by decide) c27 (fun x36 e37 b38 w39 => ?_)
  have l40 : z_ln 194 = 200 := by decide +kernel
  refine T_if1 (by decide +kernel) ?_
  refine T_let 191 (by decide +kernel) ?_
  refine T_if1 (by decide +kernel) ?_
  refine T_let 194 (by decide +kernel) ?_
  refine T_if1 (by decide +kernel) ?_
  refine T_get (by decide +kernel) (c := 195) (by decide +kernel) bdr_195 (by decide) c27 (fun x41 e42 b43 w44 => ?_)
  have l45 : z_ln 194 = 200 := by decide +kernel
  refine T_if1 (by decide +kernel) ?_
  refine T_let 191 (by decide +kernel) ?_
  refine T_if1 (by decide +kernel) ?_
  refine T_let 196 (by decide +kernel) ?_
  refine T_if1 (by decide +kernel) ?_
  refine T_get (by decide +kernel) (c := 197) (by decide +kernel) bdr_197 (by decide) c27 (fun x46 e47 b48 w49 => ?_)
  have l50 : z_ln 196 = 200 := by decide +kernel
  refine T_leq (fun x51 e52 => ?_)
  have w53 := z_wb e52
  refine T_if1 (by decide +kernel) ?_
  have gd := CI_b c27 (k := 6) (j := 6) bd_6_6
  have ga := r35.1 a1 (by omega) (by omega)
  have gb := r35.1 a2 (by omega) (by omega)
  have gc := r35.2 a1 a2 (by omega) (by omega) (by omega)
  have qa : x36 = s26 195 a1 := by rw [← e37, z_rg_in ⟨by omega, by rw [l40]; omega⟩, show z_gr 194 0 = 195 by decide +kernel]
  have qb : x41 = s26 195 a2 := by rw [← e42, z_rg_in ⟨by omega, by rw [l45]; omega⟩, show z_gr 194 0 = 195 by decide +kernel]
  have qc : x46 = s26 197 a2 := by rw [← e47, z_rg_in ⟨by omega, by rw [l50]; omega⟩, show z_gr 196 0 = 197 by decide +kernel]
  refine T_useN (sf_X9_drop_6 hfu s26 c27 x36 x51 (by omega) (by omega) (by omega) (by omega) (by omega)) (fun v59 s54 hq => ?_)
  obtain ⟨c55, f56, rfl⟩ := hq
  refine T_vN ?_
  have f57 := z_Fr.tr (R := R_X11_cut_1) f29 f56 rs_X9_drop_6__X11_cut_1
  have t62 : s54 191 16 = s26 191 16 := f56 191 16 (by decide)
  refine T_if1 ⟨(by decide +kernel), by unfold z_bl; omega⟩ ?_
  refine T_upg c55 bd_1_16 (by omega) (fun s63 c64 g66 g67 e68 => ?_)
  have f65 := z_Fr.upf (R := R_X11_cut_1) f57 g66 g67 (Or.inr (Or.inr (Or.inr (Or.inr (Or.inr (Or.inr (Or.inr (Or.inr (Or.inr (Or.inl (⟨rfl, by decide⟩)))))))))))
  have t69 : s63 191 16 = s54 191 16 := g66 191 16 (by decide)
  refine T_if1 (by decide +kernel) ?_
  refine T_useN (sf_X11_refresh_1 hfu s63 c64 (Or.inl (by omega))) (fun v75 s70 hq => ?_)
  obtain ⟨c71, f72, o76, rfl⟩ := hq
  refine T_vN ?_
  have f73 := z_Fr.tr (R := R_X11_cut_1) f65 f72 rs_X11_refresh_1__X11_cut_1
  have u79 := CI_b c71 (k := 191) (j := 16) bd_191_16
  refine T_if1 (by decide +kernel) ?_
  refine T_let 191 (by decide +kernel) ?_
  refine T_if1 (by decide +kernel) ?_
  refine T_leq (fun x80 e81 => ?_)
  have u82 := CI_b c71 (k := 191) (j := 16) bd_191_16
  exact T_ret ⟨c71, f73, (Or.inr o76), Or.inl (⟨x80, rfl, by omega, by omega⟩)⟩
