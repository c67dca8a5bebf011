/-! THE SETTINGS, the class's side -/
theorem y_putc {s s' : z_M} {k c i v n : Int} (hc : z_gr k 0 = c) (hl : z_ln k = n) (h : 0 ≤ i ∧ i < n) (e : s' = z_rp s k i v) : s' c i = v ∧ ∀ b : Int, b ≠ i → s' c b = s c b := by
  have e1 : s' = z_up s c i v := by rw [e, z_rp_in ⟨h.1, by rw [hl]; exact h.2⟩, hc]
  rw [e1]
  exact ⟨z_up_s, fun b q => z_up_j q⟩
theorem y_getc {s : z_M} {k c i x n : Int} (hc : z_gr k 0 = c) (hl : z_ln k = n) (h : 0 ≤ i ∧ i < n) (e : z_rg s k i = x) : s c i = x := by
  rw [← e, z_rg_in ⟨h.1, by rw [hl]; exact h.2⟩, hc]
def y_SG (i v : Int) : Prop := 0 ≤ i ∧ i ≤ 8 ∧ z_tb 0 i.toNat ≤ v ∧ v ≤ z_tb 1 i.toNat
def y_CS (r s : z_M) (i v x : Int) : Prop := y_SG i v ∧ x = r 3 i ∧ s 3 i = v ∧ ∀ j : Int, j ≠ i → s 3 j = r 3 j
theorem y_CS.fr {r s s' : z_M} {i v x : Int} (h : y_CS r s i v x) (g : ∀ a b : Int, a ≠ 1 → s' a b = s a b) : y_CS r s' i v x := ⟨h.1, h.2.1, (g 3 i (by decide)).trans h.2.2.1, fun j q => (g 3 j (by decide)).trans (h.2.2.2 j q)⟩
abbrev P_X11_set_1S (r0 : z_M) (i v : Int) : z_V → z_M → Prop := fun w s' => z_CI s' ∧ z_Fr R_X11_set_1 r0 s' ∧ (z_V16 s') ∧ ((∃ x, w = vI x ∧ -2147483648 ≤ x ∧ x ≤ 2147483647 ∧ y_CS r0 s' i v x) ∨ (w = vX 1 ∧ ¬ y_SG i v ∧ ∀ j : Int, s' 3 j = r0 3 j))
theorem sj_X11_set_1_J79S {fu : Nat} (hfu : 8589934592 ≤ fu) (r0 s : z_M) (c : z_CI s) (f : z_Fr R_X11_set_1 r0 s) (a3 : Int) (b3 : -2147483648 ≤ a3 ∧ a3 ≤ 2147483647) (p0 : z_V16 s) {i v : Int} (hv : y_CS r0 s i v a3) : z_T (fX11_set_J79 fu s a3) (P_X11_set_1S r0 i v) := by
  refine T_of (fX11_set_J79.eq_1 ..) ?_
  exact T_ret ⟨c, f, p0, Or.inl ⟨a3, rfl, b3.1, b3.2, hv⟩⟩
theorem sf_X11_set_1S {fu : Nat} (hfu : 8589934592 ≤ fu) (r0 : z_M) (c0 : z_CI r0) (a1 : Int) (a2 : Int) (b1 : -2147483648 ≤ a1 ∧ a1 ≤ 2147483647) (b2 : -2147483648 ≤ a2 ∧ a2 ≤ 2147483647) (p0 : z_V16 r0) : z_T (fX11_set fu r0 1 a1 a2) (P_X11_set_1S r0 a1 a2) := by
  refine T_of (fX11_set.eq_1 ..) ?_
  refine T_if1 (by decide) ?_
  refine T_leq (fun x1 e2 => ?_)
  have w3 := z_wr e2
  have hx1 : x1 = 8 := by rw [← e2]; decide +kernel
  refine T_if1 (by decide +kernel) ?_
  refine T_nwn (fun hn => ?_) (fun h4 h5 => ?_)
  · exact T_ret ⟨CI_up c0 bd_1_15 (z_wb rfl).1, z_Fr.upf (R := R_X11_set_1) z_Fr.rf (fun a b h => z_up_k h) (fun b h => z_up_j h) (Or.inr (⟨rfl, by decide⟩)), z_V16.fr p0 (z_up_j (by decide)) (z_up_k (by decide)) (z_up_k (by decide)) (fun _ => z_up_k (by decide)) (fun _ => z_up_k (by decide)), Or.inr ⟨rfl, fun g => hn ⟨g.1, by have := g.2.1; omega⟩, fun j => z_up_k (by decide)⟩⟩
  refine T_pick (by decide) (fun x6 e7 b8 => ?_)
  have hx2 : z_tb 0 a1.toNat = x6 := by rw [← e7, if_pos ⟨h4, by omega⟩]
  refine T_pick (by decide) (fun x9 e10 b11 => ?_)
  have hx3 : z_tb 1 a1.toNat = x9 := by rw [← e10, if_pos ⟨h4, by omega⟩]
  refine T_if1 (by decide +kernel) ?_
  refine T_nwn (fun hn => ?_) (fun h12 h13 => ?_)
  · exact T_ret ⟨CI_up c0 bd_1_15 (z_wb rfl).1, z_Fr.upf (R := R_X11_set_1) z_Fr.rf (fun a b h => z_up_k h) (fun b h => z_up_j h) (Or.inr (⟨rfl, by decide⟩)), z_V16.fr p0 (z_up_j (by decide)) (z_up_k (by decide)) (z_up_k (by decide)) (fun _ => z_up_k (by decide)) (fun _ => z_up_k (by decide)), Or.inr ⟨rfl, fun g => hn ⟨by have := g.2.2.1; omega, by have := g.2.2.2; omega⟩, fun j => z_up_k (by decide)⟩⟩
  refine T_if1 (by decide +kernel) ?_
  refine T_let 2 (by decide +kernel) ?_
  refine T_if1 (by decide +kernel) ?_
  refine T_get (by decide +kernel) (c := 3) (by decide +kernel) bdr_3 (by decide) c0 (fun x14 e15 b16 w17 => ?_)
  have l18 : z_ln 2 = 9 := by decide +kernel
  refine T_if1 (by decide +kernel) ?_
  refine T_let 2 (by decide +kernel) ?_
  refine T_if1 (by decide +kernel) ?_
  refine T_put (by decide +kernel) (c := 3) (by decide +kernel) bdr_3 (by omega) c0 (fun s19 e22 c20 g23 => ?_)
  have pu := y_putc (c := 3) (by decide +kernel) l18 ⟨h4, by omega⟩ e22
  have hs0 : y_CS r0 s19 a1 a2 x14 := ⟨⟨h4, by omega, by omega, by omega⟩, (y_getc (c := 3) (by decide +kernel) l18 ⟨h4, by omega⟩ e15).symm, pu.1, pu.2⟩
  have f21 := z_Fr.up (R := R_X11_set_1) z_Fr.rf g23 (fun _ => (Or.inl (⟨by decide, by decide⟩)))
  have r24 := z_V16.fr p0 (g23 1 16 (by decide)) (g23 191 16 (by decide)) (g23 6 6 (by decide)) (fun b => g23 195 b (by decide)) (fun b => g23 197 b (by decide))
  refine T_if1 ⟨(by decide +kernel), by unfold z_bl; omega⟩ ?_
  refine T_upg c20 bd_1_17 (by omega) (fun s25 c26 g28 g29 e30 => ?_)
  have hs1 := y_CS.fr hs0 g28
  have f27 := z_Fr.upf (R := R_X11_set_1) f21 g28 g29 (Or.inr (⟨rfl, by decide⟩))
  have r31 := z_V16.fr r24 (g29 16 (by decide)) (g28 191 16 (by decide)) (g28 6 6 (by decide)) (fun b => g28 195 b (by decide)) (fun b => g28 197 b (by decide))
  refine T_ite (fun h32 => ?_) (fun h32 => ?_)
  · exact sj_X11_set_1_J79S hfu r0 s25 c26 f27 x14 (by omega) r31 hs1
  · refine T_ite (fun h33 => ?_) (fun h33 => ?_)
    · exact sj_X11_set_1_J79S hfu r0 s25 c26 f27 x14 (by omega) r31 hs1
    · refine T_ite (fun h34 => ?_) (fun h34 => ?_)
      · exact sj_X11_set_1_J79S hfu r0 s25 c26 f27 x14 (by omega) r31 hs1
      · refine T_ite (fun h35 => ?_) (fun h35 => ?_)
        · exact sj_X11_set_1_J79S hfu r0 s25 c26 f27 x14 (by omega) r31 hs1
        · refine T_if1 ⟨(by decide +kernel), by unfold z_bl; omega⟩ ?_
          refine T_upg c26 bd_1_16 (by omega) (fun s36 c37 g39 g40 e41 => ?_)
          have hs2 := y_CS.fr hs1 g39
          have f38 := z_Fr.upf (R := R_X11_set_1) f27 g39 g40 (Or.inr (⟨rfl, by decide⟩))
          exact sj_X11_set_1_J79S hfu r0 s36 c37 f38 x14 (by omega) (Or.inl (by omega)) hs2
abbrev P_X11_moves_1S (r0 : z_M) : z_V → z_M → Prop := fun v s' => z_CI s' ∧ z_Fr R_X11_moves_1 r0 s' ∧ (z_V16 s') ∧ (∀ j : Int, s' 3 j = r0 3 j) ∧ (∃ x, v = vI x ∧ -2147483648 ≤ x ∧ x ≤ 2147483647)
theorem sf_X11_moves_1S {fu : Nat} (hfu : 8589934592 ≤ fu) (r0 : z_M) (c0 : z_CI r0) (p0 : z_V16 r0) : z_T (fX11_moves fu r0 1) (P_X11_moves_1S r0) := by
  refine T_of (fX11_moves.eq_1 ..) ?_
  refine T_if1 (by decide +kernel) ?_
  refine T_useN (sf_X11_refresh_1 hfu r0 c0 p0) (fun v6 s1 hq => ?_)
  obtain ⟨c2, f3, o7, rfl⟩ := hq
  have m0 : ∀ b : Int, s1 3 b = r0 3 b := fun b => (f3 3 b (by unfold R_X11_refresh_1; omega))
  refine T_vN ?_
  have f4 := z_Fr.tr (R := R_X11_moves_1) z_Fr.rf f3 rs_X11_refresh_1__X11_moves_1
  refine T_if1 (by decide +kernel) ?_
  refine T_let 2 (by decide +kernel) ?_
  refine T_if1 (by decide +kernel) ?_
  refine T_let 2 (by decide +kernel) ?_
  refine T_if1 (by decide +kernel) ?_
  refine T_get (by decide +kernel) (c := 3) (by decide +kernel) bdr_3 (by decide) c2 (fun x10 e11 b12 w13 => ?_)
  have l14 : z_ln 2 = 9 := by decide +kernel
  have qe11 := y_getc (c := 3) (by decide +kernel) l14 ⟨by omega, by omega⟩ e11
  refine T_leq (fun x15 e16 => ?_)
  have w17 := z_wb e16
  refine T_if1 (by decide +kernel) ?_
  refine T_put (by decide +kernel) (c := 3) (by decide +kernel) bdr_3 (by omega) c2 (fun s18 e21 c19 g22 => ?_)
  have pu1 := y_putc (c := 3) (by decide +kernel) l14 ⟨by omega, by omega⟩ e21
  have f20 := z_Fr.up (R := R_X11_moves_1) f4 g22 (fun _ => (Or.inl (⟨by decide, by decide⟩)))
  have r23 := z_U.fr o7 (g22 191 16 (by decide)) (g22 6 6 (by decide)) (fun b => g22 195 b (by decide)) (fun b => g22 197 b (by decide))
  refine T_if1 (by decide +kernel) ?_
  refine T_let 191 (by decide +kernel) ?_
  refine T_if1 (by decide +kernel) ?_
  refine T_useN (sf_X10_build_191 hfu s18 c19) (fun v29 s24 hq => ?_)
  obtain ⟨c25, f26, o30, rfl⟩ := hq
  have m2 : ∀ b : Int, s24 3 b = s18 3 b := fun b => (f26 3 b (by unfold R_X10_build_191; omega))
  refine T_vN ?_
  have f27 := z_Fr.tr (R := R_X11_moves_1) f20 f26 rs_X10_build_191__X11_moves_1
  refine T_if1 (by decide +kernel) ?_
  refine T_let 220 (by decide +kernel) ?_
  refine T_if1 (by decide +kernel) ?_
  refine T_useN (sf_X5_forget_220 hfu s24 c25) (fun v38 s33 hq => ?_)
  obtain ⟨c34, f35, rfl⟩ := hq
  have m3 : ∀ b : Int, s33 3 b = s18 3 b := fun b => (f35 3 b (by unfold R_X5_forget_220; omega)).trans (m2 b)
  refine T_vN ?_
  have f36 := z_Fr.tr (R := R_X11_moves_1) f27 f35 rs_X5_forget_220__X11_moves_1
  have r41 := z_U.fr o30 (f35 191 16 (by decide)) (f35 6 6 (by decide)) (fun b => f35 195 b (nr_X5_forget_220__195 b)) (fun b => f35 197 b (nr_X5_forget_220__197 b))
  refine T_if1 (by decide +kernel) ?_
  refine T_let 249 (by decide +kernel) ?_
  refine T_if1 (by decide +kernel) ?_
  refine T_let 2 (by decide +kernel) ?_
  refine T_if1 (by decide +kernel) ?_
  refine T_get (by decide +kernel) (c := 3) (by decide +kernel) bdr_3 (by decide) c34 (fun x42 e43 b44 w45 => ?_)
  have l46 : z_ln 2 = 9 := by decide +kernel
  have qe43 := y_getc (c := 3) (by decide +kernel) l46 ⟨by omega, by omega⟩ e43
  refine T_if1 (by decide +kernel) ?_
  refine T_let 2 (by decide +kernel) ?_
  refine T_if1 (by decide +kernel) ?_
  refine T_get (by decide +kernel) (c := 3) (by decide +kernel) bdr_3 (by decide) c34 (fun x47 e48 b49 w50 => ?_)
  have l51 : z_ln 2 = 9 := by decide +kernel
  have qe48 := y_getc (c := 3) (by decide +kernel) l51 ⟨by omega, by omega⟩ e48
  refine T_if1 (by decide +kernel) ?_
  refine T_useN (sf_X1_go_249 hfu s33 c34 x42 x47 (by omega) (by omega)) (fun v57 s52 hq => ?_)
  obtain ⟨c53, f54, rfl⟩ := hq
  have m4 : ∀ b : Int, s52 3 b = s18 3 b := fun b => (f54 3 b (by unfold R_X1_go_249; omega)).trans (m3 b)
  refine T_vN ?_
  have f55 := z_Fr.tr (R := R_X11_moves_1) f36 f54 rs_X1_go_249__X11_moves_1
  have r60 := z_U.fr r41 (f54 191 16 (by decide)) (f54 6 6 (by decide)) (fun b => f54 195 b (nr_X1_go_249__195 b)) (fun b => f54 197 b (nr_X1_go_249__197 b))
  refine T_if1 (by decide +kernel) ?_
  refine T_let 249 (by decide +kernel) ?_
  refine T_if1 (by decide +kernel) ?_
  refine T_let 258 (by decide +kernel) ?_
  refine T_if1 (by decide +kernel) ?_
  refine T_let 259 (by decide +kernel) ?_
  refine T_if1 (by decide +kernel) ?_
  refine T_useI (sf_X1_movedFrom_249_259 hfu s52 c53) (fun v66 s61 hq => ?_)
  obtain ⟨c62, f63, ⟨x65, rfl, b67, b68⟩⟩ := hq
  have m5 : ∀ b : Int, s61 3 b = s18 3 b := fun b => (f63 3 b not_false).trans (m4 b)
  refine T_vI ?_
  have f64 := z_Fr.tr (R := R_X11_moves_1) f55 f63 (fun a b h => absurd h not_false)
  have r69 := z_U.fr r60 (f63 191 16 (by decide)) (f63 6 6 (by decide)) (fun b => f63 195 b (nr_X1_movedFrom_249_259__195 b)) (fun b => f63 197 b (nr_X1_movedFrom_249_259__197 b))
  refine T_if1 (by decide +kernel) ?_
  refine T_let 2 (by decide +kernel) ?_
  refine T_if1 (by decide +kernel) ?_
  refine T_let 2 (by decide +kernel) ?_
  refine T_if1 (by decide +kernel) ?_
  refine T_get (by decide +kernel) (c := 3) (by decide +kernel) bdr_3 (by decide) c62 (fun x70 e71 b72 w73 => ?_)
  have l74 : z_ln 2 = 9 := by decide +kernel
  have qe71 := y_getc (c := 3) (by decide +kernel) l74 ⟨by omega, by omega⟩ e71
  refine T_leq (fun x75 e76 => ?_)
  have w77 := z_wb e76
  refine T_if1 (by decide +kernel) ?_
  refine T_put (by decide +kernel) (c := 3) (by decide +kernel) bdr_3 (by omega) c62 (fun s78 e81 c79 g82 => ?_)
  have pu6 := y_putc (c := 3) (by decide +kernel) l74 ⟨by omega, by omega⟩ e81
  have f80 := z_Fr.up (R := R_X11_moves_1) f64 g82 (fun _ => (Or.inl (⟨by decide, by decide⟩)))
  have r83 := z_U.fr r69 (g82 191 16 (by decide)) (g82 6 6 (by decide)) (fun b => g82 195 b (by decide)) (fun b => g82 197 b (by decide))
  refine T_if1 ⟨(by decide +kernel), by unfold z_bl; omega⟩ ?_
  refine T_upg c79 bd_1_16 (by omega) (fun s84 c85 g87 g88 e89 => ?_)
  have hz : ∀ j : Int, s84 3 j = r0 3 j := fun j => by
    rw [g87 3 j (by decide)]
    by_cases q : j = 5
    · subst q
      have y1 := m0 5
      have y2 := m5 5
      have y3 := pu1.1
      have y4 := pu6.1
      have y5 := CI_b c0 (k := 3) (j := 5) (bdr_3 5)
      have y6 := e16
      have y7 := e76
      rw [y4, ← y7]
      unfold z_w at *
      omega
    · rw [pu6.2 j q, m5 j, pu1.2 j q, m0 j]
  have f86 := z_Fr.upf (R := R_X11_moves_1) f80 g87 g88 (Or.inr (Or.inr (Or.inr (Or.inr (Or.inr (Or.inr (Or.inr (Or.inr (Or.inr (Or.inr (Or.inl (⟨rfl, by decide⟩))))))))))))
  have r90 := z_U.fr r83 (g87 191 16 (by decide)) (g87 6 6 (by decide)) (fun b => g87 195 b (by decide)) (fun b => g87 197 b (by decide))
  exact T_ret ⟨c85, f86, (Or.inr r90), hz, ⟨x65, rfl, by omega, by omega⟩⟩
