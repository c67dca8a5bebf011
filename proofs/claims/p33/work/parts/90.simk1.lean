/-! what the reference has kept stays right: its functions once more (by program, wip/tool/mksim.py, simspeck) -/
def y_KQ (s : z_M) (t : Int) : Prop := t = 0 ∨ y_KM s
theorem y_KQ.m {s : z_M} {t : Int} (h : y_KQ s t) (n : t ≠ 0) : y_KM s := h.resolve_left n
theorem y_KQ.cg {s : z_M} {t t' : Int} (h : y_KQ s t) (e : t' = t) : y_KQ s t' := by rw [e]; exact h
theorem y_KQ.fr {s s' : z_M} {t : Int} (h : y_KQ s t) (e20 : s' 309 20 = s 309 20) (e36 : s' 309 36 = s 309 36) (e38 : s' 309 38 = s 309 38) (e39 : s' 309 39 = s 309 39) (g : ∀ b, s' 312 b = s 312 b) (c1 : ∀ b, s' 331 b = s 331 b) (c2 : ∀ b, s' 346 b = s 346 b) (c3 : ∀ b, s' 361 b = s 361 b) (c4 : ∀ b, s' 391 b = s 391 b) (c5 : ∀ a b : Int, 407 ≤ a ∧ a ≤ 606 → s' a b = s a b) (c6 : ∀ a b : Int, 3220 ≤ a ∧ a ≤ 3223 → s' a b = s a b) (c7 : ∀ a b : Int, 3235 ≤ a ∧ a ≤ 3437 → s' a b = s a b) : y_KQ s' t :=
  h.imp id (fun k => k.fr e20 e36 e38 e39 g c1 c2 c3 c4 c5 c6 c7)
theorem nz_X12_laysLetters_309__3452_3651 (a b : Int) (h : 3452 ≤ a ∧ a ≤ 3651) : ¬ R_X12_laysLetters_309 a b := by
  unfold R_X12_laysLetters_309; omega
theorem nz_X12_laysLetters_309__316_328 (a b : Int) (h : 316 ≤ a ∧ a ≤ 328) : ¬ R_X12_laysLetters_309 a b := by
  unfold R_X12_laysLetters_309; omega
theorem nz_X12_laysLetters_309__346_358 (a b : Int) (h : 346 ≤ a ∧ a ≤ 358) : ¬ R_X12_laysLetters_309 a b := by
  unfold R_X12_laysLetters_309; omega
theorem nz_X12_laysLetters_309__361_373 (a b : Int) (h : 361 ≤ a ∧ a ≤ 373) : ¬ R_X12_laysLetters_309 a b := by
  unfold R_X12_laysLetters_309; omega
theorem nz_X12_clashOf_309__3452_3651 (a b : Int) (h : 3452 ≤ a ∧ a ≤ 3651) : ¬ R_X12_clashOf_309 a b := by
  unfold R_X12_clashOf_309; omega
theorem nz_X12_clashOf_309__316_328 (a b : Int) (h : 316 ≤ a ∧ a ≤ 328) : ¬ R_X12_clashOf_309 a b := by
  unfold R_X12_clashOf_309; omega
theorem nz_X12_clashOf_309__346_358 (a b : Int) (h : 346 ≤ a ∧ a ≤ 358) : ¬ R_X12_clashOf_309 a b := by
  unfold R_X12_clashOf_309; omega
theorem nz_X12_clashOf_309__361_373 (a b : Int) (h : 361 ≤ a ∧ a ≤ 373) : ¬ R_X12_clashOf_309 a b := by
  unfold R_X12_clashOf_309; omega
theorem nz_X12_sideOf_309__3452_3651 (a b : Int) (h : 3452 ≤ a ∧ a ≤ 3651) : ¬ R_X12_sideOf_309 a b := by
  unfold R_X12_sideOf_309; omega
theorem nz_X12_sideOf_309__316_328 (a b : Int) (h : 316 ≤ a ∧ a ≤ 328) : ¬ R_X12_sideOf_309 a b := by
  unfold R_X12_sideOf_309; omega
theorem nz_X12_sideOf_309__346_358 (a b : Int) (h : 346 ≤ a ∧ a ≤ 358) : ¬ R_X12_sideOf_309 a b := by
  unfold R_X12_sideOf_309; omega
theorem nz_X12_sideOf_309__361_373 (a b : Int) (h : 361 ≤ a ∧ a ≤ 373) : ¬ R_X12_sideOf_309 a b := by
  unfold R_X12_sideOf_309; omega
abbrev P_X12_copies_309K (r0 : z_M) (a1 : Int) (a2 : Int) : z_V → z_M → Prop := fun v s' => z_CI s' ∧ z_Fr R_X12_copies_309 r0 s' ∧ (y_CP r0 s' a1 a2 3 200) ∧ (y_KQ s' a2) ∧ (v = vN)
theorem sf_X12_copies_309K {fu : Nat} (hfu : 8589934592 ≤ fu) (r0 : z_M) (c0 : z_CI r0) (a1 : Int) (a2 : Int) (b1 : 0 ≤ a1 ∧ a1 ≤ 13) (b2 : 0 ≤ a2 ∧ a2 ≤ 13) (p0 : a1 ≠ a2) (p1 : y_KM r0) : z_T (fX12_copies fu r0 309 a1 a2) (P_X12_copies_309K r0 a1 a2) := by
  refine T_mono (sf_X12_copies_309T hfu r0 c0 a1 a2 b1 b2 p0) (fun v s h => ?_)
  obtain ⟨c, fr, cp, cf, cl, e⟩ := h
  refine ⟨c, fr, cp, ?_, e⟩
  by_cases z : a2 = 0
  · exact Or.inl z
  · have k := cf.2.2 0 (by decide) (by decide) (fun w => z w.symm)
    have l := cl.2 0 (by decide) (by decide) (fun w => z w.symm)
    have n : ∀ x y : Int, ¬ R_X12_copies_309 x y → s x y = r0 x y := fun x y w => fr x y w
    have m : ∀ x y : Int, x < 316 ∨ 3220 ≤ x → s x y = r0 x y := fun x y w => n x y (by unfold R_X12_copies_309; omega)
    refine Or.inr (p1.fr (m _ _ (by omega)) (m _ _ (by omega)) (m _ _ (by omega)) (m _ _ (by omega)) (fun b => m _ _ (by omega)) (fun b => ?_) (fun b => ?_) (fun b => ?_) (fun b => ?_) (fun a b q => ?_) (fun a b q => m _ _ (by omega)) (fun a b q => m _ _ (by omega)))
    · have w := (k b).2.1; simpa using w
    · have w := (k b).2.2.1; simpa using w
    · have w := (k b).2.2.2.1; simpa using w
    · have w := l.1 b; simpa using w
    · have w := l.2 (a - 407) b (by omega) (by omega)
      rwa [show 407 + 201 * 0 + (a - 407) = a by omega] at w
abbrev P_X12_freshens_309K (r0 : z_M) : z_V → z_M → Prop := fun v s' => z_CI s' ∧ z_Fr R_X12_freshens_309 r0 s' ∧ (s' 309 36 ≠ 0) ∧ (r0 309 36 = 0 ∨ s' 309 43 = r0 309 43) ∧ (s' 309 43 = 0 ∨ s' 309 36 = 0 ∨ (r0 309 36 ≠ 0 ∧ r0 309 43 ≠ 0)) ∧ (r0 309 36 = 0 ∨ s' 309 36 ≠ 0) ∧ (y_KM s') ∧ (v = vN)
theorem sf_X12_freshens_309K {fu : Nat} (hfu : 8589934592 ≤ fu) (r0 : z_M) (c0 : z_CI r0) (p0 : y_B r0) (p1 : y_KM r0) : z_T (fX12_freshens fu r0 309) (P_X12_freshens_309K r0) := by
  have o := sf_X12_freshens_309 hfu r0 c0 p0
  refine T_mono (T_and o (km_freshens hfu p1 (T_mono o (fun v s h x b q => h.2.1 x b (by unfold R_X12_freshens_309; omega))))) (fun v s h => ?_)
  obtain ⟨⟨c, fr, q1, q2, q3, q4, e⟩, k⟩ := h
  exact ⟨c, fr, q1, q2, q3, q4, k, e⟩
abbrev P_X12_longAs_309K (r0 : z_M) : z_V → z_M → Prop := fun v s' => z_CI s' ∧ z_Fr R_X12_longAs_309 r0 s' ∧ (s' 309 36 ≠ 0) ∧ (s' 309 43 = 0 ∨ s' 309 36 = 0 ∨ (r0 309 36 ≠ 0 ∧ r0 309 43 ≠ 0)) ∧ (r0 309 36 = 0 ∨ s' 309 36 ≠ 0) ∧ (y_KM s') ∧ (∃ x, v = vI x ∧ -2147483648 ≤ x ∧ x ≤ 2147483647)
theorem sf_X12_longAs_309K {fu : Nat} (hfu : 8589934592 ≤ fu) (r0 : z_M) (c0 : z_CI r0) (a1 : Int) (a2 : Int) (b1 : 0 ≤ a1 ∧ a1 ≤ 199) (b2 : 0 ≤ a2 ∧ a2 ≤ 199) (p0 : y_B r0) (p1 : a1 ≤ a2) (p2 : a2 < r0 309 20) (p3 : y_KM r0) : z_T (fX12_longAs fu r0 309 a1 a2) (P_X12_longAs_309K r0) := by
  have o := sf_X12_longAs_309 hfu r0 c0 a1 a2 b1 b2 p0 p1 p2
  refine T_mono (T_and o (km_longAs hfu p3 ⟨b1.1, p1⟩ p2 (T_mono o (fun v s h x y q w z => h.2.1 x y (by unfold R_X12_longAs_309; omega))))) (fun v s h => ?_)
  obtain ⟨⟨c, fr, q1, q2, q3, e⟩, k⟩ := h
  exact ⟨c, fr, q1, q2, q3, k, e⟩
abbrev P_X12_laysUnits_309K (r0 : z_M) : z_V → z_M → Prop := fun v s' => z_CI s' ∧ z_Fr R_X12_laysUnits_309 r0 s' ∧ (y_B s') ∧ (s' 309 36 = 0) ∧ (s' 309 36 = 0) ∧ (v = vN)
theorem sj_X12_laysUnits_309K_J78 {fu : Nat} (hfu : 8589934592 ≤ fu) (r0 s : z_M) (c : z_CI s) (f : z_Fr R_X12_laysUnits_309 r0 s) (a1 : Int) (b1 : 0 ≤ a1 ∧ a1 ≤ 199) (p0 : y_Q s (s 309 20) a1) (p1 : 1 ≤ s 309 20) (p2 : s 309 20 ≤ a1 + 1) (p3 : a1 < s 316 0) (p4 : y_TA s) (M : Int) (pm : 2147483647 - a1 ≤ M) {r : z_M → Int → z_O} {k : z_M → z_O} (hr : ∀ (s' : z_M) (v1 : Int), z_CI s' → z_Fr R_X12_laysUnits_309 r0 s' → (0 ≤ v1 ∧ v1 ≤ 200) → (y_Q s' (s' 309 20) v1) → (s' 309 20 ≤ v1) → (v1 ≤ s' 316 0) → (y_TA s') → (2147483647 - v1 < M) → z_T (r s' v1) (P_X12_laysUnits_309K r0)) (hk : ∀ (s' : z_M), z_CI s' → z_Fr R_X12_laysUnits_309 r0 s' → (y_Q s' (s' 309 20) (s' 316 0)) → z_T (k s') (P_X12_laysUnits_309K r0)) : z_T (fX12_laysUnits_J78 fu s 309 a1 r k) (P_X12_laysUnits_309K r0) := by
  refine T_of (fX12_laysUnits_J78.eq_1 ..) ?_
  have u1 := CI_b c (k := 309) (j := 20) bd_309_20
  have u2 := CI_b c (k := 309) (j := 36) bd_309_36
  have u3 := CI_b c (k := 316) (j := 0) bd_316_0
  have t4 : s 316 0 = r0 316 0 := f 316 0 (by decide)
  refine T_if1 (by decide +kernel) ?_
  refine T_let 3222 (by decide +kernel) ?_
  refine T_if1 (by decide +kernel) ?_
  refine T_leq (fun x5 e6 => ?_)
  have u7 := CI_b c (k := 309) (j := 20) bd_309_20
  refine T_leq (fun x8 e9 => ?_)
  first | (have w10 := z_wx e9 (by omega)) | (have w10 := z_wr e9)
  refine T_if1 (z_ixl (n := 200) (by decide +kernel) (by omega) (by omega)) ?_
  refine T_leq (fun x11 e12 => ?_)
  have u13 := CI_b c (k := 3222) (j := x8) (bdr_3222 x8)
  have n14 := y_Q.last p0 (u := x8) (by omega) (by omega)
  have n15 := CI_b c (k := 3221) (j := x8) (bdr_3221 x8)
  refine T_leq (fun x16 e17 => ?_)
  first | (have w18 := z_wx e17 (by omega)) | (have w18 := z_wr e17)
  refine T_if1 (z_ixl (n := 200) (by decide +kernel) (by omega) (by omega)) ?_
  refine T_upg c (bdr_3222 x8) (by omega) (fun s19 c20 g22 g23 e24 => ?_)
  have f21 := z_Fr.up (R := R_X12_laysUnits_309) f g22 (fun _ => (Or.inl (⟨by decide, by decide⟩)))
  have t25 : s19 309 20 = x5 := (g22 309 20 (by decide)).trans e6
  have t26 : s19 309 36 = s 309 36 := g22 309 36 (by decide)
  have t27 : s19 316 0 = s 316 0 := g22 316 0 (by decide)
  have r28 := y_TA.fr p4 (fun a b h => g22 a b (by omega)) (fun a b h => g22 a b (by omega)) (fun a b h => g22 a b (by omega))
  have r29 := y_Q.inc p0 (by omega) g22 g23 e24 (by omega) (by omega) rfl
  refine T_if1 (by decide +kernel) ?_
  refine T_let 3223 (by decide +kernel) ?_
  refine T_if1 (by decide +kernel) ?_
  refine T_leq (fun x30 e31 => ?_)
  have q32 : x5 = x30 := t25.symm.trans e31
  subst q32
  refine T_leq (fun x33 e34 => ?_)
  have q35 : x8 = x33 := e9.symm.trans e34
  subst q35
  refine T_if1 (z_ixl (n := 200) (by decide +kernel) (by omega) (by omega)) ?_
  refine T_upg c20 (bdr_3223 a1) (by omega) (fun s36 c37 g39 g40 e41 => ?_)
  have f38 := z_Fr.up (R := R_X12_laysUnits_309) f21 g39 (fun _ => (Or.inl (⟨by decide, by decide⟩)))
  have t42 : s36 309 20 = x5 := (g39 309 20 (by decide)).trans t25
  have t43 : s36 309 36 = s 309 36 := (g39 309 36 (by decide)).trans t26
  have t44 : s36 316 0 = s 316 0 := (g39 316 0 (by decide)).trans t27
  have r45 := y_TA.fr r28 (fun a b h => g39 a b (by omega)) (fun a b h => g39 a b (by omega)) (fun a b h => g39 a b (by omega))
  have r46 := y_Q.fr r29 (fun b => g39 3220 b (by decide)) (fun b => g39 3221 b (by decide)) (fun b => g39 3222 b (by decide)) (fun b => g39 361 b (by decide))
  clear t25
  clear t26
  clear t27
  refine T_leq (fun x47 e48 => ?_)
  first | (have w49 := z_wx e48 (by omega)) | (have w49 := z_wr e48)
  exact hr s36 x47 c37 f38 (by omega) (by first | exact y_Q.cg r46 (by omega) (by omega) | exact y_Q.z (by omega) (by omega)) (by omega) (by omega) r45 (by omega)
theorem sj_X12_laysUnits_309K_J31 {fu : Nat} (hfu : 8589934592 ≤ fu) (r0 s : z_M) (c : z_CI s) (f : z_Fr R_X12_laysUnits_309 r0 s) (a1 : Int) (b1 : 0 ≤ a1 ∧ a1 ≤ 199) (p0 : y_Q s (s 309 20) a1) (p1 : s 309 20 ≤ a1) (p2 : a1 < s 316 0) (p3 : y_TA s) (M : Int) (pm : 2147483647 - a1 ≤ M) {r : z_M → Int → z_O} {k : z_M → z_O} (hr : ∀ (s' : z_M) (v1 : Int), z_CI s' → z_Fr R_X12_laysUnits_309 r0 s' → (0 ≤ v1 ∧ v1 ≤ 200) → (y_Q s' (s' 309 20) v1) → (s' 309 20 ≤ v1) → (v1 ≤ s' 316 0) → (y_TA s') → (2147483647 - v1 < M) → z_T (r s' v1) (P_X12_laysUnits_309K r0)) (hk : ∀ (s' : z_M), z_CI s' → z_Fr R_X12_laysUnits_309 r0 s' → (y_Q s' (s' 309 20) (s' 316 0)) → z_T (k s') (P_X12_laysUnits_309K r0)) : z_T (fX12_laysUnits_J31 fu s 309 a1 r k) (P_X12_laysUnits_309K r0) := by
  refine T_of (fX12_laysUnits_J31.eq_1 ..) ?_
  have u1 := CI_b c (k := 309) (j := 20) bd_309_20
  have u2 := CI_b c (k := 309) (j := 36) bd_309_36
  have u3 := CI_b c (k := 316) (j := 0) bd_316_0
  have t4 : s 316 0 = r0 316 0 := f 316 0 (by decide)
  refine T_if1 (by decide +kernel) ?_
  refine T_let 3220 (by decide +kernel) ?_
  refine T_if1 (by decide +kernel) ?_
  refine T_leq (fun x5 e6 => ?_)
  have u7 := CI_b c (k := 309) (j := 20) bd_309_20
  refine T_if1 (by decide +kernel) ?_
  refine T_let 345 (by decide +kernel) ?_
  refine T_if1 (z_ixl (n := 14) (by decide +kernel) (by omega) (by omega)) ?_
  refine T_let 346 (by decide +kernel) ?_
  refine T_if1 (z_ixl (n := 200) (by decide +kernel) (by omega) (by omega)) ?_
  refine T_leq (fun x8 e9 => ?_)
  have u10 := CI_b c (k := 346) (j := a1) (bdr_346 a1)
  refine T_if1 (z_ixl (n := 200) (by decide +kernel) (by omega) (by omega)) ?_
  refine T_upg c (bdr_3220 x5) (by omega) (fun s11 c12 g14 g15 e16 => ?_)
  have f13 := z_Fr.up (R := R_X12_laysUnits_309) f g14 (fun _ => (Or.inl (⟨by decide, by decide⟩)))
  have t17 : s11 309 20 = x5 := (g14 309 20 (by decide)).trans e6
  have t18 : s11 309 36 = s 309 36 := g14 309 36 (by decide)
  have t19 : s11 316 0 = s 316 0 := g14 316 0 (by decide)
  have r20 := y_TA.fr p3 (fun a b h => g14 a b (by omega)) (fun a b h => g14 a b (by omega)) (fun a b h => g14 a b (by omega))
  have t21 : s11 346 a1 = x8 := by first | exact (g14 346 a1 (by omega)).trans e9 | exact (g15 a1 (by omega)).trans e9
  have r22 := y_Q.ag p0 (fun b h => g15 b (by omega)) (fun b h => g14 3221 b (by omega)) (fun b h => g14 3222 b (by omega)) (fun b => g14 361 b (by decide))
  refine T_if1 (by decide +kernel) ?_
  refine T_let 3221 (by decide +kernel) ?_
  refine T_if1 (by decide +kernel) ?_
  refine T_leq (fun x23 e24 => ?_)
  have q25 : x5 = x23 := t17.symm.trans e24
  subst q25
  refine T_if1 (z_ixl (n := 200) (by decide +kernel) (by omega) (by omega)) ?_
  refine T_upg c12 (bdr_3221 x5) (by omega) (fun s26 c27 g29 g30 e31 => ?_)
  have f28 := z_Fr.up (R := R_X12_laysUnits_309) f13 g29 (fun _ => (Or.inl (⟨by decide, by decide⟩)))
  have t32 : s26 309 20 = x5 := (g29 309 20 (by decide)).trans t17
  have t33 : s26 309 36 = s 309 36 := (g29 309 36 (by decide)).trans t18
  have t34 : s26 316 0 = s 316 0 := (g29 316 0 (by decide)).trans t19
  have r35 := y_TA.fr r20 (fun a b h => g29 a b (by omega)) (fun a b h => g29 a b (by omega)) (fun a b h => g29 a b (by omega))
  have t36 : s26 346 a1 = x8 := by first | exact (g29 346 a1 (by omega)).trans t21 | exact (g30 a1 (by omega)).trans t21
  have t37 : s26 3220 x5 = x8 := by first | exact (g29 3220 x5 (by omega)).trans e16 | exact (g30 x5 (by omega)).trans e16
  have r38 := y_Q.ag r22 (fun b h => g29 3220 b (by omega)) (fun b h => g30 b (by omega)) (fun b h => g29 3222 b (by omega)) (fun b => g29 361 b (by decide))
  clear t17
  clear t18
  clear t19
  clear t21
  refine T_if1 (by decide +kernel) ?_
  refine T_let 3222 (by decide +kernel) ?_
  refine T_if1 (by decide +kernel) ?_
  refine T_leq (fun x39 e40 => ?_)
  have q41 : x5 = x39 := t32.symm.trans e40
  subst q41
  refine T_if1 (z_ixl (n := 200) (by decide +kernel) (by omega) (by omega)) ?_
  refine T_upg c27 (bdr_3222 x5) (by omega) (fun s42 c43 g45 g46 e47 => ?_)
  have f44 := z_Fr.up (R := R_X12_laysUnits_309) f28 g45 (fun _ => (Or.inl (⟨by decide, by decide⟩)))
  have t48 : s42 309 20 = x5 := (g45 309 20 (by decide)).trans t32
  have t49 : s42 309 36 = s 309 36 := (g45 309 36 (by decide)).trans t33
  have t50 : s42 316 0 = s 316 0 := (g45 316 0 (by decide)).trans t34
  have r51 := y_TA.fr r35 (fun a b h => g45 a b (by omega)) (fun a b h => g45 a b (by omega)) (fun a b h => g45 a b (by omega))
  have t52 : s42 346 a1 = x8 := by first | exact (g45 346 a1 (by omega)).trans t36 | exact (g46 a1 (by omega)).trans t36
  have t53 : s42 3220 x5 = x8 := by first | exact (g45 3220 x5 (by omega)).trans t37 | exact (g46 x5 (by omega)).trans t37
  have t54 : s42 3221 x5 = a1 := by first | exact (g45 3221 x5 (by omega)).trans e31 | exact (g46 x5 (by omega)).trans e31
  have n55 := y_TA.at0 r51 (i := a1) (by omega) (by omega)
  have r56 := y_Q.ag r38 (fun b h => g45 3220 b (by omega)) (fun b h => g45 3221 b (by omega)) (fun b h => g46 b (by omega)) (fun b => g45 361 b (by decide))
  have r57 := y_Q.new (n := x5) (i := a1) (y_Q.cg r56 (by omega) (by omega)) (by omega) (by omega) (by omega) (by omega) rfl
  clear t32
  clear t33
  clear t34
  clear t36
  clear t37
  refine T_if1 (by decide +kernel) ?_
  refine T_leq (fun x58 e59 => ?_)
  have q60 : x5 = x58 := t48.symm.trans e59
  subst q60
  refine T_leq (fun x61 e62 => ?_)
  first | (have w63 := z_wx e62 (by omega)) | (have w63 := z_wr e62)
  refine T_if1 (by decide +kernel) ?_
  refine T_upg c43 bd_309_20 (by omega) (fun s64 c65 g67 g68 e69 => ?_)
  have f66 := z_Fr.upf (R := R_X12_laysUnits_309) f44 g67 g68 (Or.inr (⟨rfl, by decide⟩))
  have t70 : s64 309 36 = s 309 36 := (g68 36 (by decide)).trans t49
  have t71 : s64 316 0 = s 316 0 := (g67 316 0 (by decide)).trans t50
  have u72 := CI_b c65 (k := 309) (j := 20) bd_309_20
  have r73 := y_TA.fr r51 (fun a b h => g67 a b (by omega)) (fun a b h => g67 a b (by omega)) (fun a b h => g67 a b (by omega))
  have r74 := y_Q.fr r56 (fun b => g67 3220 b (by decide)) (fun b => g67 3221 b (by decide)) (fun b => g67 3222 b (by decide)) (fun b => g67 361 b (by decide))
  have r75 := y_Q.fr r57 (fun b => g67 3220 b (by decide)) (fun b => g67 3221 b (by decide)) (fun b => g67 3222 b (by decide)) (fun b => g67 361 b (by decide))
  have t76 : s64 346 a1 = x8 := by first | exact (g67 346 a1 (by omega)).trans t52 | exact (g68 a1 (by omega)).trans t52
  have t77 : s64 3220 x5 = x8 := by first | exact (g67 3220 x5 (by omega)).trans t53 | exact (g68 x5 (by omega)).trans t53
  have t78 : s64 3221 x5 = a1 := by first | exact (g67 3221 x5 (by omega)).trans t54 | exact (g68 x5 (by omega)).trans t54
  clear t49
  clear t50
  clear t52
  clear t53
  clear t54
  exact sj_X12_laysUnits_309K_J78 hfu r0 s64 c65 f66 a1 (by omega) (by first | exact y_Q.cg r75 (by omega) (by omega) | exact y_Q.cg r74 (by omega) (by omega) | exact y_Q.z (by omega) (by omega)) (by omega) (by omega) (by omega) r73 M (by omega) (fun s' v1 c' f' w1 z0 z1 z2 z3 pg => hr s' v1 c' f' w1 z0 z1 z2 z3 (by omega)) hk
theorem sl_X12_laysUnits_309K_L7 {fu : Nat} (hfu : 8589934592 ≤ fu) (r0 : z_M) {k : z_M → z_O} (hk : ∀ (s' : z_M), z_CI s' → z_Fr R_X12_laysUnits_309 r0 s' → (y_Q s' (s' 309 20) (s' 316 0)) → z_T (k s') (P_X12_laysUnits_309K r0)) : ∀ (F : Nat) (s : z_M) (a1 : Int), z_CI s → z_Fr R_X12_laysUnits_309 r0 s → (0 ≤ a1 ∧ a1 ≤ 200) → (y_Q s (s 309 20) a1) → (s 309 20 ≤ a1) → (a1 ≤ s 316 0) → (y_TA s) → (2147483647 - a1 < (F : Int)) → z_T (fX12_laysUnits_L7 fu 309 F s a1 k) (P_X12_laysUnits_309K r0) := by
  intro F
  induction F with
  | zero =>
    intro s a1 c f b1 i0 i1 i2 i3 hm
    have u21 := CI_b c (k := 309) (j := 20) bd_309_20
    have u22 := CI_b c (k := 309) (j := 36) bd_309_36
    have u23 := CI_b c (k := 316) (j := 0) bd_316_0
    exfalso; omega
  | succ F ih =>
    intro s a1 c f b1 i0 i1 i2 i3 hm
    refine T_of (fX12_laysUnits_L7.eq_2 ..) ?_
    have u1 := CI_b c (k := 309) (j := 20) bd_309_20
    have u2 := CI_b c (k := 309) (j := 36) bd_309_36
    have u3 := CI_b c (k := 316) (j := 0) bd_316_0
    have t4 : s 316 0 = r0 316 0 := f 316 0 (by decide)
    refine T_if1 (by decide +kernel) ?_
    refine T_let 315 (by decide +kernel) ?_
    refine T_if1 (z_ixl (n := 14) (by decide +kernel) (by omega) (by omega)) ?_
    refine T_let 316 (by decide +kernel) ?_
    refine T_if1 (z_ixl (n := 3) (by decide +kernel) (by omega) (by omega)) ?_
    refine T_leq (fun x5 e6 => ?_)
    have u7 := CI_b c (k := 316) (j := 0) bd_316_0
    refine T_ite (fun h8 => ?_) (fun h8 => ?_)
    · exact hk s c f (by first | exact y_Q.cg i0 (by omega) (by omega) | exact y_Q.z (by omega) (by omega))
    · refine T_ite (fun h9 => ?_) (fun h9 => ?_)
      · exact sj_X12_laysUnits_309K_J31 hfu r0 s c f a1 (by omega) (by first | exact y_Q.cg i0 (by omega) (by omega) | exact y_Q.z (by omega) (by omega)) (by omega) (by omega) i3 (2147483647 - a1) (by omega) (fun s' v1 c' f' w1 z0 z1 z2 z3 pg => ih s' v1 c' f' w1 z0 z1 z2 z3 (by omega)) hk
      · refine T_if1 (by decide +kernel) ?_
        refine T_useI (sf_X12_isOne_309 hfu s c a1 (by omega)) (fun v15 s10 hq => ?_)
        obtain ⟨c11, f12, ⟨x14, rfl, b16, b17⟩⟩ := hq
        refine T_vI ?_
        have q18 := z_Fr.eq (fun a b h => h) f12
        subst q18
        have n19 := y_Q.n0 i0
        refine T_ite (fun h20 => ?_) (fun h20 => ?_)
        · exact sj_X12_laysUnits_309K_J78 hfu r0 s c f a1 (by omega) (by first | exact y_Q.cg i0 (by omega) (by omega) | exact y_Q.z (by omega) (by omega)) (by omega) (by omega) (by omega) i3 (2147483647 - a1) (by omega) (fun s' v1 c' f' w1 z0 z1 z2 z3 pg => ih s' v1 c' f' w1 z0 z1 z2 z3 (by omega)) hk
        · exact sj_X12_laysUnits_309K_J31 hfu r0 s c f a1 (by omega) (by first | exact y_Q.cg i0 (by omega) (by omega) | exact y_Q.z (by omega) (by omega)) (by omega) (by omega) i3 (2147483647 - a1) (by omega) (fun s' v1 c' f' w1 z0 z1 z2 z3 pg => ih s' v1 c' f' w1 z0 z1 z2 z3 (by omega)) hk
theorem sf_X12_laysUnits_309K {fu : Nat} (hfu : 8589934592 ≤ fu) (r0 : z_M) (c0 : z_CI r0) (p0 : y_TA r0) : z_T (fX12_laysUnits fu r0 309) (P_X12_laysUnits_309K r0) := by
  refine T_of (fX12_laysUnits.eq_1 ..) ?_
  have u1 := CI_b c0 (k := 309) (j := 20) bd_309_20
  have u2 := CI_b c0 (k := 309) (j := 36) bd_309_36
  have u3 := CI_b c0 (k := 316) (j := 0) bd_316_0
  refine T_if1 (by decide +kernel) ?_
  refine T_upg c0 bd_309_20 (by omega) (fun s4 c5 g7 g8 e9 => ?_)
  have f6 := z_Fr.upf (R := R_X12_laysUnits_309) z_Fr.rf g7 g8 (Or.inr (⟨rfl, by decide⟩))
  have t10 : s4 309 36 = r0 309 36 := g8 36 (by decide)
  have t11 : s4 316 0 = r0 316 0 := g7 316 0 (by decide)
  have u12 := CI_b c5 (k := 309) (j := 20) bd_309_20
  have r13 := y_TA.fr p0 (fun a b h => g7 a b (by omega)) (fun a b h => g7 a b (by omega)) (fun a b h => g7 a b (by omega))
  refine sl_X12_laysUnits_309K_L7 hfu r0 (fun s14 c15 f16 g17 => ?_) fu s4 0 c5 f6 (by omega) (by first | exact y_Q.z (by omega) (by omega)) (by omega) (by omega) r13 (by omega)
  have u18 := CI_b c15 (k := 309) (j := 20) bd_309_20
  have u19 := CI_b c15 (k := 309) (j := 36) bd_309_36
  have u20 := CI_b c15 (k := 316) (j := 0) bd_316_0
  have t21 : s14 316 0 = r0 316 0 := f16 316 0 (by decide)
  refine T_if1 ⟨(by decide +kernel), by unfold z_bl; omega⟩ ?_
  refine T_upg c15 bd_309_36 (by omega) (fun s22 c23 g25 g26 e27 => ?_)
  have f24 := z_Fr.upf (R := R_X12_laysUnits_309) f16 g25 g26 (Or.inr (⟨rfl, by decide⟩))
  have t28 : s22 309 20 = s14 309 20 := g26 20 (by decide)
  have t29 : s22 316 0 = s14 316 0 := g25 316 0 (by decide)
  have u30 := CI_b c23 (k := 309) (j := 36) bd_309_36
  have r31 := y_Q.fr g17 (fun b => g25 3220 b (by decide)) (fun b => g25 3221 b (by decide)) (fun b => g25 3222 b (by decide)) (fun b => g25 361 b (by decide))
  exact T_ret ⟨c23, f24, (by first | exact y_B.of r31 (by omega) (by omega)), (by omega), (by omega), rfl⟩
abbrev P_X12_stands_309K (r0 : z_M) : z_V → z_M → Prop := fun v s' => z_CI s' ∧ z_Fr R_X12_stands_309 r0 s' ∧ (y_TA s') ∧ (y_DD s') ∧ (y_B s') ∧ (s' 309 36 = 0) ∧ (y_KM s') ∧ (v = vN)
theorem nr_X12_copies_309__312 (b : Int) : ¬ R_X12_copies_309 312 b := by
  unfold R_X12_copies_309; omega
theorem nz_X12_copies_309__3220_3223 (a b : Int) (h : 3220 ≤ a ∧ a ≤ 3223) : ¬ R_X12_copies_309 a b := by
  unfold R_X12_copies_309; omega
theorem nz_X12_copies_309__3235_3437 (a b : Int) (h : 3235 ≤ a ∧ a ≤ 3437) : ¬ R_X12_copies_309 a b := by
  unfold R_X12_copies_309; omega
theorem nr_X12_laysUnits_309__312 (b : Int) : ¬ R_X12_laysUnits_309 312 b := by
  unfold R_X12_laysUnits_309; omega
theorem nr_X12_laysUnits_309__331 (b : Int) : ¬ R_X12_laysUnits_309 331 b := by
  unfold R_X12_laysUnits_309; omega
theorem nr_X12_laysUnits_309__346 (b : Int) : ¬ R_X12_laysUnits_309 346 b := by
  unfold R_X12_laysUnits_309; omega
theorem nr_X12_laysUnits_309__361 (b : Int) : ¬ R_X12_laysUnits_309 361 b := by
  unfold R_X12_laysUnits_309; omega
theorem nr_X12_laysUnits_309__391 (b : Int) : ¬ R_X12_laysUnits_309 391 b := by
  unfold R_X12_laysUnits_309; omega
theorem nz_X12_laysUnits_309__407_606 (a b : Int) (h : 407 ≤ a ∧ a ≤ 606) : ¬ R_X12_laysUnits_309 a b := by
  unfold R_X12_laysUnits_309; omega
theorem nz_X12_laysUnits_309__3235_3437 (a b : Int) (h : 3235 ≤ a ∧ a ≤ 3437) : ¬ R_X12_laysUnits_309 a b := by
  unfold R_X12_laysUnits_309; omega
theorem sj_X12_stands_309K_J41 {fu : Nat} (hfu : 8589934592 ≤ fu) (r0 s : z_M) (c : z_CI s) (f : z_Fr R_X12_stands_309 r0 s) (p0 : y_TA s) (p1 : y_DD s) (p2 : s 309 19 ≤ 11) (p3 : y_KM s) : z_T (fX12_stands_J41 fu s 309) (P_X12_stands_309K r0) := by
  refine T_of (fX12_stands_J41.eq_1 ..) ?_
  have u1 := CI_b c (k := 309) (j := 19) bd_309_19
  have u2 := CI_b c (k := 309) (j := 20) bd_309_20
  have u3 := CI_b c (k := 309) (j := 36) bd_309_36
  have u4 := CI_b c (k := 316) (j := 0) bd_316_0
  have u5 := CI_b c (k := 329) (j := 0) bd_329_0
  have u6 := CI_b c (k := 329) (j := 1) bd_329_1
  refine T_if1 (by decide +kernel) ?_
  refine T_leq (fun x7 e8 => ?_)
  have u9 := CI_b c (k := 309) (j := 19) bd_309_19
  refine T_leq (fun x10 e11 => ?_)
  first | (have w12 := z_wx e11 (by omega)) | (have w12 := z_wr e11)
  refine T_if1 (by decide +kernel) ?_
  refine T_upg c bd_309_19 (by omega) (fun s13 c14 g16 g17 e18 => ?_)
  have f15 := z_Fr.upf (R := R_X12_stands_309) f g16 g17 (Or.inr (Or.inr (⟨rfl, by decide⟩)))
  have t19 : s13 309 20 = s 309 20 := g17 20 (by decide)
  have t20 : s13 309 36 = s 309 36 := g17 36 (by decide)
  have t21 : s13 316 0 = s 316 0 := g16 316 0 (by decide)
  have t22 : s13 329 0 = s 329 0 := g16 329 0 (by decide)
  have t23 : s13 329 1 = s 329 1 := g16 329 1 (by decide)
  have u24 := CI_b c14 (k := 309) (j := 19) bd_309_19
  have r25 := y_TA.fr p0 (fun a b h => g16 a b (by omega)) (fun a b h => g16 a b (by omega)) (fun a b h => g16 a b (by omega))
  have r26 := y_DD.fr p1 (g16 329 0 (by decide)) (g16 329 1 (by decide)) (fun b => g16 359 b (by decide)) (fun b => g16 374 b (by decide))
  have r27 := y_KM.fr p3 (g17 20 (by decide)) (g17 36 (by decide)) (g17 38 (by decide)) (g17 39 (by decide)) (fun b => g16 312 b (by decide)) (fun b => g16 331 b (by decide)) (fun b => g16 346 b (by decide)) (fun b => g16 361 b (by decide)) (fun b => g16 391 b (by decide)) (fun a b h => g16 a b (by omega)) (fun a b h => g16 a b (by omega)) (fun a b h => g16 a b (by omega))
  refine T_if1 (by decide +kernel) ?_
  refine T_leq (fun x28 e29 => ?_)
  have u30 := CI_b c14 (k := 309) (j := 19) bd_309_19
  refine T_if1 (by decide +kernel) ?_
  refine T_useN (sf_X12_copies_309K hfu s13 c14 0 x28 (by omega) (by omega) (by omega) (by first | exact r27 | exact y_KM.z (by omega))) (fun v36 s31 hq => ?_)
  obtain ⟨c32, f33, o37, o38, rfl⟩ := hq
  refine T_vN ?_
  have f34 := z_Fr.tr (R := R_X12_stands_309) f15 f33 rs_X12_copies_309__X12_stands_309
  have t41 : s31 309 19 = x28 := (f33 309 19 (by decide)).trans e29
  have t42 : s31 309 20 = s 309 20 := (f33 309 20 (by decide)).trans t19
  have t43 : s31 309 36 = s 309 36 := (f33 309 36 (by decide)).trans t20
  have u44 := CI_b c32 (k := 316) (j := 0) bd_316_0
  have u45 := CI_b c32 (k := 329) (j := 0) bd_329_0
  have u46 := CI_b c32 (k := 329) (j := 1) bd_329_1
  have r47 := y_CP.TA o37 c14 (by omega) r25
  have r48 := y_CP.DDk o37 (by omega) r26
  clear t19
  clear t20
  refine T_if1 (by decide +kernel) ?_
  refine T_useN (sf_X12_copies_309K hfu s31 c32 13 0 (by omega) (by omega) (by omega) (by first | exact y_KM.z (by omega) | exact y_KQ.m o38 (by omega))) (fun v54 s49 hq => ?_)
  obtain ⟨c50, f51, o55, o56, rfl⟩ := hq
  refine T_vN ?_
  have f52 := z_Fr.tr (R := R_X12_stands_309) f34 f51 rs_X12_copies_309__X12_stands_309
  have t59 : s49 309 19 = x28 := (f51 309 19 (by decide)).trans t41
  have t60 : s49 309 20 = s 309 20 := (f51 309 20 (by decide)).trans t42
  have t61 : s49 309 36 = s 309 36 := (f51 309 36 (by decide)).trans t43
  have u62 := CI_b c50 (k := 316) (j := 0) bd_316_0
  have u63 := CI_b c50 (k := 329) (j := 0) bd_329_0
  have u64 := CI_b c50 (k := 329) (j := 1) bd_329_1
  have r65 := y_CP.TAd o55 c32 r47 r48
  have r66 := y_CP.DDk o55 (by omega) r48
  clear t41
  clear t42
  clear t43
  refine T_if1 (by decide +kernel) ?_
  refine T_useN (sf_X12_laysUnits_309K hfu s49 c50 r65) (fun v72 s67 hq => ?_)
  obtain ⟨c68, f69, o73, o74, o75, rfl⟩ := hq
  refine T_vN ?_
  have f70 := z_Fr.tr (R := R_X12_stands_309) f52 f69 rs_X12_laysUnits_309__X12_stands_309
  have t78 : s67 309 19 = x28 := (f69 309 19 (by decide)).trans t59
  have t79 : s67 316 0 = s49 316 0 := f69 316 0 (by decide)
  have t80 : s67 329 0 = s49 329 0 := f69 329 0 (by decide)
  have t81 : s67 329 1 = s49 329 1 := f69 329 1 (by decide)
  have u82 := CI_b c68 (k := 309) (j := 20) bd_309_20
  have u83 := CI_b c68 (k := 309) (j := 36) bd_309_36
  have r84 := y_TA.fr r65 (fun a b h => f69 a b (nz_X12_laysUnits_309__316_328 a b h)) (fun a b h => f69 a b (nz_X12_laysUnits_309__346_358 a b h)) (fun a b h => f69 a b (nz_X12_laysUnits_309__361_373 a b h))
  have r85 := y_DD.fr r66 (f69 329 0 (by decide)) (f69 329 1 (by decide)) (fun b => f69 359 b (nr_X12_laysUnits_309__359 b)) (fun b => f69 374 b (nr_X12_laysUnits_309__374 b))
  clear t59
  exact T_ret ⟨c68, f70, r84, (by first | exact r85 | exact y_DD.z (by omega) (by omega)), o73, (by omega), (by first | exact y_KM.z (by omega)), rfl⟩
theorem sl_X12_stands_309K_L11 {fu : Nat} (hfu : 8589934592 ≤ fu) (r0 : z_M) {k : z_M → z_O} (hk : ∀ (s' : z_M), z_CI s' → z_Fr R_X12_stands_309 r0 s' → (y_TA s') → (y_DD s') → (s' 309 19 = 12) → (y_KM s') → z_T (k s') (P_X12_stands_309K r0)) : ∀ (F : Nat) (s : z_M) (a1 : Int), z_CI s → z_Fr R_X12_stands_309 r0 s → (2 ≤ a1 ∧ a1 ≤ 13) → (y_TA s) → (y_DD s) → (s 309 19 = 12) → (y_KM s) → (2147483647 - a1 < (F : Int)) → z_T (fX12_stands_L11 fu 309 F s a1 k) (P_X12_stands_309K r0) := by
  intro F
  induction F with
  | zero =>
    intro s a1 c f b1 i0 i1 i2 i3 hm
    have u32 := CI_b c (k := 309) (j := 19) bd_309_19
    have u33 := CI_b c (k := 309) (j := 20) bd_309_20
    have u34 := CI_b c (k := 309) (j := 36) bd_309_36
    have u35 := CI_b c (k := 316) (j := 0) bd_316_0
    have u36 := CI_b c (k := 329) (j := 0) bd_329_0
    have u37 := CI_b c (k := 329) (j := 1) bd_329_1
    exfalso; omega
  | succ F ih =>
    intro s a1 c f b1 i0 i1 i2 i3 hm
    refine T_of (fX12_stands_L11.eq_2 ..) ?_
    have u1 := CI_b c (k := 309) (j := 19) bd_309_19
    have u2 := CI_b c (k := 309) (j := 20) bd_309_20
    have u3 := CI_b c (k := 309) (j := 36) bd_309_36
    have u4 := CI_b c (k := 316) (j := 0) bd_316_0
    have u5 := CI_b c (k := 329) (j := 0) bd_329_0
    have u6 := CI_b c (k := 329) (j := 1) bd_329_1
    refine T_ite (fun h7 => ?_) (fun h7 => ?_)
    · exact hk s c f i0 (by first | exact i1 | exact y_DD.z (by omega) (by omega)) (by omega) (by first | exact i3 | exact y_KM.z (by omega))
    · refine T_leq (fun x8 e9 => ?_)
      first | (have w10 := z_wx e9 (by omega)) | (have w10 := z_wr e9)
      refine T_if1 (by decide +kernel) ?_
      refine T_useN (sf_X12_copies_309K hfu s c a1 x8 (by omega) (by omega) (by omega) (by first | exact i3 | exact y_KM.z (by omega))) (fun v16 s11 hq => ?_)
      obtain ⟨c12, f13, o17, o18, rfl⟩ := hq
      refine T_vN ?_
      have f14 := z_Fr.tr (R := R_X12_stands_309) f f13 rs_X12_copies_309__X12_stands_309
      have t21 : s11 309 19 = s 309 19 := f13 309 19 (by decide)
      have t22 : s11 309 20 = s 309 20 := f13 309 20 (by decide)
      have t23 : s11 309 36 = s 309 36 := f13 309 36 (by decide)
      have u24 := CI_b c12 (k := 316) (j := 0) bd_316_0
      have u25 := CI_b c12 (k := 329) (j := 0) bd_329_0
      have u26 := CI_b c12 (k := 329) (j := 1) bd_329_1
      have r27 := y_CP.TA o17 c (by omega) i0
      have r28 := y_CP.DDk o17 (by omega) i1
      refine T_leq (fun x29 e30 => ?_)
      first | (have w31 := z_wx e30 (by omega)) | (have w31 := z_wr e30)
      exact ih s11 x29 c12 f14 (by omega) r27 (by first | exact r28 | exact y_DD.z (by omega) (by omega)) (by omega) (by first | exact y_KM.z (by omega) | exact y_KQ.m o18 (by omega)) (by omega)
theorem sf_X12_stands_309K {fu : Nat} (hfu : 8589934592 ≤ fu) (r0 : z_M) (c0 : z_CI r0) (p0 : y_TA r0) (p1 : y_DD r0) (p2 : y_KM r0) : z_T (fX12_stands fu r0 309) (P_X12_stands_309K r0) := by
  refine T_of (fX12_stands.eq_1 ..) ?_
  have u1 := CI_b c0 (k := 309) (j := 19) bd_309_19
  have u2 := CI_b c0 (k := 309) (j := 20) bd_309_20
  have u3 := CI_b c0 (k := 309) (j := 36) bd_309_36
  have u4 := CI_b c0 (k := 316) (j := 0) bd_316_0
  have u5 := CI_b c0 (k := 329) (j := 0) bd_329_0
  have u6 := CI_b c0 (k := 329) (j := 1) bd_329_1
  refine T_if1 (by decide +kernel) ?_
  refine T_leq (fun x7 e8 => ?_)
  have u9 := CI_b c0 (k := 309) (j := 19) bd_309_19
  refine T_ite (fun h10 => ?_) (fun h10 => ?_)
  · exact sj_X12_stands_309K_J41 hfu r0 r0 c0 z_Fr.rf p0 (by first | exact p1 | exact y_DD.z (by omega) (by omega)) (by omega) (by first | exact p2 | exact y_KM.z (by omega))
  · refine sl_X12_stands_309K_L11 hfu r0 (fun s11 c12 f13 g14 g15 g16 g17 => ?_) fu r0 2 c0 z_Fr.rf (by omega) p0 (by first | exact p1 | exact y_DD.z (by omega) (by omega)) (by omega) (by first | exact p2 | exact y_KM.z (by omega)) (by omega)
    have u18 := CI_b c12 (k := 309) (j := 19) bd_309_19
    have u19 := CI_b c12 (k := 309) (j := 20) bd_309_20
    have u20 := CI_b c12 (k := 309) (j := 36) bd_309_36
    have u21 := CI_b c12 (k := 316) (j := 0) bd_316_0
    have u22 := CI_b c12 (k := 329) (j := 0) bd_329_0
    have u23 := CI_b c12 (k := 329) (j := 1) bd_329_1
    refine T_if1 (by decide +kernel) ?_
    refine T_leq (fun x24 e25 => ?_)
    have u26 := CI_b c12 (k := 309) (j := 19) bd_309_19
    refine T_leq (fun x27 e28 => ?_)
    first | (have w29 := z_wx e28 (by omega)) | (have w29 := z_wr e28)
    refine T_if1 (by decide +kernel) ?_
    refine T_upg c12 bd_309_19 (by omega) (fun s30 c31 g33 g34 e35 => ?_)
    have f32 := z_Fr.upf (R := R_X12_stands_309) f13 g33 g34 (Or.inr (Or.inr (⟨rfl, by decide⟩)))
    have t36 : s30 309 20 = s11 309 20 := g34 20 (by decide)
    have t37 : s30 309 36 = s11 309 36 := g34 36 (by decide)
    have t38 : s30 316 0 = s11 316 0 := g33 316 0 (by decide)
    have t39 : s30 329 0 = s11 329 0 := g33 329 0 (by decide)
    have t40 : s30 329 1 = s11 329 1 := g33 329 1 (by decide)
    have u41 := CI_b c31 (k := 309) (j := 19) bd_309_19
    have r42 := y_TA.fr g14 (fun a b h => g33 a b (by omega)) (fun a b h => g33 a b (by omega)) (fun a b h => g33 a b (by omega))
    have r43 := y_DD.fr g15 (g33 329 0 (by decide)) (g33 329 1 (by decide)) (fun b => g33 359 b (by decide)) (fun b => g33 374 b (by decide))
    have r44 := y_KM.fr g17 (g34 20 (by decide)) (g34 36 (by decide)) (g34 38 (by decide)) (g34 39 (by decide)) (fun b => g33 312 b (by decide)) (fun b => g33 331 b (by decide)) (fun b => g33 346 b (by decide)) (fun b => g33 361 b (by decide)) (fun b => g33 391 b (by decide)) (fun a b h => g33 a b (by omega)) (fun a b h => g33 a b (by omega)) (fun a b h => g33 a b (by omega))
    exact sj_X12_stands_309K_J41 hfu r0 s30 c31 f32 r42 (by first | exact r43 | exact y_DD.z (by omega) (by omega)) (by omega) (by first | exact r44 | exact y_KM.z (by omega))
abbrev P_X12_reads_309K (r0 : z_M) : z_V → z_M → Prop := fun v s' => z_CI s' ∧ z_Fr R_X12_reads_309 r0 s' ∧ (y_TA s') ∧ (y_DD s') ∧ (y_B s') ∧ (y_K s') ∧ (s' 309 2 = 0) ∧ (y_KM s') ∧ (∃ x, v = vI x ∧ -2147483648 ≤ x ∧ x ≤ 2147483647)
theorem nr_X12_readsPart_309__312 (b : Int) : ¬ R_X12_readsPart_309 312 b := by
  unfold R_X12_readsPart_309; omega
theorem nr_X12_readsPart_309__331 (b : Int) : ¬ R_X12_readsPart_309 331 b := by
  unfold R_X12_readsPart_309; omega
theorem nr_X12_readsPart_309__391 (b : Int) : ¬ R_X12_readsPart_309 391 b := by
  unfold R_X12_readsPart_309; omega
theorem nz_X12_readsPart_309__407_606 (a b : Int) (h : 407 ≤ a ∧ a ≤ 606) : ¬ R_X12_readsPart_309 a b := by
  unfold R_X12_readsPart_309; omega
theorem nz_X12_readsPart_309__3220_3223 (a b : Int) (h : 3220 ≤ a ∧ a ≤ 3223) : ¬ R_X12_readsPart_309 a b := by
  unfold R_X12_readsPart_309; omega
theorem nz_X12_readsPart_309__3235_3437 (a b : Int) (h : 3235 ≤ a ∧ a ≤ 3437) : ¬ R_X12_readsPart_309 a b := by
  unfold R_X12_readsPart_309; omega
theorem sl_X12_reads_309K_L25 {fu : Nat} (hfu : 8589934592 ≤ fu) (r0 : z_M) {k : z_M → z_O} (hk : ∀ (s' : z_M), z_CI s' → z_Fr R_X12_reads_309 r0 s' → (y_TA s') → (y_B s') → (y_K s') → (y_D s' (s' 329 0)) → (s' 329 1 ≤ s' 329 0) → (s' 309 2 = 0) → (y_KM s') → z_T (k s') (P_X12_reads_309K r0)) : ∀ (F : Nat) (s : z_M), z_CI s → z_Fr R_X12_reads_309 r0 s → (y_TA s) → (y_B s) → (y_K s) → (y_D s (s 329 0)) → (s 329 1 ≤ s 329 0) → (s 309 4 ≤ s 309 3 + 1) → (s 309 2 = 0) → (y_KM s) → (303 - s 309 4 + (if s 309 6 = 0 then 1 else 0) < (F : Int)) → z_T (fX12_reads_L25 fu 309 F s k) (P_X12_reads_309K r0) := by
  intro F
  induction F with
  | zero =>
    intro s c f i0 i1 i2 i3 i4 i5 i6 i7 hm
    have u63 := CI_b c (k := 309) (j := 2) bd_309_2
    have u64 := CI_b c (k := 309) (j := 3) bd_309_3
    have u65 := CI_b c (k := 309) (j := 4) bd_309_4
    have u66 := CI_b c (k := 309) (j := 6) bd_309_6
    have u67 := CI_b c (k := 309) (j := 20) bd_309_20
    have u68 := CI_b c (k := 309) (j := 36) bd_309_36
    have u69 := CI_b c (k := 309) (j := 43) bd_309_43
    have u70 := CI_b c (k := 309) (j := 44) bd_309_44
    have u71 := CI_b c (k := 309) (j := 58) bd_309_58
    have u72 := CI_b c (k := 316) (j := 0) bd_316_0
    have u73 := CI_b c (k := 329) (j := 0) bd_329_0
    have u74 := CI_b c (k := 329) (j := 1) bd_329_1
    exfalso; omega
  | succ F ih =>
    intro s c f i0 i1 i2 i3 i4 i5 i6 i7 hm
    refine T_of (fX12_reads_L25.eq_2 ..) ?_
    have u1 := CI_b c (k := 309) (j := 2) bd_309_2
    have u2 := CI_b c (k := 309) (j := 3) bd_309_3
    have u3 := CI_b c (k := 309) (j := 4) bd_309_4
    have u4 := CI_b c (k := 309) (j := 6) bd_309_6
    have u5 := CI_b c (k := 309) (j := 20) bd_309_20
    have u6 := CI_b c (k := 309) (j := 36) bd_309_36
    have u7 := CI_b c (k := 309) (j := 43) bd_309_43
    have u8 := CI_b c (k := 309) (j := 44) bd_309_44
    have u9 := CI_b c (k := 309) (j := 58) bd_309_58
    have u10 := CI_b c (k := 316) (j := 0) bd_316_0
    have u11 := CI_b c (k := 329) (j := 0) bd_329_0
    have u12 := CI_b c (k := 329) (j := 1) bd_329_1
    have t13 : s 309 43 = r0 309 43 := f 309 43 (by decide)
    have t14 : s 309 44 = r0 309 44 := f 309 44 (by decide)
    have t15 : s 309 58 = r0 309 58 := f 309 58 (by decide)
    refine T_if1 (by decide +kernel) ?_
    refine T_useI (sf_X12_fine_309 hfu s c) (fun v21 s16 hq => ?_)
    obtain ⟨c17, f18, ⟨x20, rfl, b22, b23, o24⟩⟩ := hq
    refine T_vI ?_
    have q25 := z_Fr.eq (fun a b h => h) f18
    subst q25
    refine T_ite (fun h26 => ?_) (fun h26 => ?_)
    · exact hk s c f i0 i1 (by first | exact i2 | exact y_K.b0 (by omega) | exact y_K.k0 (by omega) | exact y_K.bk (by omega)) (by first | exact y_D.cg i3 (by omega) | exact y_D.z (by omega) | exact y_D.ex i3 (by omega) (by omega)) (by omega) (by omega) (by first | exact i7 | exact y_KM.z (by omega))
    · refine T_if1 (by decide +kernel) ?_
      refine T_leq (fun x27 e28 => ?_)
      have u29 := CI_b c (k := 309) (j := 4) bd_309_4
      refine T_if1 (by decide +kernel) ?_
      refine T_leq (fun x30 e31 => ?_)
      have u32 := CI_b c (k := 309) (j := 3) bd_309_3
      refine T_ite (fun h33 => ?_) (fun h33 => ?_)
      · exact hk s c f i0 i1 (by first | exact i2 | exact y_K.b0 (by omega) | exact y_K.k0 (by omega) | exact y_K.bk (by omega)) (by first | exact y_D.cg i3 (by omega) | exact y_D.z (by omega) | exact y_D.ex i3 (by omega) (by omega)) (by omega) (by omega) (by first | exact i7 | exact y_KM.z (by omega))
      · refine T_if1 (by decide +kernel) ?_
        refine T_useN (sf_X12_readsPart_309 hfu s c (by first | exact y_D.cg i3 (by omega) | exact y_D.z (by omega) | exact y_D.ex i3 (by omega) (by omega)) (by omega) (by omega)) (fun v39 s34 hq => ?_)
        obtain ⟨c35, f36, o40, o41, o42, o43, o44, rfl⟩ := hq
        refine T_vN ?_
        have f37 := z_Fr.tr (R := R_X12_reads_309) f f36 rs_X12_readsPart_309__X12_reads_309
        have t47 : s34 309 2 = s 309 2 := f36 309 2 (by decide)
        have t48 : s34 309 3 = x30 := (f36 309 3 (by decide)).trans e31
        have t49 : s34 309 20 = s 309 20 := f36 309 20 (by decide)
        have t50 : s34 309 36 = s 309 36 := f36 309 36 (by decide)
        have t51 : s34 309 43 = s 309 43 := f36 309 43 (by decide)
        have t52 : s34 309 44 = s 309 44 := f36 309 44 (by decide)
        have t53 : s34 309 58 = s 309 58 := f36 309 58 (by decide)
        have t54 : s34 316 0 = s 316 0 := f36 316 0 (by decide)
        have u55 := CI_b c35 (k := 309) (j := 4) bd_309_4
        have u56 := CI_b c35 (k := 309) (j := 6) bd_309_6
        have u57 := CI_b c35 (k := 329) (j := 0) bd_329_0
        have u58 := CI_b c35 (k := 329) (j := 1) bd_329_1
        have r59 := y_TA.fr i0 (fun a b h => f36 a b (nz_X12_readsPart_309__316_328 a b h)) (fun a b h => f36 a b (nz_X12_readsPart_309__346_358 a b h)) (fun a b h => f36 a b (nz_X12_readsPart_309__361_373 a b h))
        have r60 := y_B.fr i1 (f36 309 20 (by decide)) (f36 316 0 (by decide)) (fun b => f36 3220 b (nr_X12_readsPart_309__3220 b)) (fun b => f36 3221 b (nr_X12_readsPart_309__3221 b)) (fun b => f36 3222 b (nr_X12_readsPart_309__3222 b)) (fun b => f36 361 b (nr_X12_readsPart_309__361 b))
        have r61 := y_K.fr i2 (by omega) (by omega) (f36 309 44 (by decide)) (f36 309 20 (by decide)) (f36 309 58 (by decide)) (fun b => f36 3438 b (nr_X12_readsPart_309__3438 b)) (fun b => f36 3220 b (nr_X12_readsPart_309__3220 b)) (fun a b h => f36 a b (nz_X12_readsPart_309__3452_3651 a b h))
        have r62 := y_KM.fr i7 (f36 309 20 (by decide)) (f36 309 36 (by decide)) (f36 309 38 (by decide)) (f36 309 39 (by decide)) (fun b => f36 312 b (nr_X12_readsPart_309__312 b)) (fun b => f36 331 b (nr_X12_readsPart_309__331 b)) (fun b => f36 346 b (nr_X12_readsPart_309__346 b)) (fun b => f36 361 b (nr_X12_readsPart_309__361 b)) (fun b => f36 391 b (nr_X12_readsPart_309__391 b)) (fun a b h => f36 a b (nz_X12_readsPart_309__407_606 a b h)) (fun a b h => f36 a b (nz_X12_readsPart_309__3220_3223 a b h)) (fun a b h => f36 a b (nz_X12_readsPart_309__3235_3437 a b h))
        exact ih s34 c35 f37 r59 r60 (by first | exact r61 | exact y_K.b0 (by omega) | exact y_K.k0 (by omega) | exact y_K.bk (by omega)) (by first | exact y_D.cg o40 (by omega) | exact y_D.z (by omega) | exact y_D.ex o40 (by omega) (by omega)) (by omega) (by omega) (by omega) (by first | exact r62 | exact y_KM.z (by omega)) (by omega)
theorem nr_X12_stands_309__312 (b : Int) : ¬ R_X12_stands_309 312 b := by
  unfold R_X12_stands_309; omega
theorem nz_X12_stands_309__3235_3437 (a b : Int) (h : 3235 ≤ a ∧ a ≤ 3437) : ¬ R_X12_stands_309 a b := by
  unfold R_X12_stands_309; omega
theorem sj_X12_reads_309K_J50 {fu : Nat} (hfu : 8589934592 ≤ fu) (r0 s : z_M) (c : z_CI s) (f : z_Fr R_X12_reads_309 r0 s) (p0 : y_TA s) (p1 : y_B s) (p2 : y_K s) (p3 : y_D s (s 329 0)) (p4 : s 329 1 ≤ s 329 0) (p5 : s 309 2 = 0) (p6 : y_KM s) : z_T (fX12_reads_J50 fu s 309) (P_X12_reads_309K r0) := by
  refine T_of (fX12_reads_J50.eq_1 ..) ?_
  have u1 := CI_b c (k := 309) (j := 2) bd_309_2
  have u2 := CI_b c (k := 309) (j := 3) bd_309_3
  have u3 := CI_b c (k := 309) (j := 4) bd_309_4
  have u4 := CI_b c (k := 309) (j := 6) bd_309_6
  have u5 := CI_b c (k := 309) (j := 20) bd_309_20
  have u6 := CI_b c (k := 309) (j := 36) bd_309_36
  have u7 := CI_b c (k := 309) (j := 43) bd_309_43
  have u8 := CI_b c (k := 309) (j := 44) bd_309_44
  have u9 := CI_b c (k := 309) (j := 58) bd_309_58
  have u10 := CI_b c (k := 316) (j := 0) bd_316_0
  have u11 := CI_b c (k := 329) (j := 0) bd_329_0
  have u12 := CI_b c (k := 329) (j := 1) bd_329_1
  have t13 : s 309 43 = r0 309 43 := f 309 43 (by decide)
  have t14 : s 309 44 = r0 309 44 := f 309 44 (by decide)
  have t15 : s 309 58 = r0 309 58 := f 309 58 (by decide)
  refine T_if1 (by decide +kernel) ?_
  refine T_leq (fun x16 e17 => ?_)
  have u18 := CI_b c (k := 309) (j := 7) bd_309_7
  refine T_if1 (by decide +kernel) ?_
  refine T_upg c bd_309_5 (by omega) (fun s19 c20 g22 g23 e24 => ?_)
  have f21 := z_Fr.upf (R := R_X12_reads_309) f g22 g23 (Or.inr (Or.inr (⟨rfl, by decide⟩)))
  have t25 : s19 309 2 = s 309 2 := g23 2 (by decide)
  have t26 : s19 309 3 = s 309 3 := g23 3 (by decide)
  have t27 : s19 309 4 = s 309 4 := g23 4 (by decide)
  have t28 : s19 309 6 = s 309 6 := g23 6 (by decide)
  have t29 : s19 309 20 = s 309 20 := g23 20 (by decide)
  have t30 : s19 309 36 = s 309 36 := g23 36 (by decide)
  have t31 : s19 309 43 = s 309 43 := g23 43 (by decide)
  have t32 : s19 309 44 = s 309 44 := g23 44 (by decide)
  have t33 : s19 309 58 = s 309 58 := g23 58 (by decide)
  have t34 : s19 316 0 = s 316 0 := g22 316 0 (by decide)
  have t35 : s19 329 0 = s 329 0 := g22 329 0 (by decide)
  have t36 : s19 329 1 = s 329 1 := g22 329 1 (by decide)
  have r37 := y_TA.fr p0 (fun a b h => g22 a b (by omega)) (fun a b h => g22 a b (by omega)) (fun a b h => g22 a b (by omega))
  have r38 := y_B.fr p1 (g23 20 (by decide)) (g22 316 0 (by decide)) (fun b => g22 3220 b (by decide)) (fun b => g22 3221 b (by decide)) (fun b => g22 3222 b (by decide)) (fun b => g22 361 b (by decide))
  have r39 := y_K.fr p2 (by omega) (by omega) (g23 44 (by decide)) (g23 20 (by decide)) (g23 58 (by decide)) (fun b => g22 3438 b (by decide)) (fun b => g22 3220 b (by decide)) (fun a b h => g22 a b (by omega))
  have r40 := y_D.fr p3 (fun b => g22 359 b (by decide)) (fun b => g22 374 b (by decide))
  have r41 := y_KM.fr p6 (g23 20 (by decide)) (g23 36 (by decide)) (g23 38 (by decide)) (g23 39 (by decide)) (fun b => g22 312 b (by decide)) (fun b => g22 331 b (by decide)) (fun b => g22 346 b (by decide)) (fun b => g22 361 b (by decide)) (fun b => g22 391 b (by decide)) (fun a b h => g22 a b (by omega)) (fun a b h => g22 a b (by omega)) (fun a b h => g22 a b (by omega))
  refine T_if1 (by decide +kernel) ?_
  refine T_useI (sf_X12_fine_309 hfu s19 c20) (fun v47 s42 hq => ?_)
  obtain ⟨c43, f44, ⟨x46, rfl, b48, b49, o50⟩⟩ := hq
  refine T_vI ?_
  have q51 := z_Fr.eq (fun a b h => h) f44
  subst q51
  refine T_ite (fun h52 => ?_) (fun h52 => ?_)
  · refine T_if1 (by decide +kernel) ?_
    refine T_useN (sf_X12_stands_309K hfu s19 c20 r37 (by first | exact ⟨by omega, y_D.cg r40 (by omega)⟩ | exact y_DD.z (by omega) (by omega)) (by first | exact r41 | exact y_KM.z (by omega))) (fun v58 s53 hq => ?_)
    obtain ⟨c54, f55, o59, o60, o61, o62, o63, rfl⟩ := hq
    refine T_vN ?_
    have f56 := z_Fr.tr (R := R_X12_reads_309) f21 f55 rs_X12_stands_309__X12_reads_309
    have t66 : s53 309 2 = s 309 2 := (f55 309 2 (by decide)).trans t25
    have t67 : s53 309 3 = s 309 3 := (f55 309 3 (by decide)).trans t26
    have t68 : s53 309 4 = s 309 4 := (f55 309 4 (by decide)).trans t27
    have t69 : s53 309 6 = s 309 6 := (f55 309 6 (by decide)).trans t28
    have t70 : s53 309 43 = s 309 43 := (f55 309 43 (by decide)).trans t31
    have t71 : s53 309 44 = s 309 44 := (f55 309 44 (by decide)).trans t32
    have t72 : s53 309 58 = s 309 58 := (f55 309 58 (by decide)).trans t33
    have u73 := CI_b c54 (k := 309) (j := 20) bd_309_20
    have u74 := CI_b c54 (k := 309) (j := 36) bd_309_36
    have u75 := CI_b c54 (k := 316) (j := 0) bd_316_0
    have u76 := CI_b c54 (k := 329) (j := 0) bd_329_0
    have u77 := CI_b c54 (k := 329) (j := 1) bd_329_1
    clear t25
    clear t26
    clear t27
    clear t28
    clear t31
    clear t32
    clear t33
    refine T_if1 (by decide +kernel) ?_
    refine T_leq (fun x78 e79 => ?_)
    have u80 := CI_b c54 (k := 309) (j := 20) bd_309_20
    exact T_ret ⟨c54, f56, o59, (by first | exact o60 | exact y_DD.z (by omega) (by omega)), o61, (by first | exact y_K.b0 (by omega) | exact y_K.k0 (by omega) | exact y_K.bk (by omega)), (by omega), (by first | exact o63 | exact y_KM.z (by omega)), ⟨x78, rfl, by omega, by omega⟩⟩
  · refine T_if1 (by decide +kernel) ?_
    refine T_leq (fun x81 e82 => ?_)
    have u83 := CI_b c20 (k := 309) (j := 6) bd_309_6
    refine T_leq (fun x84 e85 => ?_)
    first | (have w86 := z_wx e85 (by omega)) | (have w86 := z_wr e85)
    exact T_ret ⟨c20, f21, r37, (by first | exact ⟨by omega, y_D.cg r40 (by omega)⟩ | exact y_DD.z (by omega) (by omega)), r38, (by first | exact r39 | exact y_K.b0 (by omega) | exact y_K.k0 (by omega) | exact y_K.bk (by omega)), (by omega), (by first | exact r41 | exact y_KM.z (by omega)), ⟨x84, rfl, by omega, by omega⟩⟩
set_option maxHeartbeats 4000000 in
theorem sf_X12_reads_309K {fu : Nat} (hfu : 8589934592 ≤ fu) (r0 : z_M) (c0 : z_CI r0) (a1 : Int) (b1 : 0 ≤ a1 ∧ a1 ≤ 300) (p0 : y_TA r0) (p1 : y_DD r0) (p2 : y_B r0) (p3 : y_K r0) (p4 : y_KM r0) : z_T (fX12_reads fu r0 309 a1) (P_X12_reads_309K r0) := by
  refine T_of (fX12_reads.eq_1 ..) ?_
  have u1 := CI_b c0 (k := 309) (j := 2) bd_309_2
  have u2 := CI_b c0 (k := 309) (j := 3) bd_309_3
  have u3 := CI_b c0 (k := 309) (j := 4) bd_309_4
  have u4 := CI_b c0 (k := 309) (j := 6) bd_309_6
  have u5 := CI_b c0 (k := 309) (j := 20) bd_309_20
  have u6 := CI_b c0 (k := 309) (j := 36) bd_309_36
  have u7 := CI_b c0 (k := 309) (j := 43) bd_309_43
  have u8 := CI_b c0 (k := 309) (j := 44) bd_309_44
  have u9 := CI_b c0 (k := 309) (j := 58) bd_309_58
  have u10 := CI_b c0 (k := 316) (j := 0) bd_316_0
  have u11 := CI_b c0 (k := 329) (j := 0) bd_329_0
  have u12 := CI_b c0 (k := 329) (j := 1) bd_329_1
  have n13 := (p1).1
  refine T_if1 (by decide +kernel) ?_
  refine T_upg c0 bd_309_2 (by omega) (fun s14 c15 g17 g18 e19 => ?_)
  have f16 := z_Fr.upf (R := R_X12_reads_309) z_Fr.rf g17 g18 (Or.inr (Or.inr (⟨rfl, by decide⟩)))
  have t20 : s14 309 3 = r0 309 3 := g18 3 (by decide)
  have t21 : s14 309 4 = r0 309 4 := g18 4 (by decide)
  have t22 : s14 309 6 = r0 309 6 := g18 6 (by decide)
  have t23 : s14 309 20 = r0 309 20 := g18 20 (by decide)
  have t24 : s14 309 36 = r0 309 36 := g18 36 (by decide)
  have t25 : s14 309 43 = r0 309 43 := g18 43 (by decide)
  have t26 : s14 309 44 = r0 309 44 := g18 44 (by decide)
  have t27 : s14 309 58 = r0 309 58 := g18 58 (by decide)
  have t28 : s14 316 0 = r0 316 0 := g17 316 0 (by decide)
  have t29 : s14 329 0 = r0 329 0 := g17 329 0 (by decide)
  have t30 : s14 329 1 = r0 329 1 := g17 329 1 (by decide)
  have u31 := CI_b c15 (k := 309) (j := 2) bd_309_2
  have r32 := y_TA.fr p0 (fun a b h => g17 a b (by omega)) (fun a b h => g17 a b (by omega)) (fun a b h => g17 a b (by omega))
  have r33 := y_DD.fr p1 (g17 329 0 (by decide)) (g17 329 1 (by decide)) (fun b => g17 359 b (by decide)) (fun b => g17 374 b (by decide))
  have r34 := y_B.fr p2 (g18 20 (by decide)) (g17 316 0 (by decide)) (fun b => g17 3220 b (by decide)) (fun b => g17 3221 b (by decide)) (fun b => g17 3222 b (by decide)) (fun b => g17 361 b (by decide))
  have r35 := y_K.fr p3 (by omega) (by omega) (g18 44 (by decide)) (g18 20 (by decide)) (g18 58 (by decide)) (fun b => g17 3438 b (by decide)) (fun b => g17 3220 b (by decide)) (fun a b h => g17 a b (by omega))
  have r36 := y_KM.fr p4 (g18 20 (by decide)) (g18 36 (by decide)) (g18 38 (by decide)) (g18 39 (by decide)) (fun b => g17 312 b (by decide)) (fun b => g17 331 b (by decide)) (fun b => g17 346 b (by decide)) (fun b => g17 361 b (by decide)) (fun b => g17 391 b (by decide)) (fun a b h => g17 a b (by omega)) (fun a b h => g17 a b (by omega)) (fun a b h => g17 a b (by omega))
  refine T_if1 (by decide +kernel) ?_
  refine T_upg c15 bd_309_3 (by omega) (fun s37 c38 g40 g41 e42 => ?_)
  have f39 := z_Fr.upf (R := R_X12_reads_309) f16 g40 g41 (Or.inr (Or.inr (⟨rfl, by decide⟩)))
  have t43 : s37 309 2 = s14 309 2 := g41 2 (by decide)
  have t44 : s37 309 4 = r0 309 4 := (g41 4 (by decide)).trans t21
  have t45 : s37 309 6 = r0 309 6 := (g41 6 (by decide)).trans t22
  have t46 : s37 309 20 = r0 309 20 := (g41 20 (by decide)).trans t23
  have t47 : s37 309 36 = r0 309 36 := (g41 36 (by decide)).trans t24
  have t48 : s37 309 43 = r0 309 43 := (g41 43 (by decide)).trans t25
  have t49 : s37 309 44 = r0 309 44 := (g41 44 (by decide)).trans t26
  have t50 : s37 309 58 = r0 309 58 := (g41 58 (by decide)).trans t27
  have t51 : s37 316 0 = r0 316 0 := (g40 316 0 (by decide)).trans t28
  have t52 : s37 329 0 = r0 329 0 := (g40 329 0 (by decide)).trans t29
  have t53 : s37 329 1 = r0 329 1 := (g40 329 1 (by decide)).trans t30
  have u54 := CI_b c38 (k := 309) (j := 3) bd_309_3
  have r55 := y_TA.fr r32 (fun a b h => g40 a b (by omega)) (fun a b h => g40 a b (by omega)) (fun a b h => g40 a b (by omega))
  have r56 := y_DD.fr r33 (g40 329 0 (by decide)) (g40 329 1 (by decide)) (fun b => g40 359 b (by decide)) (fun b => g40 374 b (by decide))
  have r57 := y_B.fr r34 (g41 20 (by decide)) (g40 316 0 (by decide)) (fun b => g40 3220 b (by decide)) (fun b => g40 3221 b (by decide)) (fun b => g40 3222 b (by decide)) (fun b => g40 361 b (by decide))
  have r58 := y_K.fr r35 (by omega) (by omega) (g41 44 (by decide)) (g41 20 (by decide)) (g41 58 (by decide)) (fun b => g40 3438 b (by decide)) (fun b => g40 3220 b (by decide)) (fun a b h => g40 a b (by omega))
  have r59 := y_KM.fr r36 (g41 20 (by decide)) (g41 36 (by decide)) (g41 38 (by decide)) (g41 39 (by decide)) (fun b => g40 312 b (by decide)) (fun b => g40 331 b (by decide)) (fun b => g40 346 b (by decide)) (fun b => g40 361 b (by decide)) (fun b => g40 391 b (by decide)) (fun a b h => g40 a b (by omega)) (fun a b h => g40 a b (by omega)) (fun a b h => g40 a b (by omega))
  clear t21
  clear t22
  clear t23
  clear t24
  clear t25
  clear t26
  clear t27
  clear t28
  clear t29
  clear t30
  refine T_if1 (by decide +kernel) ?_
  refine T_upg c38 bd_309_4 (by omega) (fun s60 c61 g63 g64 e65 => ?_)
  have f62 := z_Fr.upf (R := R_X12_reads_309) f39 g63 g64 (Or.inr (Or.inr (⟨rfl, by decide⟩)))
  have t66 : s60 309 2 = s14 309 2 := (g64 2 (by decide)).trans t43
  have t67 : s60 309 3 = s37 309 3 := g64 3 (by decide)
  have t68 : s60 309 6 = r0 309 6 := (g64 6 (by decide)).trans t45
  have t69 : s60 309 20 = r0 309 20 := (g64 20 (by decide)).trans t46
  have t70 : s60 309 36 = r0 309 36 := (g64 36 (by decide)).trans t47
  have t71 : s60 309 43 = r0 309 43 := (g64 43 (by decide)).trans t48
  have t72 : s60 309 44 = r0 309 44 := (g64 44 (by decide)).trans t49
  have t73 : s60 309 58 = r0 309 58 := (g64 58 (by decide)).trans t50
  have t74 : s60 316 0 = r0 316 0 := (g63 316 0 (by decide)).trans t51
  have t75 : s60 329 0 = r0 329 0 := (g63 329 0 (by decide)).trans t52
  have t76 : s60 329 1 = r0 329 1 := (g63 329 1 (by decide)).trans t53
  have u77 := CI_b c61 (k := 309) (j := 4) bd_309_4
  have r78 := y_TA.fr r55 (fun a b h => g63 a b (by omega)) (fun a b h => g63 a b (by omega)) (fun a b h => g63 a b (by omega))
  have r79 := y_DD.fr r56 (g63 329 0 (by decide)) (g63 329 1 (by decide)) (fun b => g63 359 b (by decide)) (fun b => g63 374 b (by decide))
  have r80 := y_B.fr r57 (g64 20 (by decide)) (g63 316 0 (by decide)) (fun b => g63 3220 b (by decide)) (fun b => g63 3221 b (by decide)) (fun b => g63 3222 b (by decide)) (fun b => g63 361 b (by decide))
  have r81 := y_K.fr r58 (by omega) (by omega) (g64 44 (by decide)) (g64 20 (by decide)) (g64 58 (by decide)) (fun b => g63 3438 b (by decide)) (fun b => g63 3220 b (by decide)) (fun a b h => g63 a b (by omega))
  have r82 := y_KM.fr r59 (g64 20 (by decide)) (g64 36 (by decide)) (g64 38 (by decide)) (g64 39 (by decide)) (fun b => g63 312 b (by decide)) (fun b => g63 331 b (by decide)) (fun b => g63 346 b (by decide)) (fun b => g63 361 b (by decide)) (fun b => g63 391 b (by decide)) (fun a b h => g63 a b (by omega)) (fun a b h => g63 a b (by omega)) (fun a b h => g63 a b (by omega))
  clear t43
  clear t45
  clear t46
  clear t47
  clear t48
  clear t49
  clear t50
  clear t51
  clear t52
  clear t53
  refine T_if1 (by decide +kernel) ?_
  refine T_upg c61 bd_309_6 (by omega) (fun s83 c84 g86 g87 e88 => ?_)
  have f85 := z_Fr.upf (R := R_X12_reads_309) f62 g86 g87 (Or.inr (Or.inr (⟨rfl, by decide⟩)))
  have t89 : s83 309 2 = s14 309 2 := (g87 2 (by decide)).trans t66
  have t90 : s83 309 3 = s37 309 3 := (g87 3 (by decide)).trans t67
  have t91 : s83 309 4 = s60 309 4 := g87 4 (by decide)
  have t92 : s83 309 20 = r0 309 20 := (g87 20 (by decide)).trans t69
  have t93 : s83 309 36 = r0 309 36 := (g87 36 (by decide)).trans t70
  have t94 : s83 309 43 = r0 309 43 := (g87 43 (by decide)).trans t71
  have t95 : s83 309 44 = r0 309 44 := (g87 44 (by decide)).trans t72
  have t96 : s83 309 58 = r0 309 58 := (g87 58 (by decide)).trans t73
  have t97 : s83 316 0 = r0 316 0 := (g86 316 0 (by decide)).trans t74
  have t98 : s83 329 0 = r0 329 0 := (g86 329 0 (by decide)).trans t75
  have t99 : s83 329 1 = r0 329 1 := (g86 329 1 (by decide)).trans t76
  have u100 := CI_b c84 (k := 309) (j := 6) bd_309_6
  have r101 := y_TA.fr r78 (fun a b h => g86 a b (by omega)) (fun a b h => g86 a b (by omega)) (fun a b h => g86 a b (by omega))
  have r102 := y_DD.fr r79 (g86 329 0 (by decide)) (g86 329 1 (by decide)) (fun b => g86 359 b (by decide)) (fun b => g86 374 b (by decide))
  have r103 := y_B.fr r80 (g87 20 (by decide)) (g86 316 0 (by decide)) (fun b => g86 3220 b (by decide)) (fun b => g86 3221 b (by decide)) (fun b => g86 3222 b (by decide)) (fun b => g86 361 b (by decide))
  have r104 := y_K.fr r81 (by omega) (by omega) (g87 44 (by decide)) (g87 20 (by decide)) (g87 58 (by decide)) (fun b => g86 3438 b (by decide)) (fun b => g86 3220 b (by decide)) (fun a b h => g86 a b (by omega))
  have r105 := y_KM.fr r82 (g87 20 (by decide)) (g87 36 (by decide)) (g87 38 (by decide)) (g87 39 (by decide)) (fun b => g86 312 b (by decide)) (fun b => g86 331 b (by decide)) (fun b => g86 346 b (by decide)) (fun b => g86 361 b (by decide)) (fun b => g86 391 b (by decide)) (fun a b h => g86 a b (by omega)) (fun a b h => g86 a b (by omega)) (fun a b h => g86 a b (by omega))
  clear t66
  clear t67
  clear t69
  clear t70
  clear t71
  clear t72
  clear t73
  clear t74
  clear t75
  clear t76
  refine T_if1 (by decide +kernel) ?_
  refine T_upg c84 bd_309_7 (by omega) (fun s106 c107 g109 g110 e111 => ?_)
  have f108 := z_Fr.upf (R := R_X12_reads_309) f85 g109 g110 (Or.inr (Or.inr (⟨rfl, by decide⟩)))
  have t112 : s106 309 2 = s14 309 2 := (g110 2 (by decide)).trans t89
  have t113 : s106 309 3 = s37 309 3 := (g110 3 (by decide)).trans t90
  have t114 : s106 309 4 = s60 309 4 := (g110 4 (by decide)).trans t91
  have t115 : s106 309 6 = s83 309 6 := g110 6 (by decide)
  have t116 : s106 309 20 = r0 309 20 := (g110 20 (by decide)).trans t92
  have t117 : s106 309 36 = r0 309 36 := (g110 36 (by decide)).trans t93
  have t118 : s106 309 43 = r0 309 43 := (g110 43 (by decide)).trans t94
  have t119 : s106 309 44 = r0 309 44 := (g110 44 (by decide)).trans t95
  have t120 : s106 309 58 = r0 309 58 := (g110 58 (by decide)).trans t96
  have t121 : s106 316 0 = r0 316 0 := (g109 316 0 (by decide)).trans t97
  have t122 : s106 329 0 = r0 329 0 := (g109 329 0 (by decide)).trans t98
  have t123 : s106 329 1 = r0 329 1 := (g109 329 1 (by decide)).trans t99
  have r124 := y_TA.fr r101 (fun a b h => g109 a b (by omega)) (fun a b h => g109 a b (by omega)) (fun a b h => g109 a b (by omega))
  have r125 := y_DD.fr r102 (g109 329 0 (by decide)) (g109 329 1 (by decide)) (fun b => g109 359 b (by decide)) (fun b => g109 374 b (by decide))
  have r126 := y_B.fr r103 (g110 20 (by decide)) (g109 316 0 (by decide)) (fun b => g109 3220 b (by decide)) (fun b => g109 3221 b (by decide)) (fun b => g109 3222 b (by decide)) (fun b => g109 361 b (by decide))
  have r127 := y_K.fr r104 (by omega) (by omega) (g110 44 (by decide)) (g110 20 (by decide)) (g110 58 (by decide)) (fun b => g109 3438 b (by decide)) (fun b => g109 3220 b (by decide)) (fun a b h => g109 a b (by omega))
  have r128 := y_KM.fr r105 (g110 20 (by decide)) (g110 36 (by decide)) (g110 38 (by decide)) (g110 39 (by decide)) (fun b => g109 312 b (by decide)) (fun b => g109 331 b (by decide)) (fun b => g109 346 b (by decide)) (fun b => g109 361 b (by decide)) (fun b => g109 391 b (by decide)) (fun a b h => g109 a b (by omega)) (fun a b h => g109 a b (by omega)) (fun a b h => g109 a b (by omega))
  clear t89
  clear t90
  clear t91
  clear t92
  clear t93
  clear t94
  clear t95
  clear t96
  clear t97
  clear t98
  clear t99
  refine sl_X12_reads_309K_L25 hfu r0 (fun s129 c130 f131 g132 g133 g134 g135 g136 g137 g138 => ?_) fu s106 c107 f108 r124 r126 (by first | exact r127 | exact y_K.b0 (by omega) | exact y_K.k0 (by omega) | exact y_K.bk (by omega)) (by first | exact y_D.z (by omega) | exact y_D.cg (And.right r125) (by omega)) (by omega) (by omega) (by omega) (by first | exact r128 | exact y_KM.z (by omega)) (by omega)
  have u139 := CI_b c130 (k := 309) (j := 2) bd_309_2
  have u140 := CI_b c130 (k := 309) (j := 3) bd_309_3
  have u141 := CI_b c130 (k := 309) (j := 4) bd_309_4
  have u142 := CI_b c130 (k := 309) (j := 6) bd_309_6
  have u143 := CI_b c130 (k := 309) (j := 20) bd_309_20
  have u144 := CI_b c130 (k := 309) (j := 36) bd_309_36
  have u145 := CI_b c130 (k := 309) (j := 43) bd_309_43
  have u146 := CI_b c130 (k := 309) (j := 44) bd_309_44
  have u147 := CI_b c130 (k := 309) (j := 58) bd_309_58
  have u148 := CI_b c130 (k := 316) (j := 0) bd_316_0
  have u149 := CI_b c130 (k := 329) (j := 0) bd_329_0
  have u150 := CI_b c130 (k := 329) (j := 1) bd_329_1
  have t151 : s129 309 43 = r0 309 43 := f131 309 43 (by decide)
  have t152 : s129 309 44 = r0 309 44 := f131 309 44 (by decide)
  have t153 : s129 309 58 = r0 309 58 := f131 309 58 (by decide)
  exact sj_X12_reads_309K_J50 hfu r0 s129 c130 f131 g132 g133 (by first | exact g134 | exact y_K.b0 (by omega) | exact y_K.k0 (by omega) | exact y_K.bk (by omega)) (by first | exact y_D.cg g135 (by omega) | exact y_D.z (by omega) | exact y_D.ex g135 (by omega) (by omega)) (by omega) (by omega) (by first | exact g138 | exact y_KM.z (by omega))
abbrev P_X12_text_309K (r0 : z_M) (a1 : Int) : z_V → z_M → Prop := fun v s' => z_CI s' ∧ z_Fr R_X12_text_309 r0 s' ∧ (y_DD s') ∧ ((0 ≤ a1 ∧ a1 ≤ r0 309 2 ∧ s' 309 2 = 0) ∨ ((a1 < 0 ∨ r0 309 2 < a1) ∧ s' 309 2 = r0 309 2)) ∧ (y_TA s') ∧ (y_B s') ∧ (y_K s') ∧ (y_KM s') ∧ (∃ x, v = vI x ∧ -2147483648 ≤ x ∧ x ≤ 2147483647)
theorem nr_X12_bad_309__331 (b : Int) : ¬ R_X12_bad_309 331 b := by
  unfold R_X12_bad_309; omega
theorem nr_X12_bad_309__391 (b : Int) : ¬ R_X12_bad_309 391 b := by
  unfold R_X12_bad_309; omega
theorem nz_X12_bad_309__407_606 (a b : Int) (h : 407 ≤ a ∧ a ≤ 606) : ¬ R_X12_bad_309 a b := by
  unfold R_X12_bad_309; omega
theorem nz_X12_bad_309__3220_3223 (a b : Int) (h : 3220 ≤ a ∧ a ≤ 3223) : ¬ R_X12_bad_309 a b := by
  unfold R_X12_bad_309; omega
theorem nz_X12_bad_309__3235_3437 (a b : Int) (h : 3235 ≤ a ∧ a ≤ 3437) : ¬ R_X12_bad_309 a b := by
  unfold R_X12_bad_309; omega
theorem sl_X12_text_309K_L35 {fu : Nat} (hfu : 8589934592 ≤ fu) (r0 : z_M) (a1 : Int) (b1 : 0 ≤ a1 ∧ a1 ≤ 300) {k : z_M → z_O} (hk : ∀ (s' : z_M), z_CI s' → z_Fr R_X12_text_309 r0 s' → (s' 329 0 = 0) → (s' 329 1 = 0) → (s' 309 2 = r0 309 2) → (y_TA s') → (y_B s') → (y_K s') → (y_KM s') → z_T (k s') (P_X12_text_309K r0 a1)) : ∀ (F : Nat) (s : z_M) (a2 : Int), z_CI s → z_Fr R_X12_text_309 r0 s → (0 ≤ a2 ∧ a2 ≤ 3) → (a2 ≤ 0 ∨ s 329 0 = 0) → (a2 ≤ 1 ∨ s 329 1 = 0) → (s 309 2 = r0 309 2) → (y_TA s) → (y_B s) → (y_K s) → (y_KM s) → (2147483647 - a2 < (F : Int)) → z_T (fX12_text_L35 fu 309 a1 F s a2 k) (P_X12_text_309K r0 a1) := by
  intro F
  induction F with
  | zero =>
    intro s a2 c f b2 i0 i1 i2 i3 i4 i5 i6 hm
    have u40 := CI_b c (k := 309) (j := 0) bd_309_0
    have u41 := CI_b c (k := 309) (j := 2) bd_309_2
    have u42 := CI_b c (k := 309) (j := 20) bd_309_20
    have u43 := CI_b c (k := 309) (j := 36) bd_309_36
    have u44 := CI_b c (k := 309) (j := 43) bd_309_43
    have u45 := CI_b c (k := 309) (j := 44) bd_309_44
    have u46 := CI_b c (k := 309) (j := 58) bd_309_58
    have u47 := CI_b c (k := 316) (j := 0) bd_316_0
    have u48 := CI_b c (k := 329) (j := 0) bd_329_0
    have u49 := CI_b c (k := 329) (j := 1) bd_329_1
    exfalso; omega
  | succ F ih =>
    intro s a2 c f b2 i0 i1 i2 i3 i4 i5 i6 hm
    refine T_of (fX12_text_L35.eq_2 ..) ?_
    have u1 := CI_b c (k := 309) (j := 0) bd_309_0
    have u2 := CI_b c (k := 309) (j := 2) bd_309_2
    have u3 := CI_b c (k := 309) (j := 20) bd_309_20
    have u4 := CI_b c (k := 309) (j := 36) bd_309_36
    have u5 := CI_b c (k := 309) (j := 43) bd_309_43
    have u6 := CI_b c (k := 309) (j := 44) bd_309_44
    have u7 := CI_b c (k := 309) (j := 58) bd_309_58
    have u8 := CI_b c (k := 316) (j := 0) bd_316_0
    have u9 := CI_b c (k := 329) (j := 0) bd_329_0
    have u10 := CI_b c (k := 329) (j := 1) bd_329_1
    have t11 : s 309 43 = r0 309 43 := f 309 43 (by decide)
    have t12 : s 309 44 = r0 309 44 := f 309 44 (by decide)
    have t13 : s 309 58 = r0 309 58 := f 309 58 (by decide)
    refine T_ite (fun h14 => ?_) (fun h14 => ?_)
    · exact hk s c f (by omega) (by omega) (by omega) i3 i4 (by first | exact i5 | exact y_K.b0 (by omega) | exact y_K.k0 (by omega) | exact y_K.bk (by omega)) (by first | exact i6 | exact y_KM.z (by omega))
    · refine T_if1 (by decide +kernel) ?_
      refine T_let 315 (by decide +kernel) ?_
      refine T_if1 (z_ixl (n := 14) (by decide +kernel) (by omega) (by omega)) ?_
      refine T_let 329 (by decide +kernel) ?_
      refine T_if1 (z_ixl (n := 3) (by decide +kernel) (by omega) (by omega)) ?_
      refine T_upg c (z_bde _ _) (z_bd0 _ _) (fun s15 c16 g18 g19 e20 => ?_)
      have f17 := z_Fr.up (R := R_X12_text_309) f g18 (fun _ => (Or.inr (Or.inl (⟨by decide, by decide⟩))))
      have t21 : s15 309 0 = s 309 0 := g18 309 0 (by decide)
      have t22 : s15 309 2 = s 309 2 := g18 309 2 (by decide)
      have t23 : s15 309 20 = s 309 20 := g18 309 20 (by decide)
      have t24 : s15 309 36 = s 309 36 := g18 309 36 (by decide)
      have t25 : s15 309 43 = s 309 43 := g18 309 43 (by decide)
      have t26 : s15 309 44 = s 309 44 := g18 309 44 (by decide)
      have t27 : s15 309 58 = s 309 58 := g18 309 58 (by decide)
      have t28 : s15 316 0 = s 316 0 := g18 316 0 (by decide)
      have u29 := CI_b c16 (k := 329) (j := 0) bd_329_0
      have u30 := CI_b c16 (k := 329) (j := 1) bd_329_1
      have r31 := y_TA.fr i3 (fun a b h => g18 a b (by omega)) (fun a b h => g18 a b (by omega)) (fun a b h => g18 a b (by omega))
      have r32 := y_B.fr i4 (g18 309 20 (by decide)) (g18 316 0 (by decide)) (fun b => g18 3220 b (by decide)) (fun b => g18 3221 b (by decide)) (fun b => g18 3222 b (by decide)) (fun b => g18 361 b (by decide))
      have r33 := y_K.fr i5 (by omega) (by omega) (g18 309 44 (by decide)) (g18 309 20 (by decide)) (g18 309 58 (by decide)) (fun b => g18 3438 b (by decide)) (fun b => g18 3220 b (by decide)) (fun a b h => g18 a b (by omega))
      have r34 := y_KM.fr i6 (g18 309 20 (by decide)) (g18 309 36 (by decide)) (g18 309 38 (by decide)) (g18 309 39 (by decide)) (fun b => g18 312 b (by decide)) (fun b => g18 331 b (by decide)) (fun b => g18 346 b (by decide)) (fun b => g18 361 b (by decide)) (fun b => g18 391 b (by decide)) (fun a b h => g18 a b (by omega)) (fun a b h => g18 a b (by omega)) (fun a b h => g18 a b (by omega))
      have n35 := z_pt g19 e20 0
      have n36 := z_pt g19 e20 1
      refine T_leq (fun x37 e38 => ?_)
      first | (have w39 := z_wx e38 (by omega)) | (have w39 := z_wr e38)
      exact ih s15 x37 c16 f17 (by omega) (by omega) (by omega) (by omega) r31 r32 (by first | exact r33 | exact y_K.b0 (by omega) | exact y_K.k0 (by omega) | exact y_K.bk (by omega)) (by first | exact r34 | exact y_KM.z (by omega)) (by omega)
theorem nr_X12_reads_309__312 (b : Int) : ¬ R_X12_reads_309 312 b := by
  unfold R_X12_reads_309; omega
theorem nz_X12_reads_309__3235_3437 (a b : Int) (h : 3235 ≤ a ∧ a ≤ 3437) : ¬ R_X12_reads_309 a b := by
  unfold R_X12_reads_309; omega
theorem sj_X12_text_309K_J23 {fu : Nat} (hfu : 8589934592 ≤ fu) (r0 s : z_M) (c : z_CI s) (f : z_Fr R_X12_text_309 r0 s) (a1 : Int) (t1 : Int) (b1 : -2147483648 ≤ a1 ∧ a1 ≤ 2147483647) (d1 : 0 ≤ t1 ∧ t1 ≤ 1) (p0 : t1 = 1 ∨ (0 ≤ a1 ∧ a1 ≤ s 309 2)) (p1 : s 309 0 = 0) (p2 : t1 = 0 ∨ a1 < 0 ∨ s 309 2 < a1) (p3 : y_DD s) (p4 : s 309 2 = r0 309 2) (p5 : y_TA s) (p6 : y_B s) (p7 : y_K s) (p8 : y_KM s) : z_T (fX12_text_J23 fu s 309 a1 309 t1) (P_X12_text_309K r0 a1) := by
  refine T_of (fX12_text_J23.eq_1 ..) ?_
  have u1 := CI_b c (k := 309) (j := 0) bd_309_0
  have u2 := CI_b c (k := 309) (j := 2) bd_309_2
  have u3 := CI_b c (k := 309) (j := 20) bd_309_20
  have u4 := CI_b c (k := 309) (j := 36) bd_309_36
  have u5 := CI_b c (k := 309) (j := 43) bd_309_43
  have u6 := CI_b c (k := 309) (j := 44) bd_309_44
  have u7 := CI_b c (k := 309) (j := 58) bd_309_58
  have u8 := CI_b c (k := 316) (j := 0) bd_316_0
  have u9 := CI_b c (k := 329) (j := 0) bd_329_0
  have u10 := CI_b c (k := 329) (j := 1) bd_329_1
  have t11 : s 309 43 = r0 309 43 := f 309 43 (by decide)
  have t12 : s 309 44 = r0 309 44 := f 309 44 (by decide)
  have t13 : s 309 58 = r0 309 58 := f 309 58 (by decide)
  refine T_if1 (by decide +kernel) ?_
  refine T_useI (sf_X12_bad_309 hfu s c t1 1 1 (by omega) (by omega) (by omega) (by omega)) (fun v19 s14 hq => ?_)
  obtain ⟨c15, f16, o20, ⟨x18, rfl, b21, b22, o23, o24⟩⟩ := hq
  refine T_vI ?_
  have f17 := z_Fr.tr (R := R_X12_text_309) f f16 rs_X12_bad_309__X12_text_309
  have t25 : s14 309 2 = s 309 2 := f16 309 2 (by decide)
  have t26 : s14 309 20 = s 309 20 := f16 309 20 (by decide)
  have t27 : s14 309 36 = s 309 36 := f16 309 36 (by decide)
  have t28 : s14 309 43 = s 309 43 := f16 309 43 (by decide)
  have t29 : s14 309 44 = s 309 44 := f16 309 44 (by decide)
  have t30 : s14 309 58 = s 309 58 := f16 309 58 (by decide)
  have t31 : s14 316 0 = s 316 0 := f16 316 0 (by decide)
  have t32 : s14 329 0 = s 329 0 := f16 329 0 (by decide)
  have t33 : s14 329 1 = s 329 1 := f16 329 1 (by decide)
  have u34 := CI_b c15 (k := 309) (j := 0) bd_309_0
  have r35 := y_DD.fr p3 (f16 329 0 (by decide)) (f16 329 1 (by decide)) (fun b => f16 359 b (nr_X12_bad_309__359 b)) (fun b => f16 374 b (nr_X12_bad_309__374 b))
  have r36 := y_TA.fr p5 (fun a b h => f16 a b (nz_X12_bad_309__316_328 a b h)) (fun a b h => f16 a b (nz_X12_bad_309__346_358 a b h)) (fun a b h => f16 a b (nz_X12_bad_309__361_373 a b h))
  have r37 := y_B.fr p6 (f16 309 20 (by decide)) (f16 316 0 (by decide)) (fun b => f16 3220 b (nr_X12_bad_309__3220 b)) (fun b => f16 3221 b (nr_X12_bad_309__3221 b)) (fun b => f16 3222 b (nr_X12_bad_309__3222 b)) (fun b => f16 361 b (nr_X12_bad_309__361 b))
  have r38 := y_K.fr p7 (by omega) (by omega) (f16 309 44 (by decide)) (f16 309 20 (by decide)) (f16 309 58 (by decide)) (fun b => f16 3438 b (nr_X12_bad_309__3438 b)) (fun b => f16 3220 b (nr_X12_bad_309__3220 b)) (fun a b h => f16 a b (nz_X12_bad_309__3452_3651 a b h))
  have r39 := y_KM.fr p8 (f16 309 20 (by decide)) (f16 309 36 (by decide)) (f16 309 38 (by decide)) (f16 309 39 (by decide)) (fun b => f16 312 b (nr_X12_bad_309__312 b)) (fun b => f16 331 b (nr_X12_bad_309__331 b)) (fun b => f16 346 b (nr_X12_bad_309__346 b)) (fun b => f16 361 b (nr_X12_bad_309__361 b)) (fun b => f16 391 b (nr_X12_bad_309__391 b)) (fun a b h => f16 a b (nz_X12_bad_309__407_606 a b h)) (fun a b h => f16 a b (nz_X12_bad_309__3220_3223 a b h)) (fun a b h => f16 a b (nz_X12_bad_309__3235_3437 a b h))
  refine T_ite (fun h40 => ?_) (fun h40 => ?_)
  · refine sl_X12_text_309K_L35 hfu r0 a1 (by omega) (fun s41 c42 f43 g44 g45 g46 g47 g48 g49 g50 => ?_) fu s14 0 c15 f17 (by omega) (by omega) (by omega) (by omega) r36 r37 (by first | exact r38 | exact y_K.b0 (by omega) | exact y_K.k0 (by omega) | exact y_K.bk (by omega)) (by first | exact r39 | exact y_KM.z (by omega)) (by omega)
    have u51 := CI_b c42 (k := 309) (j := 0) bd_309_0
    have u52 := CI_b c42 (k := 309) (j := 2) bd_309_2
    have u53 := CI_b c42 (k := 309) (j := 20) bd_309_20
    have u54 := CI_b c42 (k := 309) (j := 36) bd_309_36
    have u55 := CI_b c42 (k := 309) (j := 43) bd_309_43
    have u56 := CI_b c42 (k := 309) (j := 44) bd_309_44
    have u57 := CI_b c42 (k := 309) (j := 58) bd_309_58
    have u58 := CI_b c42 (k := 316) (j := 0) bd_316_0
    have u59 := CI_b c42 (k := 329) (j := 0) bd_329_0
    have u60 := CI_b c42 (k := 329) (j := 1) bd_329_1
    have t61 : s41 309 43 = r0 309 43 := f43 309 43 (by decide)
    have t62 : s41 309 44 = r0 309 44 := f43 309 44 (by decide)
    have t63 : s41 309 58 = r0 309 58 := f43 309 58 (by decide)
    refine T_if1 (by decide +kernel) ?_
    refine T_useI (sf_X12_reads_309K hfu s41 c42 a1 (by omega) g47 (by first | exact y_DD.z (by omega) (by omega)) g48 (by first | exact g49 | exact y_K.b0 (by omega) | exact y_K.k0 (by omega) | exact y_K.bk (by omega)) (by first | exact g50 | exact y_KM.z (by omega))) (fun v69 s64 hq => ?_)
    obtain ⟨c65, f66, o70, o71, o72, o73, o74, o75, ⟨x68, rfl, b76, b77⟩⟩ := hq
    refine T_vI ?_
    have f67 := z_Fr.tr (R := R_X12_text_309) f43 f66 rs_X12_reads_309__X12_text_309
    have t78 : s64 309 0 = s41 309 0 := f66 309 0 (by decide)
    have t79 : s64 309 43 = s41 309 43 := f66 309 43 (by decide)
    have t80 : s64 309 44 = s41 309 44 := f66 309 44 (by decide)
    have t81 : s64 309 58 = s41 309 58 := f66 309 58 (by decide)
    have u82 := CI_b c65 (k := 309) (j := 2) bd_309_2
    have u83 := CI_b c65 (k := 309) (j := 20) bd_309_20
    have u84 := CI_b c65 (k := 309) (j := 36) bd_309_36
    have u85 := CI_b c65 (k := 316) (j := 0) bd_316_0
    have u86 := CI_b c65 (k := 329) (j := 0) bd_329_0
    have u87 := CI_b c65 (k := 329) (j := 1) bd_329_1
    exact T_ret ⟨c65, f67, (by first | exact o71 | exact y_DD.z (by omega) (by omega)), (by omega), o70, o72, (by first | exact o73 | exact y_K.b0 (by omega) | exact y_K.k0 (by omega) | exact y_K.bk (by omega)), (by first | exact o75 | exact y_KM.z (by omega)), ⟨x68, rfl, by omega, by omega⟩⟩
  · exact T_ret ⟨c15, f17, (by first | exact r35 | exact y_DD.z (by omega) (by omega)), (by omega), r36, r37, (by first | exact r38 | exact y_K.b0 (by omega) | exact y_K.k0 (by omega) | exact y_K.bk (by omega)), (by first | exact r39 | exact y_KM.z (by omega)), ⟨0, rfl, by omega, by omega⟩⟩
theorem sf_X12_text_309K {fu : Nat} (hfu : 8589934592 ≤ fu) (r0 : z_M) (c0 : z_CI r0) (a1 : Int) (b1 : -2147483648 ≤ a1 ∧ a1 ≤ 2147483647) (p0 : y_DD r0) (p1 : y_TA r0) (p2 : y_B r0) (p3 : y_K r0) (p4 : y_KM r0) : z_T (fX12_text fu r0 309 a1) (P_X12_text_309K r0 a1) := by
  refine T_of (fX12_text.eq_1 ..) ?_
  have u1 := CI_b c0 (k := 309) (j := 0) bd_309_0
  have u2 := CI_b c0 (k := 309) (j := 2) bd_309_2
  have u3 := CI_b c0 (k := 309) (j := 20) bd_309_20
  have u4 := CI_b c0 (k := 309) (j := 36) bd_309_36
  have u5 := CI_b c0 (k := 309) (j := 43) bd_309_43
  have u6 := CI_b c0 (k := 309) (j := 44) bd_309_44
  have u7 := CI_b c0 (k := 309) (j := 58) bd_309_58
  have u8 := CI_b c0 (k := 316) (j := 0) bd_316_0
  have u9 := CI_b c0 (k := 329) (j := 0) bd_329_0
  have u10 := CI_b c0 (k := 329) (j := 1) bd_329_1
  refine T_if1 (by decide +kernel) ?_
  refine T_upg c0 bd_309_0 (by omega) (fun s11 c12 g14 g15 e16 => ?_)
  have f13 := z_Fr.upf (R := R_X12_text_309) z_Fr.rf g14 g15 (Or.inr (Or.inr (Or.inr (⟨rfl, by decide⟩))))
  have t17 : s11 309 2 = r0 309 2 := g15 2 (by decide)
  have t18 : s11 309 20 = r0 309 20 := g15 20 (by decide)
  have t19 : s11 309 36 = r0 309 36 := g15 36 (by decide)
  have t20 : s11 309 43 = r0 309 43 := g15 43 (by decide)
  have t21 : s11 309 44 = r0 309 44 := g15 44 (by decide)
  have t22 : s11 309 58 = r0 309 58 := g15 58 (by decide)
  have t23 : s11 316 0 = r0 316 0 := g14 316 0 (by decide)
  have t24 : s11 329 0 = r0 329 0 := g14 329 0 (by decide)
  have t25 : s11 329 1 = r0 329 1 := g14 329 1 (by decide)
  have u26 := CI_b c12 (k := 309) (j := 0) bd_309_0
  have r27 := y_DD.fr p0 (g14 329 0 (by decide)) (g14 329 1 (by decide)) (fun b => g14 359 b (by decide)) (fun b => g14 374 b (by decide))
  have r28 := y_TA.fr p1 (fun a b h => g14 a b (by omega)) (fun a b h => g14 a b (by omega)) (fun a b h => g14 a b (by omega))
  have r29 := y_B.fr p2 (g15 20 (by decide)) (g14 316 0 (by decide)) (fun b => g14 3220 b (by decide)) (fun b => g14 3221 b (by decide)) (fun b => g14 3222 b (by decide)) (fun b => g14 361 b (by decide))
  have r30 := y_K.fr p3 (by omega) (by omega) (g15 44 (by decide)) (g15 20 (by decide)) (g15 58 (by decide)) (fun b => g14 3438 b (by decide)) (fun b => g14 3220 b (by decide)) (fun a b h => g14 a b (by omega))
  have r31 := y_KM.fr p4 (g15 20 (by decide)) (g15 36 (by decide)) (g15 38 (by decide)) (g15 39 (by decide)) (fun b => g14 312 b (by decide)) (fun b => g14 331 b (by decide)) (fun b => g14 346 b (by decide)) (fun b => g14 361 b (by decide)) (fun b => g14 391 b (by decide)) (fun a b h => g14 a b (by omega)) (fun a b h => g14 a b (by omega)) (fun a b h => g14 a b (by omega))
  refine T_if1 (by decide +kernel) ?_
  refine T_leq (fun x32 e33 => ?_)
  have u34 := CI_b c12 (k := 309) (j := 2) bd_309_2
  refine T_useI (sf_X12_in hfu s11 c12 a1 0 x32 (by omega) (by omega) (by omega)) (fun v40 s35 hq => ?_)
  obtain ⟨c36, f37, ⟨x39, rfl, b41, b42, o43⟩⟩ := hq
  refine T_vI ?_
  have q44 := z_Fr.eq (fun a b h => h) f37
  subst q44
  refine T_ite (fun h45 => ?_) (fun h45 => ?_)
  · exact sj_X12_text_309K_J23 hfu r0 s11 c12 f13 a1 0 (by omega) (by omega) (by omega) (by omega) (by omega) (by first | exact r27 | exact y_DD.z (by omega) (by omega)) (by omega) r28 r29 (by first | exact r30 | exact y_K.b0 (by omega) | exact y_K.k0 (by omega) | exact y_K.bk (by omega)) (by first | exact r31 | exact y_KM.z (by omega))
  · exact sj_X12_text_309K_J23 hfu r0 s11 c12 f13 a1 1 (by omega) (by omega) (by omega) (by omega) (by omega) (by first | exact r27 | exact y_DD.z (by omega) (by omega)) (by omega) r28 r29 (by first | exact r30 | exact y_K.b0 (by omega) | exact y_K.k0 (by omega) | exact y_K.bk (by omega)) (by first | exact r31 | exact y_KM.z (by omega))
abbrev P_X12_more__309K (r0 : z_M) (a1 : Int) : z_V → z_M → Prop := fun v s' => z_CI s' ∧ z_Fr R_X12_more__309 r0 s' ∧ (y_DD s') ∧ ((0 ≤ a1 ∧ a1 ≤ r0 309 2 ∧ s' 309 2 = 0) ∨ ((a1 < 0 ∨ r0 309 2 < a1) ∧ s' 309 2 = r0 309 2)) ∧ (y_TA s') ∧ (y_B s') ∧ (y_K s') ∧ (y_KM s') ∧ (∃ x, v = vI x ∧ -2147483648 ≤ x ∧ x ≤ 2147483647)
theorem sj_X12_more__309K_J23 {fu : Nat} (hfu : 8589934592 ≤ fu) (r0 s : z_M) (c : z_CI s) (f : z_Fr R_X12_more__309 r0 s) (a1 : Int) (t1 : Int) (b1 : -2147483648 ≤ a1 ∧ a1 ≤ 2147483647) (d1 : 0 ≤ t1 ∧ t1 ≤ 1) (p0 : t1 = 1 ∨ (0 ≤ a1 ∧ a1 ≤ s 309 2)) (p1 : s 309 0 = 0) (p2 : t1 = 0 ∨ a1 < 0 ∨ s 309 2 < a1) (p3 : y_DD s) (p4 : s 309 2 = r0 309 2) (p5 : y_TA s) (p6 : y_B s) (p7 : y_K s) (p8 : y_KM s) : z_T (fX12_more__J23 fu s 309 a1 309 t1) (P_X12_more__309K r0 a1) := by
  refine T_of (fX12_more__J23.eq_1 ..) ?_
  have u1 := CI_b c (k := 309) (j := 0) bd_309_0
  have u2 := CI_b c (k := 309) (j := 2) bd_309_2
  have u3 := CI_b c (k := 309) (j := 20) bd_309_20
  have u4 := CI_b c (k := 309) (j := 36) bd_309_36
  have u5 := CI_b c (k := 309) (j := 43) bd_309_43
  have u6 := CI_b c (k := 309) (j := 44) bd_309_44
  have u7 := CI_b c (k := 309) (j := 58) bd_309_58
  have u8 := CI_b c (k := 316) (j := 0) bd_316_0
  have u9 := CI_b c (k := 329) (j := 0) bd_329_0
  have u10 := CI_b c (k := 329) (j := 1) bd_329_1
  have t11 : s 309 43 = r0 309 43 := f 309 43 (by decide)
  have t12 : s 309 44 = r0 309 44 := f 309 44 (by decide)
  have t13 : s 309 58 = r0 309 58 := f 309 58 (by decide)
  refine T_if1 (by decide +kernel) ?_
  refine T_useI (sf_X12_bad_309 hfu s c t1 1 1 (by omega) (by omega) (by omega) (by omega)) (fun v19 s14 hq => ?_)
  obtain ⟨c15, f16, o20, ⟨x18, rfl, b21, b22, o23, o24⟩⟩ := hq
  refine T_vI ?_
  have f17 := z_Fr.tr (R := R_X12_more__309) f f16 rs_X12_bad_309__X12_more__309
  have t25 : s14 309 2 = s 309 2 := f16 309 2 (by decide)
  have t26 : s14 309 20 = s 309 20 := f16 309 20 (by decide)
  have t27 : s14 309 36 = s 309 36 := f16 309 36 (by decide)
  have t28 : s14 309 43 = s 309 43 := f16 309 43 (by decide)
  have t29 : s14 309 44 = s 309 44 := f16 309 44 (by decide)
  have t30 : s14 309 58 = s 309 58 := f16 309 58 (by decide)
  have t31 : s14 316 0 = s 316 0 := f16 316 0 (by decide)
  have t32 : s14 329 0 = s 329 0 := f16 329 0 (by decide)
  have t33 : s14 329 1 = s 329 1 := f16 329 1 (by decide)
  have u34 := CI_b c15 (k := 309) (j := 0) bd_309_0
  have r35 := y_DD.fr p3 (f16 329 0 (by decide)) (f16 329 1 (by decide)) (fun b => f16 359 b (nr_X12_bad_309__359 b)) (fun b => f16 374 b (nr_X12_bad_309__374 b))
  have r36 := y_TA.fr p5 (fun a b h => f16 a b (nz_X12_bad_309__316_328 a b h)) (fun a b h => f16 a b (nz_X12_bad_309__346_358 a b h)) (fun a b h => f16 a b (nz_X12_bad_309__361_373 a b h))
  have r37 := y_B.fr p6 (f16 309 20 (by decide)) (f16 316 0 (by decide)) (fun b => f16 3220 b (nr_X12_bad_309__3220 b)) (fun b => f16 3221 b (nr_X12_bad_309__3221 b)) (fun b => f16 3222 b (nr_X12_bad_309__3222 b)) (fun b => f16 361 b (nr_X12_bad_309__361 b))
  have r38 := y_K.fr p7 (by omega) (by omega) (f16 309 44 (by decide)) (f16 309 20 (by decide)) (f16 309 58 (by decide)) (fun b => f16 3438 b (nr_X12_bad_309__3438 b)) (fun b => f16 3220 b (nr_X12_bad_309__3220 b)) (fun a b h => f16 a b (nz_X12_bad_309__3452_3651 a b h))
  have r39 := y_KM.fr p8 (f16 309 20 (by decide)) (f16 309 36 (by decide)) (f16 309 38 (by decide)) (f16 309 39 (by decide)) (fun b => f16 312 b (nr_X12_bad_309__312 b)) (fun b => f16 331 b (nr_X12_bad_309__331 b)) (fun b => f16 346 b (nr_X12_bad_309__346 b)) (fun b => f16 361 b (nr_X12_bad_309__361 b)) (fun b => f16 391 b (nr_X12_bad_309__391 b)) (fun a b h => f16 a b (nz_X12_bad_309__407_606 a b h)) (fun a b h => f16 a b (nz_X12_bad_309__3220_3223 a b h)) (fun a b h => f16 a b (nz_X12_bad_309__3235_3437 a b h))
  refine T_ite (fun h40 => ?_) (fun h40 => ?_)
  · refine T_if1 (by decide +kernel) ?_
    refine T_useN (sf_X12_copies_309K hfu s14 c15 0 13 (by omega) (by omega) (by omega) (by first | exact r39 | exact y_KM.z (by omega))) (fun v46 s41 hq => ?_)
    obtain ⟨c42, f43, o47, o48, rfl⟩ := hq
    refine T_vN ?_
    have f44 := z_Fr.tr (R := R_X12_more__309) f17 f43 rs_X12_copies_309__X12_more__309
    have t51 : s41 309 0 = s14 309 0 := f43 309 0 (by decide)
    have t52 : s41 309 2 = s 309 2 := (f43 309 2 (by decide)).trans t25
    have t53 : s41 309 20 = s 309 20 := (f43 309 20 (by decide)).trans t26
    have t54 : s41 309 36 = s 309 36 := (f43 309 36 (by decide)).trans t27
    have t55 : s41 309 43 = s 309 43 := (f43 309 43 (by decide)).trans t28
    have t56 : s41 309 44 = s 309 44 := (f43 309 44 (by decide)).trans t29
    have t57 : s41 309 58 = s 309 58 := (f43 309 58 (by decide)).trans t30
    have u58 := CI_b c42 (k := 316) (j := 0) bd_316_0
    have u59 := CI_b c42 (k := 329) (j := 0) bd_329_0
    have u60 := CI_b c42 (k := 329) (j := 1) bd_329_1
    have r61 := y_K.fr r38 (by omega) (by omega) (f43 309 44 (by decide)) (f43 309 20 (by decide)) (f43 309 58 (by decide)) (fun b => f43 3438 b (nr_X12_copies_309__3438 b)) (fun b => f43 3220 b (nr_X12_copies_309__3220 b)) (fun a b h => f43 a b (nz_X12_copies_309__3452_3651 a b h))
    have r62 := y_CP.TA o47 c15 (by omega) r36
    have r63 := y_CP.DD o47 c15 (by omega) r36
    have r64 := y_CP.B o47 (by omega) r37 (f43 309 20 (by unfold R_X12_copies_309; omega)) (fun b => f43 3220 b (by unfold R_X12_copies_309; omega)) (fun b => f43 3221 b (by unfold R_X12_copies_309; omega)) (fun b => f43 3222 b (by unfold R_X12_copies_309; omega))
    clear t25
    clear t26
    clear t27
    clear t28
    clear t29
    clear t30
    refine T_if1 (by decide +kernel) ?_
    refine T_useI (sf_X12_reads_309K hfu s41 c42 a1 (by omega) r62 (by first | exact r63 | exact y_DD.z (by omega) (by omega)) r64 (by first | exact r61 | exact y_K.b0 (by omega) | exact y_K.k0 (by omega) | exact y_K.bk (by omega)) (by first | exact y_KM.z (by omega) | exact y_KQ.m o48 (by omega))) (fun v70 s65 hq => ?_)
    obtain ⟨c66, f67, o71, o72, o73, o74, o75, o76, ⟨x69, rfl, b77, b78⟩⟩ := hq
    refine T_vI ?_
    have f68 := z_Fr.tr (R := R_X12_more__309) f44 f67 rs_X12_reads_309__X12_more__309
    have t79 : s65 309 0 = s14 309 0 := (f67 309 0 (by decide)).trans t51
    have t80 : s65 309 43 = s 309 43 := (f67 309 43 (by decide)).trans t55
    have t81 : s65 309 44 = s 309 44 := (f67 309 44 (by decide)).trans t56
    have t82 : s65 309 58 = s 309 58 := (f67 309 58 (by decide)).trans t57
    have u83 := CI_b c66 (k := 309) (j := 2) bd_309_2
    have u84 := CI_b c66 (k := 309) (j := 20) bd_309_20
    have u85 := CI_b c66 (k := 309) (j := 36) bd_309_36
    have u86 := CI_b c66 (k := 316) (j := 0) bd_316_0
    have u87 := CI_b c66 (k := 329) (j := 0) bd_329_0
    have u88 := CI_b c66 (k := 329) (j := 1) bd_329_1
    clear t51
    clear t55
    clear t56
    clear t57
    exact T_ret ⟨c66, f68, (by first | exact o72 | exact y_DD.z (by omega) (by omega)), (by omega), o71, o73, (by first | exact o74 | exact y_K.b0 (by omega) | exact y_K.k0 (by omega) | exact y_K.bk (by omega)), (by first | exact o76 | exact y_KM.z (by omega)), ⟨x69, rfl, by omega, by omega⟩⟩
  · exact T_ret ⟨c15, f17, (by first | exact r35 | exact y_DD.z (by omega) (by omega)), (by omega), r36, r37, (by first | exact r38 | exact y_K.b0 (by omega) | exact y_K.k0 (by omega) | exact y_K.bk (by omega)), (by first | exact r39 | exact y_KM.z (by omega)), ⟨0, rfl, by omega, by omega⟩⟩
theorem sf_X12_more__309K {fu : Nat} (hfu : 8589934592 ≤ fu) (r0 : z_M) (c0 : z_CI r0) (a1 : Int) (b1 : -2147483648 ≤ a1 ∧ a1 ≤ 2147483647) (p0 : y_DD r0) (p1 : y_TA r0) (p2 : y_B r0) (p3 : y_K r0) (p4 : y_KM r0) : z_T (fX12_more_ fu r0 309 a1) (P_X12_more__309K r0 a1) := by
  refine T_of (fX12_more_.eq_1 ..) ?_
  have u1 := CI_b c0 (k := 309) (j := 0) bd_309_0
  have u2 := CI_b c0 (k := 309) (j := 2) bd_309_2
  have u3 := CI_b c0 (k := 309) (j := 20) bd_309_20
  have u4 := CI_b c0 (k := 309) (j := 36) bd_309_36
  have u5 := CI_b c0 (k := 309) (j := 43) bd_309_43
  have u6 := CI_b c0 (k := 309) (j := 44) bd_309_44
  have u7 := CI_b c0 (k := 309) (j := 58) bd_309_58
  have u8 := CI_b c0 (k := 316) (j := 0) bd_316_0
  have u9 := CI_b c0 (k := 329) (j := 0) bd_329_0
  have u10 := CI_b c0 (k := 329) (j := 1) bd_329_1
  refine T_if1 (by decide +kernel) ?_
  refine T_upg c0 bd_309_0 (by omega) (fun s11 c12 g14 g15 e16 => ?_)
  have f13 := z_Fr.upf (R := R_X12_more__309) z_Fr.rf g14 g15 (Or.inr (Or.inr (Or.inr (⟨rfl, by decide⟩))))
  have t17 : s11 309 2 = r0 309 2 := g15 2 (by decide)
  have t18 : s11 309 20 = r0 309 20 := g15 20 (by decide)
  have t19 : s11 309 36 = r0 309 36 := g15 36 (by decide)
  have t20 : s11 309 43 = r0 309 43 := g15 43 (by decide)
  have t21 : s11 309 44 = r0 309 44 := g15 44 (by decide)
  have t22 : s11 309 58 = r0 309 58 := g15 58 (by decide)
  have t23 : s11 316 0 = r0 316 0 := g14 316 0 (by decide)
  have t24 : s11 329 0 = r0 329 0 := g14 329 0 (by decide)
  have t25 : s11 329 1 = r0 329 1 := g14 329 1 (by decide)
  have u26 := CI_b c12 (k := 309) (j := 0) bd_309_0
  have r27 := y_DD.fr p0 (g14 329 0 (by decide)) (g14 329 1 (by decide)) (fun b => g14 359 b (by decide)) (fun b => g14 374 b (by decide))
  have r28 := y_TA.fr p1 (fun a b h => g14 a b (by omega)) (fun a b h => g14 a b (by omega)) (fun a b h => g14 a b (by omega))
  have r29 := y_B.fr p2 (g15 20 (by decide)) (g14 316 0 (by decide)) (fun b => g14 3220 b (by decide)) (fun b => g14 3221 b (by decide)) (fun b => g14 3222 b (by decide)) (fun b => g14 361 b (by decide))
  have r30 := y_K.fr p3 (by omega) (by omega) (g15 44 (by decide)) (g15 20 (by decide)) (g15 58 (by decide)) (fun b => g14 3438 b (by decide)) (fun b => g14 3220 b (by decide)) (fun a b h => g14 a b (by omega))
  have r31 := y_KM.fr p4 (g15 20 (by decide)) (g15 36 (by decide)) (g15 38 (by decide)) (g15 39 (by decide)) (fun b => g14 312 b (by decide)) (fun b => g14 331 b (by decide)) (fun b => g14 346 b (by decide)) (fun b => g14 361 b (by decide)) (fun b => g14 391 b (by decide)) (fun a b h => g14 a b (by omega)) (fun a b h => g14 a b (by omega)) (fun a b h => g14 a b (by omega))
  refine T_if1 (by decide +kernel) ?_
  refine T_leq (fun x32 e33 => ?_)
  have u34 := CI_b c12 (k := 309) (j := 2) bd_309_2
  refine T_useI (sf_X12_in hfu s11 c12 a1 0 x32 (by omega) (by omega) (by omega)) (fun v40 s35 hq => ?_)
  obtain ⟨c36, f37, ⟨x39, rfl, b41, b42, o43⟩⟩ := hq
  refine T_vI ?_
  have q44 := z_Fr.eq (fun a b h => h) f37
  subst q44
  refine T_ite (fun h45 => ?_) (fun h45 => ?_)
  · exact sj_X12_more__309K_J23 hfu r0 s11 c12 f13 a1 0 (by omega) (by omega) (by omega) (by omega) (by omega) (by first | exact r27 | exact y_DD.z (by omega) (by omega)) (by omega) r28 r29 (by first | exact r30 | exact y_K.b0 (by omega) | exact y_K.k0 (by omega) | exact y_K.bk (by omega)) (by first | exact r31 | exact y_KM.z (by omega))
  · exact sj_X12_more__309K_J23 hfu r0 s11 c12 f13 a1 1 (by omega) (by omega) (by omega) (by omega) (by omega) (by first | exact r27 | exact y_DD.z (by omega) (by omega)) (by omega) r28 r29 (by first | exact r30 | exact y_K.b0 (by omega) | exact y_K.k0 (by omega) | exact y_K.bk (by omega)) (by first | exact r31 | exact y_KM.z (by omega))
abbrev P_X12_undo_309K (r0 : z_M) : z_V → z_M → Prop := fun v s' => z_CI s' ∧ z_Fr R_X12_undo_309 r0 s' ∧ (y_TA s') ∧ (y_DD s') ∧ (y_B s') ∧ (y_K s') ∧ (y_KM s') ∧ (∃ x, v = vI x ∧ -2147483648 ≤ x ∧ x ≤ 2147483647)
set_option maxHeartbeats 4000000 in
theorem sf_X12_undo_309K {fu : Nat} (hfu : 8589934592 ≤ fu) (r0 : z_M) (c0 : z_CI r0) (p0 : y_TA r0) (p1 : y_DD r0) (p2 : y_B r0) (p3 : y_K r0) (p4 : y_KM r0) : z_T (fX12_undo fu r0 309) (P_X12_undo_309K r0) := by
  refine T_of (fX12_undo.eq_1 ..) ?_
  have u1 := CI_b c0 (k := 309) (j := 19) bd_309_19
  have u2 := CI_b c0 (k := 309) (j := 20) bd_309_20
  have u3 := CI_b c0 (k := 309) (j := 36) bd_309_36
  have u4 := CI_b c0 (k := 309) (j := 43) bd_309_43
  have u5 := CI_b c0 (k := 309) (j := 44) bd_309_44
  have u6 := CI_b c0 (k := 309) (j := 58) bd_309_58
  have u7 := CI_b c0 (k := 316) (j := 0) bd_316_0
  have u8 := CI_b c0 (k := 329) (j := 0) bd_329_0
  have u9 := CI_b c0 (k := 329) (j := 1) bd_329_1
  refine T_if1 (by decide +kernel) ?_
  refine T_upg c0 bd_309_0 (by omega) (fun s10 c11 g13 g14 e15 => ?_)
  have f12 := z_Fr.upf (R := R_X12_undo_309) z_Fr.rf g13 g14 (Or.inr (Or.inr (⟨rfl, by decide⟩)))
  have t16 : s10 309 19 = r0 309 19 := g14 19 (by decide)
  have t17 : s10 309 20 = r0 309 20 := g14 20 (by decide)
  have t18 : s10 309 36 = r0 309 36 := g14 36 (by decide)
  have t19 : s10 309 43 = r0 309 43 := g14 43 (by decide)
  have t20 : s10 309 44 = r0 309 44 := g14 44 (by decide)
  have t21 : s10 309 58 = r0 309 58 := g14 58 (by decide)
  have t22 : s10 316 0 = r0 316 0 := g13 316 0 (by decide)
  have t23 : s10 329 0 = r0 329 0 := g13 329 0 (by decide)
  have t24 : s10 329 1 = r0 329 1 := g13 329 1 (by decide)
  have r25 := y_TA.fr p0 (fun a b h => g13 a b (by omega)) (fun a b h => g13 a b (by omega)) (fun a b h => g13 a b (by omega))
  have r26 := y_DD.fr p1 (g13 329 0 (by decide)) (g13 329 1 (by decide)) (fun b => g13 359 b (by decide)) (fun b => g13 374 b (by decide))
  have r27 := y_B.fr p2 (g14 20 (by decide)) (g13 316 0 (by decide)) (fun b => g13 3220 b (by decide)) (fun b => g13 3221 b (by decide)) (fun b => g13 3222 b (by decide)) (fun b => g13 361 b (by decide))
  have r28 := y_K.fr p3 (by omega) (by omega) (g14 44 (by decide)) (g14 20 (by decide)) (g14 58 (by decide)) (fun b => g13 3438 b (by decide)) (fun b => g13 3220 b (by decide)) (fun a b h => g13 a b (by omega))
  have r29 := y_KM.fr p4 (g14 20 (by decide)) (g14 36 (by decide)) (g14 38 (by decide)) (g14 39 (by decide)) (fun b => g13 312 b (by decide)) (fun b => g13 331 b (by decide)) (fun b => g13 346 b (by decide)) (fun b => g13 361 b (by decide)) (fun b => g13 391 b (by decide)) (fun a b h => g13 a b (by omega)) (fun a b h => g13 a b (by omega)) (fun a b h => g13 a b (by omega))
  refine T_if1 (by decide +kernel) ?_
  refine T_leq (fun x30 e31 => ?_)
  have u32 := CI_b c11 (k := 309) (j := 19) bd_309_19
  refine T_ite (fun h33 => ?_) (fun h33 => ?_)
  · refine T_if1 (by decide +kernel) ?_
    refine T_leq (fun x34 e35 => ?_)
    have q36 : x30 = x34 := e31.symm.trans e35
    subst q36
    refine T_if1 (by decide +kernel) ?_
    refine T_useN (sf_X12_copies_309K hfu s10 c11 x30 0 (by omega) (by omega) (by omega) (by first | exact r29 | exact y_KM.z (by omega))) (fun v42 s37 hq => ?_)
    obtain ⟨c38, f39, o43, o44, rfl⟩ := hq
    refine T_vN ?_
    have f40 := z_Fr.tr (R := R_X12_undo_309) f12 f39 rs_X12_copies_309__X12_undo_309
    have t47 : s37 309 19 = x30 := (f39 309 19 (by decide)).trans e31
    have t48 : s37 309 20 = r0 309 20 := (f39 309 20 (by decide)).trans t17
    have t49 : s37 309 36 = r0 309 36 := (f39 309 36 (by decide)).trans t18
    have t50 : s37 309 43 = r0 309 43 := (f39 309 43 (by decide)).trans t19
    have t51 : s37 309 44 = r0 309 44 := (f39 309 44 (by decide)).trans t20
    have t52 : s37 309 58 = r0 309 58 := (f39 309 58 (by decide)).trans t21
    have u53 := CI_b c38 (k := 316) (j := 0) bd_316_0
    have u54 := CI_b c38 (k := 329) (j := 0) bd_329_0
    have u55 := CI_b c38 (k := 329) (j := 1) bd_329_1
    have r56 := y_K.fr r28 (by omega) (by omega) (f39 309 44 (by decide)) (f39 309 20 (by decide)) (f39 309 58 (by decide)) (fun b => f39 3438 b (nr_X12_copies_309__3438 b)) (fun b => f39 3220 b (nr_X12_copies_309__3220 b)) (fun a b h => f39 a b (nz_X12_copies_309__3452_3651 a b h))
    have r57 := y_CP.TA o43 c11 (by omega) r25
    have r58 := y_CP.DDk o43 (by omega) r26
    clear t17
    clear t18
    clear t19
    clear t20
    clear t21
    refine T_if1 (by decide +kernel) ?_
    refine T_leq (fun x59 e60 => ?_)
    have q61 : x30 = x59 := t47.symm.trans e60
    subst q61
    refine T_leq (fun x62 e63 => ?_)
    first | (have w64 := z_wx e63 (by omega)) | (have w64 := z_wr e63)
    refine T_if1 (by decide +kernel) ?_
    refine T_upg c38 bd_309_19 (by omega) (fun s65 c66 g68 g69 e70 => ?_)
    have f67 := z_Fr.upf (R := R_X12_undo_309) f40 g68 g69 (Or.inr (Or.inr (⟨rfl, by decide⟩)))
    have t71 : s65 309 20 = r0 309 20 := (g69 20 (by decide)).trans t48
    have t72 : s65 309 36 = r0 309 36 := (g69 36 (by decide)).trans t49
    have t73 : s65 309 43 = r0 309 43 := (g69 43 (by decide)).trans t50
    have t74 : s65 309 44 = r0 309 44 := (g69 44 (by decide)).trans t51
    have t75 : s65 309 58 = r0 309 58 := (g69 58 (by decide)).trans t52
    have t76 : s65 316 0 = s37 316 0 := g68 316 0 (by decide)
    have t77 : s65 329 0 = s37 329 0 := g68 329 0 (by decide)
    have t78 : s65 329 1 = s37 329 1 := g68 329 1 (by decide)
    have u79 := CI_b c66 (k := 309) (j := 19) bd_309_19
    have r80 := y_K.fr r56 (by omega) (by omega) (g69 44 (by decide)) (g69 20 (by decide)) (g69 58 (by decide)) (fun b => g68 3438 b (by decide)) (fun b => g68 3220 b (by decide)) (fun a b h => g68 a b (by omega))
    have r81 := y_KQ.fr o44 (g69 20 (by decide)) (g69 36 (by decide)) (g69 38 (by decide)) (g69 39 (by decide)) (fun b => g68 312 b (by decide)) (fun b => g68 331 b (by decide)) (fun b => g68 346 b (by decide)) (fun b => g68 361 b (by decide)) (fun b => g68 391 b (by decide)) (fun a b h => g68 a b (by omega)) (fun a b h => g68 a b (by omega)) (fun a b h => g68 a b (by omega))
    have r82 := y_TA.fr r57 (fun a b h => g68 a b (by omega)) (fun a b h => g68 a b (by omega)) (fun a b h => g68 a b (by omega))
    have r83 := y_DD.fr r58 (g68 329 0 (by decide)) (g68 329 1 (by decide)) (fun b => g68 359 b (by decide)) (fun b => g68 374 b (by decide))
    clear t48
    clear t49
    clear t50
    clear t51
    clear t52
    refine T_if1 (by decide +kernel) ?_
    refine T_useN (sf_X12_laysUnits_309K hfu s65 c66 r82) (fun v89 s84 hq => ?_)
    obtain ⟨c85, f86, o90, o91, o92, rfl⟩ := hq
    refine T_vN ?_
    have f87 := z_Fr.tr (R := R_X12_undo_309) f67 f86 rs_X12_laysUnits_309__X12_undo_309
    have t95 : s84 309 19 = s65 309 19 := f86 309 19 (by decide)
    have t96 : s84 309 43 = r0 309 43 := (f86 309 43 (by decide)).trans t73
    have t97 : s84 309 44 = r0 309 44 := (f86 309 44 (by decide)).trans t74
    have t98 : s84 309 58 = r0 309 58 := (f86 309 58 (by decide)).trans t75
    have t99 : s84 316 0 = s37 316 0 := (f86 316 0 (by decide)).trans t76
    have t100 : s84 329 0 = s37 329 0 := (f86 329 0 (by decide)).trans t77
    have t101 : s84 329 1 = s37 329 1 := (f86 329 1 (by decide)).trans t78
    have u102 := CI_b c85 (k := 309) (j := 20) bd_309_20
    have u103 := CI_b c85 (k := 309) (j := 36) bd_309_36
    have r104 := y_TA.fr r82 (fun a b h => f86 a b (nz_X12_laysUnits_309__316_328 a b h)) (fun a b h => f86 a b (nz_X12_laysUnits_309__346_358 a b h)) (fun a b h => f86 a b (nz_X12_laysUnits_309__361_373 a b h))
    have r105 := y_DD.fr r83 (f86 329 0 (by decide)) (f86 329 1 (by decide)) (fun b => f86 359 b (nr_X12_laysUnits_309__359 b)) (fun b => f86 374 b (nr_X12_laysUnits_309__374 b))
    clear t73
    clear t74
    clear t75
    clear t76
    clear t77
    clear t78
    refine T_if1 (by decide +kernel) ?_
    refine T_leq (fun x106 e107 => ?_)
    have u108 := CI_b c85 (k := 309) (j := 20) bd_309_20
    exact T_ret ⟨c85, f87, r104, (by first | exact r105 | exact y_DD.z (by omega) (by omega)), o90, (by first | exact y_K.b0 (by omega) | exact y_K.k0 (by omega) | exact y_K.bk (by omega)), (by first | exact y_KM.z (by omega)), ⟨x106, rfl, by omega, by omega⟩⟩
  · exact T_ret ⟨c11, f12, r25, (by first | exact r26 | exact y_DD.z (by omega) (by omega)), r27, (by first | exact r28 | exact y_K.b0 (by omega) | exact y_K.k0 (by omega) | exact y_K.bk (by omega)), (by first | exact r29 | exact y_KM.z (by omega)), ⟨(-1), rfl, by omega, by omega⟩⟩
abbrev P_X12_cut_309K (r0 : z_M) : z_V → z_M → Prop := fun v s' => z_CI s' ∧ z_Fr R_X12_cut_309 r0 s' ∧ (y_TA s') ∧ (y_DD s') ∧ (y_B s') ∧ (y_K s') ∧ (y_KM s') ∧ (∃ x, v = vI x ∧ -2147483648 ≤ x ∧ x ≤ 2147483647)
theorem sj_X12_cut_309K_J54 {fu : Nat} (hfu : 8589934592 ≤ fu) (r0 s : z_M) (c : z_CI s) (f : z_Fr R_X12_cut_309 r0 s) (p0 : y_TA s) (p1 : y_DD s) (p2 : y_B s) (p3 : y_K s) (p4 : y_KM s) : z_T (fX12_cut_J54 fu s) (P_X12_cut_309K r0) := by
  refine T_of (fX12_cut_J54.eq_1 ..) ?_
  have u1 := CI_b c (k := 309) (j := 20) bd_309_20
  have u2 := CI_b c (k := 309) (j := 36) bd_309_36
  have u3 := CI_b c (k := 309) (j := 43) bd_309_43
  have u4 := CI_b c (k := 309) (j := 44) bd_309_44
  have u5 := CI_b c (k := 309) (j := 58) bd_309_58
  have u6 := CI_b c (k := 316) (j := 0) bd_316_0
  have u7 := CI_b c (k := 329) (j := 0) bd_329_0
  have u8 := CI_b c (k := 329) (j := 1) bd_329_1
  have t9 : s 309 43 = r0 309 43 := f 309 43 (by decide)
  have t10 : s 309 44 = r0 309 44 := f 309 44 (by decide)
  have t11 : s 309 58 = r0 309 58 := f 309 58 (by decide)
  exact T_ret ⟨c, f, p0, (by first | exact p1 | exact y_DD.z (by omega) (by omega)), p2, (by first | exact p3 | exact y_K.b0 (by omega) | exact y_K.k0 (by omega) | exact y_K.bk (by omega)), (by first | exact p4 | exact y_KM.z (by omega)), ⟨0, rfl, by omega, by omega⟩⟩
theorem sl_X12_cut_309K_L100 {fu : Nat} (hfu : 8589934592 ≤ fu) (r0 : z_M) (a3 : Int) (a4 : Int) (a5 : Int) (a6 : Int) (a7 : Int) (a8 : Int) (b3 : -2147483648 ≤ a3 ∧ a3 ≤ 2147483647) (b4 : -2147483648 ≤ a4 ∧ a4 ≤ 2147483647) (b5 : -2147483648 ≤ a5 ∧ a5 ≤ 2147483647) (b6 : -2147483648 ≤ a6 ∧ a6 ≤ 2147483647) (b7 : -2147483648 ≤ a7 ∧ a7 ≤ 2147483647) (b8 : -2147483648 ≤ a8 ∧ a8 ≤ 2147483647) {k : z_M → z_O} (hk : ∀ (s' : z_M), z_CI s' → z_Fr R_X12_cut_309 r0 s' → (y_TA s') → (y_K s') → (y_KM s') → z_T (k s') (P_X12_cut_309K r0)) : ∀ (F : Nat) (s : z_M) (a9 : Int), z_CI s → z_Fr R_X12_cut_309 r0 s → (0 ≤ a9 ∧ a9 ≤ 200) → (y_TA s) → (y_K s) → (y_KM s) → (2147483647 - a9 < (F : Int)) → z_T (fX12_cut_L100 fu 309 a3 a4 a5 a6 a7 a8 F s a9 k) (P_X12_cut_309K r0) := by
  intro F
  induction F with
  | zero =>
    intro s a9 c f b9 i0 i1 i2 hm
    have u33 := CI_b c (k := 309) (j := 20) bd_309_20
    have u34 := CI_b c (k := 309) (j := 36) bd_309_36
    have u35 := CI_b c (k := 309) (j := 43) bd_309_43
    have u36 := CI_b c (k := 309) (j := 44) bd_309_44
    have u37 := CI_b c (k := 309) (j := 58) bd_309_58
    have u38 := CI_b c (k := 316) (j := 0) bd_316_0
    have u39 := CI_b c (k := 329) (j := 0) bd_329_0
    have u40 := CI_b c (k := 329) (j := 1) bd_329_1
    exfalso; omega
  | succ F ih =>
    intro s a9 c f b9 i0 i1 i2 hm
    refine T_of (fX12_cut_L100.eq_2 ..) ?_
    have u1 := CI_b c (k := 309) (j := 20) bd_309_20
    have u2 := CI_b c (k := 309) (j := 36) bd_309_36
    have u3 := CI_b c (k := 309) (j := 43) bd_309_43
    have u4 := CI_b c (k := 309) (j := 44) bd_309_44
    have u5 := CI_b c (k := 309) (j := 58) bd_309_58
    have u6 := CI_b c (k := 316) (j := 0) bd_316_0
    have u7 := CI_b c (k := 329) (j := 0) bd_329_0
    have u8 := CI_b c (k := 329) (j := 1) bd_329_1
    have t9 : s 309 43 = r0 309 43 := f 309 43 (by decide)
    have t10 : s 309 44 = r0 309 44 := f 309 44 (by decide)
    have t11 : s 309 58 = r0 309 58 := f 309 58 (by decide)
    refine T_ite (fun h12 => ?_) (fun h12 => ?_)
    · exact hk s c f i0 (by first | exact i1 | exact y_K.b0 (by omega) | exact y_K.k0 (by omega) | exact y_K.bk (by omega)) (by first | exact i2 | exact y_KM.z (by omega))
    · refine T_if1 (by decide +kernel) ?_
      refine T_let 7657 (by decide +kernel) ?_
      refine T_if1 (z_ixl (n := 200) (by decide +kernel) (by omega) (by omega)) ?_
      refine T_upg c (bdr_7657 a9) (by omega) (fun s13 c14 g16 g17 e18 => ?_)
      have f15 := z_Fr.up (R := R_X12_cut_309) f g16 (fun _ => (Or.inr (Or.inr (Or.inr (Or.inl (⟨by decide, by decide⟩))))))
      have t19 : s13 309 20 = s 309 20 := g16 309 20 (by decide)
      have t20 : s13 309 36 = s 309 36 := g16 309 36 (by decide)
      have t21 : s13 309 43 = s 309 43 := g16 309 43 (by decide)
      have t22 : s13 309 44 = s 309 44 := g16 309 44 (by decide)
      have t23 : s13 309 58 = s 309 58 := g16 309 58 (by decide)
      have t24 : s13 316 0 = s 316 0 := g16 316 0 (by decide)
      have t25 : s13 329 0 = s 329 0 := g16 329 0 (by decide)
      have t26 : s13 329 1 = s 329 1 := g16 329 1 (by decide)
      have r27 := y_TA.fr i0 (fun a b h => g16 a b (by omega)) (fun a b h => g16 a b (by omega)) (fun a b h => g16 a b (by omega))
      have r28 := y_K.fr i1 (by omega) (by omega) (g16 309 44 (by decide)) (g16 309 20 (by decide)) (g16 309 58 (by decide)) (fun b => g16 3438 b (by decide)) (fun b => g16 3220 b (by decide)) (fun a b h => g16 a b (by omega))
      have r29 := y_KM.fr i2 (g16 309 20 (by decide)) (g16 309 36 (by decide)) (g16 309 38 (by decide)) (g16 309 39 (by decide)) (fun b => g16 312 b (by decide)) (fun b => g16 331 b (by decide)) (fun b => g16 346 b (by decide)) (fun b => g16 361 b (by decide)) (fun b => g16 391 b (by decide)) (fun a b h => g16 a b (by omega)) (fun a b h => g16 a b (by omega)) (fun a b h => g16 a b (by omega))
      refine T_leq (fun x30 e31 => ?_)
      first | (have w32 := z_wx e31 (by omega)) | (have w32 := z_wr e31)
      exact ih s13 x30 c14 f15 (by omega) r27 (by first | exact r28 | exact y_K.b0 (by omega) | exact y_K.k0 (by omega) | exact y_K.bk (by omega)) (by first | exact r29 | exact y_KM.z (by omega)) (by omega)
theorem sj_X12_cut_309K_J369 {fu : Nat} (hfu : 8589934592 ≤ fu) (r0 s : z_M) (c : z_CI s) (f : z_Fr R_X12_cut_309 r0 s) (a3 : Int) (a4 : Int) (a5 : Int) (a6 : Int) (a7 : Int) (a8 : Int) (a9 : Int) (b3 : -2147483648 ≤ a3 ∧ a3 ≤ 2147483647) (b4 : -2147483648 ≤ a4 ∧ a4 ≤ 2147483647) (b5 : 0 ≤ a5 ∧ a5 ≤ 200) (b6 : 0 ≤ a6 ∧ a6 ≤ 200) (b7 : (-1) ≤ a7 ∧ a7 ≤ 199) (b8 : -2147483648 ≤ a8 ∧ a8 ≤ 2147483647) (b9 : 0 ≤ a9 ∧ a9 ≤ 199) (p0 : a6 ≤ a5) (p1 : a5 ≤ a9 + 1) (p2 : (a6 = 0 ∧ a7 = -1 ∧ a8 = -1) ∨ (0 ≤ a7 ∧ a7 ≤ a6 - 1)) (p3 : y_D s a5) (p4 : y_TA s) (p5 : y_K s) (p6 : a9 < s 316 0) (p7 : y_KM s) (M : Int) (pm : 2147483647 - a9 ≤ M) {r : z_M → Int → Int → Int → Int → Int → z_O} {k : z_M → Int → Int → z_O} (hr : ∀ (s' : z_M) (v5 : Int) (v6 : Int) (v7 : Int) (v8 : Int) (v9 : Int), z_CI s' → z_Fr R_X12_cut_309 r0 s' → (0 ≤ v5 ∧ v5 ≤ 200) → (0 ≤ v6 ∧ v6 ≤ 200) → ((-1) ≤ v7 ∧ v7 ≤ 199) → (-2147483648 ≤ v8 ∧ v8 ≤ 2147483647) → (0 ≤ v9 ∧ v9 ≤ 200) → (v6 ≤ v5) → (v5 ≤ v9) → ((v6 = 0 ∧ v7 = -1 ∧ v8 = -1) ∨ (0 ≤ v7 ∧ v7 ≤ v6 - 1)) → (y_D s' v5) → (y_TA s') → (y_K s') → (v9 ≤ s' 316 0) → (y_KM s') → (2147483647 - v9 < M) → z_T (r s' v5 v6 v7 v8 v9) (P_X12_cut_309K r0)) (hk : ∀ (s' : z_M) (v5 : Int) (v6 : Int), z_CI s' → z_Fr R_X12_cut_309 r0 s' → (0 ≤ v5 ∧ v5 ≤ 200) → (0 ≤ v6 ∧ v6 ≤ 200) → (v6 ≤ v5) → (y_D s' v5) → (y_TA s') → (y_K s') → (y_KM s') → z_T (k s' v5 v6) (P_X12_cut_309K r0)) : z_T (fX12_cut_J369 fu s 309 a3 a4 a5 a6 a7 a8 a9 r k) (P_X12_cut_309K r0) := by
  refine T_of (fX12_cut_J369.eq_1 ..) ?_
  have u1 := CI_b c (k := 309) (j := 20) bd_309_20
  have u2 := CI_b c (k := 309) (j := 36) bd_309_36
  have u3 := CI_b c (k := 309) (j := 43) bd_309_43
  have u4 := CI_b c (k := 309) (j := 44) bd_309_44
  have u5 := CI_b c (k := 309) (j := 58) bd_309_58
  have u6 := CI_b c (k := 316) (j := 0) bd_316_0
  have u7 := CI_b c (k := 329) (j := 0) bd_329_0
  have u8 := CI_b c (k := 329) (j := 1) bd_329_1
  have t9 : s 309 43 = r0 309 43 := f 309 43 (by decide)
  have t10 : s 309 44 = r0 309 44 := f 309 44 (by decide)
  have t11 : s 309 58 = r0 309 58 := f 309 58 (by decide)
  refine T_leq (fun x12 e13 => ?_)
  first | (have w14 := z_wx e13 (by omega)) | (have w14 := z_wr e13)
  exact hr s a5 a6 a7 a8 x12 c f (by omega) (by omega) (by omega) (by omega) (by omega) (by omega) (by omega) (by omega) (by first | exact y_D.cg p3 (by omega) | exact y_D.z (by omega) | exact y_D.ex p3 (by omega) (by omega)) p4 (by first | exact p5 | exact y_K.b0 (by omega) | exact y_K.k0 (by omega) | exact y_K.bk (by omega)) (by omega) (by first | exact p7 | exact y_KM.z (by omega)) (by omega)
theorem sj_X12_cut_309K_J346 {fu : Nat} (hfu : 8589934592 ≤ fu) (r0 s : z_M) (c : z_CI s) (f : z_Fr R_X12_cut_309 r0 s) (a3 : Int) (a4 : Int) (a5 : Int) (a6 : Int) (a7 : Int) (a8 : Int) (a9 : Int) (t1 : Int) (t2 : Int) (b3 : -2147483648 ≤ a3 ∧ a3 ≤ 2147483647) (b4 : -2147483648 ≤ a4 ∧ a4 ≤ 2147483647) (b5 : 0 ≤ a5 ∧ a5 ≤ 199) (b6 : 0 ≤ a6 ∧ a6 ≤ 200) (b7 : (-1) ≤ a7 ∧ a7 ≤ 199) (b8 : -2147483648 ≤ a8 ∧ a8 ≤ 2147483647) (b9 : 0 ≤ a9 ∧ a9 ≤ 199) (d1 : 0 ≤ t1 ∧ t1 ≤ 199) (d2 : (-1) ≤ t2 ∧ t2 ≤ 199) (p0 : a6 ≤ a5 + 1) (p1 : a5 ≤ a9) (p2 : (a6 = 0 ∧ a7 = -1 ∧ a8 = -1) ∨ (0 ≤ a7 ∧ a7 ≤ a6 - 1)) (p3 : y_TA s) (p4 : y_K s) (p5 : a9 < s 316 0) (p6 : y_D s a5) (p7 : t1 = a5) (p8 : s 359 t1 ≠ 7 ∨ 0 ≤ t2) (p9 : y_KM s) (M : Int) (pm : 2147483647 - a9 ≤ M) {r : z_M → Int → Int → Int → Int → Int → z_O} {k : z_M → Int → Int → z_O} (hr : ∀ (s' : z_M) (v5 : Int) (v6 : Int) (v7 : Int) (v8 : Int) (v9 : Int), z_CI s' → z_Fr R_X12_cut_309 r0 s' → (0 ≤ v5 ∧ v5 ≤ 200) → (0 ≤ v6 ∧ v6 ≤ 200) → ((-1) ≤ v7 ∧ v7 ≤ 199) → (-2147483648 ≤ v8 ∧ v8 ≤ 2147483647) → (0 ≤ v9 ∧ v9 ≤ 200) → (v6 ≤ v5) → (v5 ≤ v9) → ((v6 = 0 ∧ v7 = -1 ∧ v8 = -1) ∨ (0 ≤ v7 ∧ v7 ≤ v6 - 1)) → (y_D s' v5) → (y_TA s') → (y_K s') → (v9 ≤ s' 316 0) → (y_KM s') → (2147483647 - v9 < M) → z_T (r s' v5 v6 v7 v8 v9) (P_X12_cut_309K r0)) (hk : ∀ (s' : z_M) (v5 : Int) (v6 : Int), z_CI s' → z_Fr R_X12_cut_309 r0 s' → (0 ≤ v5 ∧ v5 ≤ 200) → (0 ≤ v6 ∧ v6 ≤ 200) → (v6 ≤ v5) → (y_D s' v5) → (y_TA s') → (y_K s') → (y_KM s') → z_T (k s' v5 v6) (P_X12_cut_309K r0)) : z_T (fX12_cut_J346 fu s 309 a3 a4 a5 a6 a7 a8 a9 374 t1 t2 r k) (P_X12_cut_309K r0) := by
  refine T_of (fX12_cut_J346.eq_1 ..) ?_
  have u1 := CI_b c (k := 309) (j := 20) bd_309_20
  have u2 := CI_b c (k := 309) (j := 36) bd_309_36
  have u3 := CI_b c (k := 309) (j := 43) bd_309_43
  have u4 := CI_b c (k := 309) (j := 44) bd_309_44
  have u5 := CI_b c (k := 309) (j := 58) bd_309_58
  have u6 := CI_b c (k := 316) (j := 0) bd_316_0
  have u7 := CI_b c (k := 329) (j := 0) bd_329_0
  have u8 := CI_b c (k := 329) (j := 1) bd_329_1
  have t9 : s 309 43 = r0 309 43 := f 309 43 (by decide)
  have t10 : s 309 44 = r0 309 44 := f 309 44 (by decide)
  have t11 : s 309 58 = r0 309 58 := f 309 58 (by decide)
  refine T_if1 (z_ixl (n := 200) (by decide +kernel) (by omega) (by omega)) ?_
  refine T_upg c (bdr_374 t1) (by omega) (fun s12 c13 g15 g16 e17 => ?_)
  have f14 := z_Fr.up (R := R_X12_cut_309) f g15 (fun _ => (Or.inr (Or.inl (⟨by decide, by decide⟩))))
  have t18 : s12 309 20 = s 309 20 := g15 309 20 (by decide)
  have t19 : s12 309 36 = s 309 36 := g15 309 36 (by decide)
  have t20 : s12 309 43 = s 309 43 := g15 309 43 (by decide)
  have t21 : s12 309 44 = s 309 44 := g15 309 44 (by decide)
  have t22 : s12 309 58 = s 309 58 := g15 309 58 (by decide)
  have t23 : s12 316 0 = s 316 0 := g15 316 0 (by decide)
  have t24 : s12 329 0 = s 329 0 := g15 329 0 (by decide)
  have t25 : s12 329 1 = s 329 1 := g15 329 1 (by decide)
  have r26 := y_TA.fr p3 (fun a b h => g15 a b (by omega)) (fun a b h => g15 a b (by omega)) (fun a b h => g15 a b (by omega))
  have r27 := y_K.fr p4 (by omega) (by omega) (g15 309 44 (by decide)) (g15 309 20 (by decide)) (g15 309 58 (by decide)) (fun b => g15 3438 b (by decide)) (fun b => g15 3220 b (by decide)) (fun a b h => g15 a b (by omega))
  have r28 := y_KM.fr p9 (g15 309 20 (by decide)) (g15 309 36 (by decide)) (g15 309 38 (by decide)) (g15 309 39 (by decide)) (fun b => g15 312 b (by decide)) (fun b => g15 331 b (by decide)) (fun b => g15 346 b (by decide)) (fun b => g15 361 b (by decide)) (fun b => g15 391 b (by decide)) (fun a b h => g15 a b (by omega)) (fun a b h => g15 a b (by omega)) (fun a b h => g15 a b (by omega))
  have n29 := g15 359 t1 (by decide)
  have r30 : y_D s12 t1 := y_D.cg (y_D.st p6 (fun b h => g15 359 b (by decide)) (fun b h => g16 b (by omega))) (by omega)
  have r31 : y_D s12 (t1 + 1) := y_D.ex r30 (by omega) rfl
  refine T_if1 (by decide +kernel) ?_
  refine T_let 375 (by decide +kernel) ?_
  refine T_if1 (z_ixl (n := 14) (by decide +kernel) (by omega) (by omega)) ?_
  refine T_let 389 (by decide +kernel) ?_
  refine T_if1 (by decide +kernel) ?_
  refine T_let 375 (by decide +kernel) ?_
  refine T_if1 (z_ixl (n := 14) (by decide +kernel) (by omega) (by omega)) ?_
  refine T_let 376 (by decide +kernel) ?_
  refine T_if1 (z_ixl (n := 200) (by decide +kernel) (by omega) (by omega)) ?_
  refine T_leq (fun x32 e33 => ?_)
  have u34 := CI_b c13 (k := 376) (j := a9) (bdr_376 a9)
  refine T_if1 (z_ixl (n := 200) (by decide +kernel) (by omega) (by omega)) ?_
  refine T_upg c13 (bdr_389 a5) (by omega) (fun s35 c36 g38 g39 e40 => ?_)
  have f37 := z_Fr.up (R := R_X12_cut_309) f14 g38 (fun _ => (Or.inr (Or.inl (⟨by decide, by decide⟩))))
  have t41 : s35 309 20 = s 309 20 := (g38 309 20 (by decide)).trans t18
  have t42 : s35 309 36 = s 309 36 := (g38 309 36 (by decide)).trans t19
  have t43 : s35 309 43 = s 309 43 := (g38 309 43 (by decide)).trans t20
  have t44 : s35 309 44 = s 309 44 := (g38 309 44 (by decide)).trans t21
  have t45 : s35 309 58 = s 309 58 := (g38 309 58 (by decide)).trans t22
  have t46 : s35 316 0 = s 316 0 := (g38 316 0 (by decide)).trans t23
  have t47 : s35 329 0 = s 329 0 := (g38 329 0 (by decide)).trans t24
  have t48 : s35 329 1 = s 329 1 := (g38 329 1 (by decide)).trans t25
  have r49 := y_TA.fr r26 (fun a b h => g38 a b (by omega)) (fun a b h => g38 a b (by omega)) (fun a b h => g38 a b (by omega))
  have r50 := y_K.fr r27 (by omega) (by omega) (g38 309 44 (by decide)) (g38 309 20 (by decide)) (g38 309 58 (by decide)) (fun b => g38 3438 b (by decide)) (fun b => g38 3220 b (by decide)) (fun a b h => g38 a b (by omega))
  have r51 := y_KM.fr r28 (g38 309 20 (by decide)) (g38 309 36 (by decide)) (g38 309 38 (by decide)) (g38 309 39 (by decide)) (fun b => g38 312 b (by decide)) (fun b => g38 331 b (by decide)) (fun b => g38 346 b (by decide)) (fun b => g38 361 b (by decide)) (fun b => g38 391 b (by decide)) (fun a b h => g38 a b (by omega)) (fun a b h => g38 a b (by omega)) (fun a b h => g38 a b (by omega))
  have r52 := y_D.fr r30 (fun b => g38 359 b (by decide)) (fun b => g38 374 b (by decide))
  have r53 := y_D.fr r31 (fun b => g38 359 b (by decide)) (fun b => g38 374 b (by decide))
  clear t18
  clear t19
  clear t20
  clear t21
  clear t22
  clear t23
  clear t24
  clear t25
  refine T_leq (fun x54 e55 => ?_)
  first | (have w56 := z_wx e55 (by omega)) | (have w56 := z_wr e55)
  exact sj_X12_cut_309K_J369 hfu r0 s35 c36 f37 a3 a4 x54 a6 a7 a8 a9 (by omega) (by omega) (by omega) (by omega) (by omega) (by omega) (by omega) (by omega) (by omega) (by omega) (by first | exact y_D.cg r53 (by omega) | exact y_D.cg r52 (by omega) | exact y_D.z (by omega) | exact y_D.ex r53 (by omega) (by omega) | exact y_D.ex r52 (by omega) (by omega)) r49 (by first | exact r50 | exact y_K.b0 (by omega) | exact y_K.k0 (by omega) | exact y_K.bk (by omega)) (by omega) (by first | exact r51 | exact y_KM.z (by omega)) M (by omega) (fun s' v5 v6 v7 v8 v9 c' f' w5 w6 w7 w8 w9 z0 z1 z2 z3 z4 z5 z6 z7 pg => hr s' v5 v6 v7 v8 v9 c' f' w5 w6 w7 w8 w9 z0 z1 z2 z3 z4 z5 z6 z7 (by omega)) hk
set_option maxHeartbeats 4000000 in
theorem sj_X12_cut_309K_J282 {fu : Nat} (hfu : 8589934592 ≤ fu) (r0 s : z_M) (c : z_CI s) (f : z_Fr R_X12_cut_309 r0 s) (a3 : Int) (a4 : Int) (a5 : Int) (a6 : Int) (a7 : Int) (a8 : Int) (a9 : Int) (a10 : Int) (b3 : -2147483648 ≤ a3 ∧ a3 ≤ 2147483647) (b4 : -2147483648 ≤ a4 ∧ a4 ≤ 2147483647) (b5 : 0 ≤ a5 ∧ a5 ≤ 200) (b6 : 0 ≤ a6 ∧ a6 ≤ 200) (b7 : (-1) ≤ a7 ∧ a7 ≤ 199) (b8 : -2147483648 ≤ a8 ∧ a8 ≤ 2147483647) (b9 : 0 ≤ a9 ∧ a9 ≤ 199) (b10 : (-1) ≤ a10 ∧ a10 ≤ 199) (p0 : a6 ≤ a5 + 1) (p1 : a5 ≤ a9) (p2 : (a6 = 0 ∧ a7 = -1 ∧ a8 = -1) ∨ (0 ≤ a7 ∧ a7 ≤ a6 - 1)) (p3 : y_D s a5) (p4 : y_TA s) (p5 : y_K s) (p6 : a9 < s 316 0) (p7 : y_CB s a9 a10) (p8 : y_KM s) (M : Int) (pm : 2147483647 - a9 ≤ M) {r : z_M → Int → Int → Int → Int → Int → z_O} {k : z_M → Int → Int → z_O} (hr : ∀ (s' : z_M) (v5 : Int) (v6 : Int) (v7 : Int) (v8 : Int) (v9 : Int), z_CI s' → z_Fr R_X12_cut_309 r0 s' → (0 ≤ v5 ∧ v5 ≤ 200) → (0 ≤ v6 ∧ v6 ≤ 200) → ((-1) ≤ v7 ∧ v7 ≤ 199) → (-2147483648 ≤ v8 ∧ v8 ≤ 2147483647) → (0 ≤ v9 ∧ v9 ≤ 200) → (v6 ≤ v5) → (v5 ≤ v9) → ((v6 = 0 ∧ v7 = -1 ∧ v8 = -1) ∨ (0 ≤ v7 ∧ v7 ≤ v6 - 1)) → (y_D s' v5) → (y_TA s') → (y_K s') → (v9 ≤ s' 316 0) → (y_KM s') → (2147483647 - v9 < M) → z_T (r s' v5 v6 v7 v8 v9) (P_X12_cut_309K r0)) (hk : ∀ (s' : z_M) (v5 : Int) (v6 : Int), z_CI s' → z_Fr R_X12_cut_309 r0 s' → (0 ≤ v5 ∧ v5 ≤ 200) → (0 ≤ v6 ∧ v6 ≤ 200) → (v6 ≤ v5) → (y_D s' v5) → (y_TA s') → (y_K s') → (y_KM s') → z_T (k s' v5 v6) (P_X12_cut_309K r0)) : z_T (fX12_cut_J282 fu s 309 a3 a4 a5 a6 a7 a8 a9 a10 r k) (P_X12_cut_309K r0) := by
  refine T_of (fX12_cut_J282.eq_1 ..) ?_
  have u1 := CI_b c (k := 309) (j := 20) bd_309_20
  have u2 := CI_b c (k := 309) (j := 36) bd_309_36
  have u3 := CI_b c (k := 309) (j := 43) bd_309_43
  have u4 := CI_b c (k := 309) (j := 44) bd_309_44
  have u5 := CI_b c (k := 309) (j := 58) bd_309_58
  have u6 := CI_b c (k := 316) (j := 0) bd_316_0
  have u7 := CI_b c (k := 329) (j := 0) bd_329_0
  have u8 := CI_b c (k := 329) (j := 1) bd_329_1
  have t9 : s 309 43 = r0 309 43 := f 309 43 (by decide)
  have t10 : s 309 44 = r0 309 44 := f 309 44 (by decide)
  have t11 : s 309 58 = r0 309 58 := f 309 58 (by decide)
  refine T_if1 (by decide +kernel) ?_
  refine T_let 330 (by decide +kernel) ?_
  refine T_if1 (z_ixl (n := 14) (by decide +kernel) (by omega) (by omega)) ?_
  refine T_let 344 (by decide +kernel) ?_
  refine T_if1 (by decide +kernel) ?_
  refine T_let 330 (by decide +kernel) ?_
  refine T_if1 (z_ixl (n := 14) (by decide +kernel) (by omega) (by omega)) ?_
  refine T_let 331 (by decide +kernel) ?_
  refine T_if1 (z_ixl (n := 200) (by decide +kernel) (by omega) (by omega)) ?_
  refine T_leq (fun x12 e13 => ?_)
  have u14 := CI_b c (k := 331) (j := a9) (bdr_331 a9)
  refine T_if1 (z_ixl (n := 200) (by decide +kernel) (by omega) (by omega)) ?_
  refine T_upg c (bdr_344 a5) (by omega) (fun s15 c16 g18 g19 e20 => ?_)
  have f17 := z_Fr.up (R := R_X12_cut_309) f g18 (fun _ => (Or.inr (Or.inl (⟨by decide, by decide⟩))))
  have t21 : s15 309 20 = s 309 20 := g18 309 20 (by decide)
  have t22 : s15 309 36 = s 309 36 := g18 309 36 (by decide)
  have t23 : s15 309 43 = s 309 43 := g18 309 43 (by decide)
  have t24 : s15 309 44 = s 309 44 := g18 309 44 (by decide)
  have t25 : s15 309 58 = s 309 58 := g18 309 58 (by decide)
  have t26 : s15 316 0 = s 316 0 := g18 316 0 (by decide)
  have t27 : s15 329 0 = s 329 0 := g18 329 0 (by decide)
  have t28 : s15 329 1 = s 329 1 := g18 329 1 (by decide)
  have r29 := y_D.fr p3 (fun b => g18 359 b (by decide)) (fun b => g18 374 b (by decide))
  have r30 := y_TA.fr p4 (fun a b h => g18 a b (by omega)) (fun a b h => g18 a b (by omega)) (fun a b h => g18 a b (by omega))
  have r31 := y_K.fr p5 (by omega) (by omega) (g18 309 44 (by decide)) (g18 309 20 (by decide)) (g18 309 58 (by decide)) (fun b => g18 3438 b (by decide)) (fun b => g18 3220 b (by decide)) (fun a b h => g18 a b (by omega))
  have r32 := y_CB.fr p7 (fun b => g18 346 b (by decide)) (fun b => g18 7657 b (by decide))
  have r33 := y_KM.fr p8 (g18 309 20 (by decide)) (g18 309 36 (by decide)) (g18 309 38 (by decide)) (g18 309 39 (by decide)) (fun b => g18 312 b (by decide)) (fun b => g18 331 b (by decide)) (fun b => g18 346 b (by decide)) (fun b => g18 361 b (by decide)) (fun b => g18 391 b (by decide)) (fun a b h => g18 a b (by omega)) (fun a b h => g18 a b (by omega)) (fun a b h => g18 a b (by omega))
  refine T_if1 (by decide +kernel) ?_
  refine T_let 345 (by decide +kernel) ?_
  refine T_if1 (z_ixl (n := 14) (by decide +kernel) (by omega) (by omega)) ?_
  refine T_let 359 (by decide +kernel) ?_
  refine T_if1 (by decide +kernel) ?_
  refine T_let 345 (by decide +kernel) ?_
  refine T_if1 (z_ixl (n := 14) (by decide +kernel) (by omega) (by omega)) ?_
  refine T_let 346 (by decide +kernel) ?_
  refine T_if1 (z_ixl (n := 200) (by decide +kernel) (by omega) (by omega)) ?_
  refine T_leq (fun x34 e35 => ?_)
  have u36 := CI_b c16 (k := 346) (j := a9) (bdr_346 a9)
  refine T_if1 (z_ixl (n := 200) (by decide +kernel) (by omega) (by omega)) ?_
  refine T_upg c16 (bdr_359 a5) (by omega) (fun s37 c38 g40 g41 e42 => ?_)
  have f39 := z_Fr.up (R := R_X12_cut_309) f17 g40 (fun _ => (Or.inr (Or.inl (⟨by decide, by decide⟩))))
  have t43 : s37 309 20 = s 309 20 := (g40 309 20 (by decide)).trans t21
  have t44 : s37 309 36 = s 309 36 := (g40 309 36 (by decide)).trans t22
  have t45 : s37 309 43 = s 309 43 := (g40 309 43 (by decide)).trans t23
  have t46 : s37 309 44 = s 309 44 := (g40 309 44 (by decide)).trans t24
  have t47 : s37 309 58 = s 309 58 := (g40 309 58 (by decide)).trans t25
  have t48 : s37 316 0 = s 316 0 := (g40 316 0 (by decide)).trans t26
  have t49 : s37 329 0 = s 329 0 := (g40 329 0 (by decide)).trans t27
  have t50 : s37 329 1 = s 329 1 := (g40 329 1 (by decide)).trans t28
  have r51 := y_TA.fr r30 (fun a b h => g40 a b (by omega)) (fun a b h => g40 a b (by omega)) (fun a b h => g40 a b (by omega))
  have r52 := y_K.fr r31 (by omega) (by omega) (g40 309 44 (by decide)) (g40 309 20 (by decide)) (g40 309 58 (by decide)) (fun b => g40 3438 b (by decide)) (fun b => g40 3220 b (by decide)) (fun a b h => g40 a b (by omega))
  have r53 := y_CB.fr r32 (fun b => g40 346 b (by decide)) (fun b => g40 7657 b (by decide))
  have r54 := y_KM.fr r33 (g40 309 20 (by decide)) (g40 309 36 (by decide)) (g40 309 38 (by decide)) (g40 309 39 (by decide)) (fun b => g40 312 b (by decide)) (fun b => g40 331 b (by decide)) (fun b => g40 346 b (by decide)) (fun b => g40 361 b (by decide)) (fun b => g40 391 b (by decide)) (fun a b h => g40 a b (by omega)) (fun a b h => g40 a b (by omega)) (fun a b h => g40 a b (by omega))
  have t55 : s37 346 a9 = x34 := by first | exact (g40 346 a9 (by omega)).trans e35 | exact (g41 a9 (by omega)).trans e35
  have r56 := y_D.st r29 (fun b h => g41 b (by omega)) (fun b h => g40 374 b (by decide))
  clear t21
  clear t22
  clear t23
  clear t24
  clear t25
  clear t26
  clear t27
  clear t28
  refine T_if1 (by decide +kernel) ?_
  refine T_let 360 (by decide +kernel) ?_
  refine T_if1 (z_ixl (n := 14) (by decide +kernel) (by omega) (by omega)) ?_
  refine T_let 374 (by decide +kernel) ?_
  have n57 := y_CB.to r53
  refine T_ite (fun h58 => ?_) (fun h58 => ?_)
  · refine T_if1 (by decide +kernel) ?_
    refine T_let 7657 (by decide +kernel) ?_
    refine T_if1 (z_ixl (n := 200) (by decide +kernel) (by omega) (by omega)) ?_
    refine T_leq (fun x59 e60 => ?_)
    have u61 := CI_b c38 (k := 7657) (j := a10) (bdr_7657 a10)
    exact sj_X12_cut_309K_J346 hfu r0 s37 c38 f39 a3 a4 a5 a6 a7 a8 a9 a5 x59 (by omega) (by omega) (by omega) (by omega) (by omega) (by omega) (by omega) (by omega) (by omega) (by omega) (by omega) (by omega) r51 (by first | exact r52 | exact y_K.b0 (by omega) | exact y_K.k0 (by omega) | exact y_K.bk (by omega)) (by omega) (by first | exact y_D.cg r56 (by omega) | exact y_D.z (by omega) | exact y_D.ex r56 (by omega) (by omega)) (by omega) (by omega) (by first | exact r54 | exact y_KM.z (by omega)) M (by omega) (fun s' v5 v6 v7 v8 v9 c' f' w5 w6 w7 w8 w9 z0 z1 z2 z3 z4 z5 z6 z7 pg => hr s' v5 v6 v7 v8 v9 c' f' w5 w6 w7 w8 w9 z0 z1 z2 z3 z4 z5 z6 z7 (by omega)) hk
  · exact sj_X12_cut_309K_J346 hfu r0 s37 c38 f39 a3 a4 a5 a6 a7 a8 a9 a5 (-1) (by omega) (by omega) (by omega) (by omega) (by omega) (by omega) (by omega) (by omega) (by omega) (by omega) (by omega) (by omega) r51 (by first | exact r52 | exact y_K.b0 (by omega) | exact y_K.k0 (by omega) | exact y_K.bk (by omega)) (by omega) (by first | exact y_D.cg r56 (by omega) | exact y_D.z (by omega) | exact y_D.ex r56 (by omega) (by omega)) (by omega) (by omega) (by first | exact r54 | exact y_KM.z (by omega)) M (by omega) (fun s' v5 v6 v7 v8 v9 c' f' w5 w6 w7 w8 w9 z0 z1 z2 z3 z4 z5 z6 z7 pg => hr s' v5 v6 v7 v8 v9 c' f' w5 w6 w7 w8 w9 z0 z1 z2 z3 z4 z5 z6 z7 (by omega)) hk
theorem sl_X12_cut_309K_L241 {fu : Nat} (hfu : 8589934592 ≤ fu) (r0 : z_M) (a3 : Int) (a4 : Int) (a5 : Int) (a6 : Int) (a7 : Int) (a8 : Int) (a9 : Int) (a10 : Int) (b3 : -2147483648 ≤ a3 ∧ a3 ≤ 2147483647) (b4 : -2147483648 ≤ a4 ∧ a4 ≤ 2147483647) (b5 : 0 ≤ a5 ∧ a5 ≤ 200) (b6 : 0 ≤ a6 ∧ a6 ≤ 199) (b7 : (-1) ≤ a7 ∧ a7 ≤ 199) (b8 : -2147483648 ≤ a8 ∧ a8 ≤ 2147483647) (b9 : 0 ≤ a9 ∧ a9 ≤ 199) (b10 : 0 ≤ a10 ∧ a10 ≤ 199) {k : z_M → z_O} (hk : ∀ (s' : z_M), z_CI s' → z_Fr R_X12_cut_309 r0 s' → (y_D s' a5) → (y_CB s' a9 a10) → (a9 < s' 316 0) → (y_TA s') → (y_K s') → (y_KM s') → z_T (k s') (P_X12_cut_309K r0)) : ∀ (F : Nat) (s : z_M) (a11 : Int), z_CI s → z_Fr R_X12_cut_309 r0 s → (0 ≤ a11 ∧ a11 ≤ 20) → (y_D s a5) → (y_CB s a9 a10) → (a9 < s 316 0) → (y_TA s) → (y_K s) → (y_KM s) → (2147483647 - a11 < (F : Int)) → z_T (fX12_cut_L241 fu 309 a3 a4 a5 a6 a7 a8 a9 a10 F s a11 k) (P_X12_cut_309K r0) := by
  intro F
  induction F with
  | zero =>
    intro s a11 c f b11 i0 i1 i2 i3 i4 i5 hm
    have u38 := CI_b c (k := 309) (j := 20) bd_309_20
    have u39 := CI_b c (k := 309) (j := 36) bd_309_36
    have u40 := CI_b c (k := 309) (j := 43) bd_309_43
    have u41 := CI_b c (k := 309) (j := 44) bd_309_44
    have u42 := CI_b c (k := 309) (j := 58) bd_309_58
    have u43 := CI_b c (k := 316) (j := 0) bd_316_0
    have u44 := CI_b c (k := 329) (j := 0) bd_329_0
    have u45 := CI_b c (k := 329) (j := 1) bd_329_1
    exfalso; omega
  | succ F ih =>
    intro s a11 c f b11 i0 i1 i2 i3 i4 i5 hm
    refine T_of (fX12_cut_L241.eq_2 ..) ?_
    have u1 := CI_b c (k := 309) (j := 20) bd_309_20
    have u2 := CI_b c (k := 309) (j := 36) bd_309_36
    have u3 := CI_b c (k := 309) (j := 43) bd_309_43
    have u4 := CI_b c (k := 309) (j := 44) bd_309_44
    have u5 := CI_b c (k := 309) (j := 58) bd_309_58
    have u6 := CI_b c (k := 316) (j := 0) bd_316_0
    have u7 := CI_b c (k := 329) (j := 0) bd_329_0
    have u8 := CI_b c (k := 329) (j := 1) bd_329_1
    have t9 : s 309 43 = r0 309 43 := f 309 43 (by decide)
    have t10 : s 309 44 = r0 309 44 := f 309 44 (by decide)
    have t11 : s 309 58 = r0 309 58 := f 309 58 (by decide)
    refine T_ite (fun h12 => ?_) (fun h12 => ?_)
    · exact hk s c f (by first | exact y_D.cg i0 (by omega) | exact y_D.z (by omega) | exact y_D.ex i0 (by omega) (by omega)) (by first | exact y_CB.cg i1 (by omega) (by omega) | exact y_CB.a (by omega) (by omega) | exact y_CB.b (by omega) (by assumption) (by omega)) (by omega) i3 (by first | exact i4 | exact y_K.b0 (by omega) | exact y_K.k0 (by omega) | exact y_K.bk (by omega)) (by first | exact i5 | exact y_KM.z (by omega))
    · refine T_if1 (by decide +kernel) ?_
      refine T_let 405 (by decide +kernel) ?_
      refine T_if1 (z_ixl (n := 14) (by decide +kernel) (by omega) (by omega)) ?_
      refine T_let 3019 (by decide +kernel) ?_
      refine T_if1 (z_ixl (n := 200) (by decide +kernel) (by omega) (by omega)) ?_
      refine T_let (3020 + a6) (gr_3019 a6) ?_
      refine T_if1 (by decide +kernel) ?_
      refine T_let 405 (by decide +kernel) ?_
      refine T_if1 (z_ixl (n := 14) (by decide +kernel) (by omega) (by omega)) ?_
      refine T_let 406 (by decide +kernel) ?_
      refine T_if1 (z_ixl (n := 200) (by decide +kernel) (by omega) (by omega)) ?_
      refine T_let (407 + a10) (gr_406 a10) ?_
      refine T_if1 (z_ixs (sh_L0 (by omega)) (by omega) (by omega) (by omega)) ?_
      refine T_leq (fun x13 e14 => ?_)
      have u15 := CI_w c (k := (407 + a10)) (j := a11) (by rw [sh_L0 (by omega)]; decide)
      refine T_if1 (z_ixs (sh_L13 (by omega)) (by omega) (by omega) (by omega)) ?_
      refine T_upg c (z_bdLe (c2 := 407 + a10) (by omega) (by omega)) (by rw [← (by assumption : s (407 + a10) a11 = x13)]; exact c _ _) (fun s16 c17 g19 g20 e21 => ?_)
      have f18 := z_Fr.up (R := R_X12_cut_309) f g19 (fun b => by unfold R_X12_cut_309; omega)
      have t22 : s16 309 20 = s 309 20 := g19 309 20 (by omega)
      have t23 : s16 309 36 = s 309 36 := g19 309 36 (by omega)
      have t24 : s16 309 43 = s 309 43 := g19 309 43 (by omega)
      have t25 : s16 309 44 = s 309 44 := g19 309 44 (by omega)
      have t26 : s16 309 58 = s 309 58 := g19 309 58 (by omega)
      have t27 : s16 316 0 = s 316 0 := g19 316 0 (by omega)
      have t28 : s16 329 0 = s 329 0 := g19 329 0 (by omega)
      have t29 : s16 329 1 = s 329 1 := g19 329 1 (by omega)
      have r30 := y_D.fr i0 (fun b => g19 359 b (by omega)) (fun b => g19 374 b (by omega))
      have r31 := y_CB.fr i1 (fun b => g19 346 b (by omega)) (fun b => g19 7657 b (by omega))
      have r32 := y_TA.fr i3 (fun a b h => g19 a b (by omega)) (fun a b h => g19 a b (by omega)) (fun a b h => g19 a b (by omega))
      have r33 := y_K.fr i4 (by omega) (by omega) (g19 309 44 (by omega)) (g19 309 20 (by omega)) (g19 309 58 (by omega)) (fun b => g19 3438 b (by omega)) (fun b => g19 3220 b (by omega)) (fun a b h => g19 a b (by omega))
      have r34 := y_KM.fr i5 (g19 309 20 (by omega)) (g19 309 36 (by omega)) (g19 309 38 (by omega)) (g19 309 39 (by omega)) (fun b => g19 312 b (by omega)) (fun b => g19 331 b (by omega)) (fun b => g19 346 b (by omega)) (fun b => g19 361 b (by omega)) (fun b => g19 391 b (by omega)) (fun a b h => g19 a b (by omega)) (fun a b h => g19 a b (by omega)) (fun a b h => g19 a b (by omega))
      refine T_leq (fun x35 e36 => ?_)
      first | (have w37 := z_wx e36 (by omega)) | (have w37 := z_wr e36)
      exact ih s16 x35 c17 f18 (by omega) (by first | exact y_D.cg r30 (by omega) | exact y_D.z (by omega) | exact y_D.ex r30 (by omega) (by omega)) (by first | exact y_CB.cg r31 (by omega) (by omega) | exact y_CB.a (by omega) (by omega) | exact y_CB.b (by omega) (by assumption) (by omega)) (by omega) r32 (by first | exact r33 | exact y_K.b0 (by omega) | exact y_K.k0 (by omega) | exact y_K.bk (by omega)) (by first | exact r34 | exact y_KM.z (by omega)) (by omega)
theorem sj_X12_cut_309K_J212 {fu : Nat} (hfu : 8589934592 ≤ fu) (r0 s : z_M) (c : z_CI s) (f : z_Fr R_X12_cut_309 r0 s) (a3 : Int) (a4 : Int) (a5 : Int) (a6 : Int) (a9 : Int) (a10 : Int) (t0 : Int) (t1 : Int) (b3 : -2147483648 ≤ a3 ∧ a3 ≤ 2147483647) (b4 : -2147483648 ≤ a4 ∧ a4 ≤ 2147483647) (b5 : 0 ≤ a5 ∧ a5 ≤ 200) (b6 : 0 ≤ a6 ∧ a6 ≤ 199) (b9 : 0 ≤ a9 ∧ a9 ≤ 199) (b10 : 0 ≤ a10 ∧ a10 ≤ 199) (d0 : (-1) ≤ t0 ∧ t0 ≤ 199) (d1 : 0 ≤ t1 ∧ t1 ≤ 1) (p0 : a6 ≤ a5) (p1 : a5 ≤ a9) (p2 : y_D s a5) (p3 : a9 < s 316 0) (p4 : (a6 = 0 ∧ t0 = -1 ∧ t1 = 1) ∨ (0 ≤ t0 ∧ t0 ≤ a6 - 1)) (p5 : y_CB s a9 a10) (p6 : y_TA s) (p7 : y_K s) (p8 : y_KM s) (M : Int) (pm : 2147483647 - a9 ≤ M) {r : z_M → Int → Int → Int → Int → Int → z_O} {k : z_M → Int → Int → z_O} (hr : ∀ (s' : z_M) (v5 : Int) (v6 : Int) (v7 : Int) (v8 : Int) (v9 : Int), z_CI s' → z_Fr R_X12_cut_309 r0 s' → (0 ≤ v5 ∧ v5 ≤ 200) → (0 ≤ v6 ∧ v6 ≤ 200) → ((-1) ≤ v7 ∧ v7 ≤ 199) → (-2147483648 ≤ v8 ∧ v8 ≤ 2147483647) → (0 ≤ v9 ∧ v9 ≤ 200) → (v6 ≤ v5) → (v5 ≤ v9) → ((v6 = 0 ∧ v7 = -1 ∧ v8 = -1) ∨ (0 ≤ v7 ∧ v7 ≤ v6 - 1)) → (y_D s' v5) → (y_TA s') → (y_K s') → (v9 ≤ s' 316 0) → (y_KM s') → (2147483647 - v9 < M) → z_T (r s' v5 v6 v7 v8 v9) (P_X12_cut_309K r0)) (hk : ∀ (s' : z_M) (v5 : Int) (v6 : Int), z_CI s' → z_Fr R_X12_cut_309 r0 s' → (0 ≤ v5 ∧ v5 ≤ 200) → (0 ≤ v6 ∧ v6 ≤ 200) → (v6 ≤ v5) → (y_D s' v5) → (y_TA s') → (y_K s') → (y_KM s') → z_T (k s' v5 v6) (P_X12_cut_309K r0)) : z_T (fX12_cut_J212 fu s 309 a3 a4 a5 a6 a9 a10 t0 t1 r k) (P_X12_cut_309K r0) := by
  refine T_of (fX12_cut_J212.eq_1 ..) ?_
  have u1 := CI_b c (k := 309) (j := 20) bd_309_20
  have u2 := CI_b c (k := 309) (j := 36) bd_309_36
  have u3 := CI_b c (k := 309) (j := 43) bd_309_43
  have u4 := CI_b c (k := 309) (j := 44) bd_309_44
  have u5 := CI_b c (k := 309) (j := 58) bd_309_58
  have u6 := CI_b c (k := 316) (j := 0) bd_316_0
  have u7 := CI_b c (k := 329) (j := 0) bd_329_0
  have u8 := CI_b c (k := 329) (j := 1) bd_329_1
  have t9 : s 309 43 = r0 309 43 := f 309 43 (by decide)
  have t10 : s 309 44 = r0 309 44 := f 309 44 (by decide)
  have t11 : s 309 58 = r0 309 58 := f 309 58 (by decide)
  refine T_leq (fun x12 e13 => ?_)
  first | (have w14 := z_wx e13 (by omega)) | (have w14 := z_wr e13)
  refine T_if1 (by decide +kernel) ?_
  refine T_let 390 (by decide +kernel) ?_
  refine T_if1 (z_ixl (n := 14) (by decide +kernel) (by omega) (by omega)) ?_
  refine T_let 391 (by decide +kernel) ?_
  refine T_if1 (z_ixl (n := 200) (by decide +kernel) (by omega) (by omega)) ?_
  refine T_leq (fun x15 e16 => ?_)
  have u17 := CI_b c (k := 391) (j := a10) (bdg (c := 391) (by omega) (by omega))
  refine T_if1 (by decide +kernel) ?_
  refine T_let 390 (by decide +kernel) ?_
  refine T_if1 (z_ixl (n := 14) (by decide +kernel) (by omega) (by omega)) ?_
  refine T_let 404 (by decide +kernel) ?_
  refine T_if1 (z_ixl (n := 200) (by decide +kernel) (by omega) (by omega)) ?_
  refine T_upg c (bdg (c := 404) (by omega) (by omega)) (by omega) (fun s18 c19 g21 g22 e23 => ?_)
  have f20 := z_Fr.up (R := R_X12_cut_309) f g21 (fun _ => (Or.inr (Or.inl (⟨by decide, by decide⟩))))
  have t24 : s18 309 20 = s 309 20 := g21 309 20 (by decide)
  have t25 : s18 309 36 = s 309 36 := g21 309 36 (by decide)
  have t26 : s18 309 43 = s 309 43 := g21 309 43 (by decide)
  have t27 : s18 309 44 = s 309 44 := g21 309 44 (by decide)
  have t28 : s18 309 58 = s 309 58 := g21 309 58 (by decide)
  have t29 : s18 316 0 = s 316 0 := g21 316 0 (by decide)
  have t30 : s18 329 0 = s 329 0 := g21 329 0 (by decide)
  have t31 : s18 329 1 = s 329 1 := g21 329 1 (by decide)
  have r32 := y_D.fr p2 (fun b => g21 359 b (by decide)) (fun b => g21 374 b (by decide))
  have r33 := y_CB.fr p5 (fun b => g21 346 b (by decide)) (fun b => g21 7657 b (by decide))
  have r34 := y_TA.fr p6 (fun a b h => g21 a b (by omega)) (fun a b h => g21 a b (by omega)) (fun a b h => g21 a b (by omega))
  have r35 := y_K.fr p7 (by omega) (by omega) (g21 309 44 (by decide)) (g21 309 20 (by decide)) (g21 309 58 (by decide)) (fun b => g21 3438 b (by decide)) (fun b => g21 3220 b (by decide)) (fun a b h => g21 a b (by omega))
  have r36 := y_KM.fr p8 (g21 309 20 (by decide)) (g21 309 36 (by decide)) (g21 309 38 (by decide)) (g21 309 39 (by decide)) (fun b => g21 312 b (by decide)) (fun b => g21 331 b (by decide)) (fun b => g21 346 b (by decide)) (fun b => g21 361 b (by decide)) (fun b => g21 391 b (by decide)) (fun a b h => g21 a b (by omega)) (fun a b h => g21 a b (by omega)) (fun a b h => g21 a b (by omega))
  refine sl_X12_cut_309K_L241 hfu r0 a3 a4 a5 a6 x12 x15 a9 a10 (by omega) (by omega) (by omega) (by omega) (by omega) (by omega) (by omega) (by omega) (fun s37 c38 f39 g40 g41 g42 g43 g44 g45 => ?_) fu s18 0 c19 f20 (by omega) (by first | exact y_D.cg r32 (by omega) | exact y_D.z (by omega) | exact y_D.ex r32 (by omega) (by omega)) (by first | exact y_CB.cg r33 (by omega) (by omega) | exact y_CB.a (by omega) (by omega) | exact y_CB.b (by omega) (by assumption) (by omega)) (by omega) r34 (by first | exact r35 | exact y_K.b0 (by omega) | exact y_K.k0 (by omega) | exact y_K.bk (by omega)) (by first | exact r36 | exact y_KM.z (by omega)) (by omega)
  have u46 := CI_b c38 (k := 309) (j := 20) bd_309_20
  have u47 := CI_b c38 (k := 309) (j := 36) bd_309_36
  have u48 := CI_b c38 (k := 309) (j := 43) bd_309_43
  have u49 := CI_b c38 (k := 309) (j := 44) bd_309_44
  have u50 := CI_b c38 (k := 309) (j := 58) bd_309_58
  have u51 := CI_b c38 (k := 316) (j := 0) bd_316_0
  have u52 := CI_b c38 (k := 329) (j := 0) bd_329_0
  have u53 := CI_b c38 (k := 329) (j := 1) bd_329_1
  have t54 : s37 309 43 = r0 309 43 := f39 309 43 (by decide)
  have t55 : s37 309 44 = r0 309 44 := f39 309 44 (by decide)
  have t56 : s37 309 58 = r0 309 58 := f39 309 58 (by decide)
  refine T_leq (fun x57 e58 => ?_)
  first | (have w59 := z_wx e58 (by omega)) | (have w59 := z_wr e58)
  exact sj_X12_cut_309K_J282 hfu r0 s37 c38 f39 a3 a4 a5 x57 x12 x15 a9 a10 (by omega) (by omega) (by omega) (by omega) (by omega) (by omega) (by omega) (by omega) (by omega) (by omega) (by omega) (by first | exact y_D.cg g40 (by omega) | exact y_D.z (by omega) | exact y_D.ex g40 (by omega) (by omega)) g43 (by first | exact g44 | exact y_K.b0 (by omega) | exact y_K.k0 (by omega) | exact y_K.bk (by omega)) (by omega) (by first | exact y_CB.cg g41 (by omega) (by omega) | exact y_CB.a (by omega) (by omega) | exact y_CB.b (by omega) (by assumption) (by omega)) (by first | exact g45 | exact y_KM.z (by omega)) M (by omega) (fun s' v5 v6 v7 v8 v9 c' f' w5 w6 w7 w8 w9 z0 z1 z2 z3 z4 z5 z6 z7 pg => hr s' v5 v6 v7 v8 v9 c' f' w5 w6 w7 w8 w9 z0 z1 z2 z3 z4 z5 z6 z7 (by omega)) hk
set_option maxHeartbeats 4000000 in
theorem sj_X12_cut_309K_J154 {fu : Nat} (hfu : 8589934592 ≤ fu) (r0 s : z_M) (c : z_CI s) (f : z_Fr R_X12_cut_309 r0 s) (a3 : Int) (a4 : Int) (a5 : Int) (a6 : Int) (a7 : Int) (a8 : Int) (a9 : Int) (b3 : -2147483648 ≤ a3 ∧ a3 ≤ 2147483647) (b4 : -2147483648 ≤ a4 ∧ a4 ≤ 2147483647) (b5 : 0 ≤ a5 ∧ a5 ≤ 200) (b6 : 0 ≤ a6 ∧ a6 ≤ 200) (b7 : (-1) ≤ a7 ∧ a7 ≤ 199) (b8 : -2147483648 ≤ a8 ∧ a8 ≤ 2147483647) (b9 : 0 ≤ a9 ∧ a9 ≤ 199) (p0 : a6 ≤ a5) (p1 : a5 ≤ a9) (p2 : (a6 = 0 ∧ a7 = -1 ∧ a8 = -1) ∨ (0 ≤ a7 ∧ a7 ≤ a6 - 1)) (p3 : y_D s a5) (p4 : y_TA s) (p5 : y_K s) (p6 : a9 < s 316 0) (p7 : y_KM s) (M : Int) (pm : 2147483647 - a9 ≤ M) {r : z_M → Int → Int → Int → Int → Int → z_O} {k : z_M → Int → Int → z_O} (hr : ∀ (s' : z_M) (v5 : Int) (v6 : Int) (v7 : Int) (v8 : Int) (v9 : Int), z_CI s' → z_Fr R_X12_cut_309 r0 s' → (0 ≤ v5 ∧ v5 ≤ 200) → (0 ≤ v6 ∧ v6 ≤ 200) → ((-1) ≤ v7 ∧ v7 ≤ 199) → (-2147483648 ≤ v8 ∧ v8 ≤ 2147483647) → (0 ≤ v9 ∧ v9 ≤ 200) → (v6 ≤ v5) → (v5 ≤ v9) → ((v6 = 0 ∧ v7 = -1 ∧ v8 = -1) ∨ (0 ≤ v7 ∧ v7 ≤ v6 - 1)) → (y_D s' v5) → (y_TA s') → (y_K s') → (v9 ≤ s' 316 0) → (y_KM s') → (2147483647 - v9 < M) → z_T (r s' v5 v6 v7 v8 v9) (P_X12_cut_309K r0)) (hk : ∀ (s' : z_M) (v5 : Int) (v6 : Int), z_CI s' → z_Fr R_X12_cut_309 r0 s' → (0 ≤ v5 ∧ v5 ≤ 200) → (0 ≤ v6 ∧ v6 ≤ 200) → (v6 ≤ v5) → (y_D s' v5) → (y_TA s') → (y_K s') → (y_KM s') → z_T (k s' v5 v6) (P_X12_cut_309K r0)) : z_T (fX12_cut_J154 fu s 309 a3 a4 a5 a6 a7 a8 a9 r k) (P_X12_cut_309K r0) := by
  refine T_of (fX12_cut_J154.eq_1 ..) ?_
  have u1 := CI_b c (k := 309) (j := 20) bd_309_20
  have u2 := CI_b c (k := 309) (j := 36) bd_309_36
  have u3 := CI_b c (k := 309) (j := 43) bd_309_43
  have u4 := CI_b c (k := 309) (j := 44) bd_309_44
  have u5 := CI_b c (k := 309) (j := 58) bd_309_58
  have u6 := CI_b c (k := 316) (j := 0) bd_316_0
  have u7 := CI_b c (k := 329) (j := 0) bd_329_0
  have u8 := CI_b c (k := 329) (j := 1) bd_329_1
  have t9 : s 309 43 = r0 309 43 := f 309 43 (by decide)
  have t10 : s 309 44 = r0 309 44 := f 309 44 (by decide)
  have t11 : s 309 58 = r0 309 58 := f 309 58 (by decide)
  refine T_if1 (by decide +kernel) ?_
  refine T_let 360 (by decide +kernel) ?_
  refine T_if1 (z_ixl (n := 14) (by decide +kernel) (by omega) (by omega)) ?_
  refine T_let 361 (by decide +kernel) ?_
  refine T_if1 (z_ixl (n := 200) (by decide +kernel) (by omega) (by omega)) ?_
  refine T_leq (fun x12 e13 => ?_)
  have u14 := CI_b c (k := 361) (j := a9) (bdr_361 a9)
  have n15 := y_TA.at0 p4 (i := a9) (by omega) (by omega)
  refine T_ite (fun h16 => ?_) (fun h16 => ?_)
  · exact sj_X12_cut_309K_J282 hfu r0 s c f a3 a4 a5 a6 a7 a8 a9 x12 (by omega) (by omega) (by omega) (by omega) (by omega) (by omega) (by omega) (by omega) (by omega) (by omega) (by omega) (by first | exact y_D.cg p3 (by omega) | exact y_D.z (by omega) | exact y_D.ex p3 (by omega) (by omega)) p4 (by first | exact p5 | exact y_K.b0 (by omega) | exact y_K.k0 (by omega) | exact y_K.bk (by omega)) (by omega) (by first | exact y_CB.a (by omega) (by omega) | exact y_CB.b (by omega) (by assumption) (by omega)) (by first | exact p7 | exact y_KM.z (by omega)) M (by omega) (fun s' v5 v6 v7 v8 v9 c' f' w5 w6 w7 w8 w9 z0 z1 z2 z3 z4 z5 z6 z7 pg => hr s' v5 v6 v7 v8 v9 c' f' w5 w6 w7 w8 w9 z0 z1 z2 z3 z4 z5 z6 z7 (by omega)) hk
  · refine T_if1 (by decide +kernel) ?_
    refine T_let 7657 (by decide +kernel) ?_
    refine T_if1 (z_ixl (n := 200) (by decide +kernel) (by omega) (by omega)) ?_
    refine T_leq (fun x17 e18 => ?_)
    have u19 := CI_b c (k := 7657) (j := x12) (bdr_7657 x12)
    refine T_ite (fun h20 => ?_) (fun h20 => ?_)
    · exact sj_X12_cut_309K_J282 hfu r0 s c f a3 a4 a5 a6 a7 a8 a9 x12 (by omega) (by omega) (by omega) (by omega) (by omega) (by omega) (by omega) (by omega) (by omega) (by omega) (by omega) (by first | exact y_D.cg p3 (by omega) | exact y_D.z (by omega) | exact y_D.ex p3 (by omega) (by omega)) p4 (by first | exact p5 | exact y_K.b0 (by omega) | exact y_K.k0 (by omega) | exact y_K.bk (by omega)) (by omega) (by first | exact y_CB.a (by omega) (by omega) | exact y_CB.b (by omega) (by assumption) (by omega)) (by first | exact p7 | exact y_KM.z (by omega)) M (by omega) (fun s' v5 v6 v7 v8 v9 c' f' w5 w6 w7 w8 w9 z0 z1 z2 z3 z4 z5 z6 z7 pg => hr s' v5 v6 v7 v8 v9 c' f' w5 w6 w7 w8 w9 z0 z1 z2 z3 z4 z5 z6 z7 (by omega)) hk
    · refine T_if1 (by decide +kernel) ?_
      refine T_let 7657 (by decide +kernel) ?_
      refine T_if1 (z_ixl (n := 200) (by decide +kernel) (by omega) (by omega)) ?_
      refine T_upg c (bdr_7657 x12) (by omega) (fun s21 c22 g24 g25 e26 => ?_)
      have f23 := z_Fr.up (R := R_X12_cut_309) f g24 (fun _ => (Or.inr (Or.inr (Or.inr (Or.inl (⟨by decide, by decide⟩))))))
      have t27 : s21 309 20 = s 309 20 := g24 309 20 (by decide)
      have t28 : s21 309 36 = s 309 36 := g24 309 36 (by decide)
      have t29 : s21 309 43 = s 309 43 := g24 309 43 (by decide)
      have t30 : s21 309 44 = s 309 44 := g24 309 44 (by decide)
      have t31 : s21 309 58 = s 309 58 := g24 309 58 (by decide)
      have t32 : s21 316 0 = s 316 0 := g24 316 0 (by decide)
      have t33 : s21 329 0 = s 329 0 := g24 329 0 (by decide)
      have t34 : s21 329 1 = s 329 1 := g24 329 1 (by decide)
      have r35 := y_D.fr p3 (fun b => g24 359 b (by decide)) (fun b => g24 374 b (by decide))
      have r36 := y_TA.fr p4 (fun a b h => g24 a b (by omega)) (fun a b h => g24 a b (by omega)) (fun a b h => g24 a b (by omega))
      have r37 := y_K.fr p5 (by omega) (by omega) (g24 309 44 (by decide)) (g24 309 20 (by decide)) (g24 309 58 (by decide)) (fun b => g24 3438 b (by decide)) (fun b => g24 3220 b (by decide)) (fun a b h => g24 a b (by omega))
      have r38 := y_KM.fr p7 (g24 309 20 (by decide)) (g24 309 36 (by decide)) (g24 309 38 (by decide)) (g24 309 39 (by decide)) (fun b => g24 312 b (by decide)) (fun b => g24 331 b (by decide)) (fun b => g24 346 b (by decide)) (fun b => g24 361 b (by decide)) (fun b => g24 391 b (by decide)) (fun a b h => g24 a b (by omega)) (fun a b h => g24 a b (by omega)) (fun a b h => g24 a b (by omega))
      have r39 : y_CB s21 a9 x12 := Or.inr ⟨by omega, by omega⟩
      refine T_if1 (by decide +kernel) ?_
      refine T_let 390 (by decide +kernel) ?_
      refine T_if1 (z_ixl (n := 14) (by decide +kernel) (by omega) (by omega)) ?_
      refine T_let 391 (by decide +kernel) ?_
      refine T_if1 (z_ixl (n := 200) (by decide +kernel) (by omega) (by omega)) ?_
      refine T_leq (fun x40 e41 => ?_)
      have u42 := CI_b c22 (k := 391) (j := x12) (bdg (c := 391) (by omega) (by omega))
      refine T_ite (fun h43 => ?_) (fun h43 => ?_)
      · exact sj_X12_cut_309K_J212 hfu r0 s21 c22 f23 a3 a4 a5 a6 a9 x12 a7 1 (by omega) (by omega) (by omega) (by omega) (by omega) (by omega) (by omega) (by omega) (by omega) (by omega) (by first | exact y_D.cg r35 (by omega) | exact y_D.z (by omega) | exact y_D.ex r35 (by omega) (by omega)) (by omega) (by omega) (by first | exact y_CB.cg r39 (by omega) (by omega) | exact y_CB.a (by omega) (by omega) | exact y_CB.b (by omega) (by assumption) (by omega)) r36 (by first | exact r37 | exact y_K.b0 (by omega) | exact y_K.k0 (by omega) | exact y_K.bk (by omega)) (by first | exact r38 | exact y_KM.z (by omega)) M (by omega) (fun s' v5 v6 v7 v8 v9 c' f' w5 w6 w7 w8 w9 z0 z1 z2 z3 z4 z5 z6 z7 pg => hr s' v5 v6 v7 v8 v9 c' f' w5 w6 w7 w8 w9 z0 z1 z2 z3 z4 z5 z6 z7 (by omega)) hk
      · exact sj_X12_cut_309K_J212 hfu r0 s21 c22 f23 a3 a4 a5 a6 a9 x12 a7 0 (by omega) (by omega) (by omega) (by omega) (by omega) (by omega) (by omega) (by omega) (by omega) (by omega) (by first | exact y_D.cg r35 (by omega) | exact y_D.z (by omega) | exact y_D.ex r35 (by omega) (by omega)) (by omega) (by omega) (by first | exact y_CB.cg r39 (by omega) (by omega) | exact y_CB.a (by omega) (by omega) | exact y_CB.b (by omega) (by assumption) (by omega)) r36 (by first | exact r37 | exact y_K.b0 (by omega) | exact y_K.k0 (by omega) | exact y_K.bk (by omega)) (by first | exact r38 | exact y_KM.z (by omega)) M (by omega) (fun s' v5 v6 v7 v8 v9 c' f' w5 w6 w7 w8 w9 z0 z1 z2 z3 z4 z5 z6 z7 pg => hr s' v5 v6 v7 v8 v9 c' f' w5 w6 w7 w8 w9 z0 z1 z2 z3 z4 z5 z6 z7 (by omega)) hk
theorem sl_X12_cut_309K_L125 {fu : Nat} (hfu : 8589934592 ≤ fu) (r0 : z_M) (a3 : Int) (a4 : Int) (b3 : -2147483648 ≤ a3 ∧ a3 ≤ 2147483647) (b4 : -2147483648 ≤ a4 ∧ a4 ≤ 2147483647) {k : z_M → Int → Int → z_O} (hk : ∀ (s' : z_M) (v5 : Int) (v6 : Int), z_CI s' → z_Fr R_X12_cut_309 r0 s' → (0 ≤ v5 ∧ v5 ≤ 200) → (0 ≤ v6 ∧ v6 ≤ 200) → (v6 ≤ v5) → (y_D s' v5) → (y_TA s') → (y_K s') → (y_KM s') → z_T (k s' v5 v6) (P_X12_cut_309K r0)) : ∀ (F : Nat) (s : z_M) (a5 : Int) (a6 : Int) (a7 : Int) (a8 : Int) (a9 : Int), z_CI s → z_Fr R_X12_cut_309 r0 s → (0 ≤ a5 ∧ a5 ≤ 200) → (0 ≤ a6 ∧ a6 ≤ 200) → ((-1) ≤ a7 ∧ a7 ≤ 199) → (-2147483648 ≤ a8 ∧ a8 ≤ 2147483647) → (0 ≤ a9 ∧ a9 ≤ 200) → (a6 ≤ a5) → (a5 ≤ a9) → ((a6 = 0 ∧ a7 = -1 ∧ a8 = -1) ∨ (0 ≤ a7 ∧ a7 ≤ a6 - 1)) → (y_D s a5) → (y_TA s) → (y_K s) → (a9 ≤ s 316 0) → (y_KM s) → (2147483647 - a9 < (F : Int)) → z_T (fX12_cut_L125 fu 309 a3 a4 F s a5 a6 a7 a8 a9 k) (P_X12_cut_309K r0) := by
  intro F
  induction F with
  | zero =>
    intro s a5 a6 a7 a8 a9 c f b5 b6 b7 b8 b9 i0 i1 i2 i3 i4 i5 i6 i7 hm
    have u18 := CI_b c (k := 309) (j := 20) bd_309_20
    have u19 := CI_b c (k := 309) (j := 36) bd_309_36
    have u20 := CI_b c (k := 309) (j := 43) bd_309_43
    have u21 := CI_b c (k := 309) (j := 44) bd_309_44
    have u22 := CI_b c (k := 309) (j := 58) bd_309_58
    have u23 := CI_b c (k := 316) (j := 0) bd_316_0
    have u24 := CI_b c (k := 329) (j := 0) bd_329_0
    have u25 := CI_b c (k := 329) (j := 1) bd_329_1
    exfalso; omega
  | succ F ih =>
    intro s a5 a6 a7 a8 a9 c f b5 b6 b7 b8 b9 i0 i1 i2 i3 i4 i5 i6 i7 hm
    refine T_of (fX12_cut_L125.eq_2 ..) ?_
    have u1 := CI_b c (k := 309) (j := 20) bd_309_20
    have u2 := CI_b c (k := 309) (j := 36) bd_309_36
    have u3 := CI_b c (k := 309) (j := 43) bd_309_43
    have u4 := CI_b c (k := 309) (j := 44) bd_309_44
    have u5 := CI_b c (k := 309) (j := 58) bd_309_58
    have u6 := CI_b c (k := 316) (j := 0) bd_316_0
    have u7 := CI_b c (k := 329) (j := 0) bd_329_0
    have u8 := CI_b c (k := 329) (j := 1) bd_329_1
    have t9 : s 309 43 = r0 309 43 := f 309 43 (by decide)
    have t10 : s 309 44 = r0 309 44 := f 309 44 (by decide)
    have t11 : s 309 58 = r0 309 58 := f 309 58 (by decide)
    refine T_if1 (by decide +kernel) ?_
    refine T_let 315 (by decide +kernel) ?_
    refine T_if1 (z_ixl (n := 14) (by decide +kernel) (by omega) (by omega)) ?_
    refine T_let 316 (by decide +kernel) ?_
    refine T_if1 (z_ixl (n := 3) (by decide +kernel) (by omega) (by omega)) ?_
    refine T_leq (fun x12 e13 => ?_)
    have u14 := CI_b c (k := 316) (j := 0) bd_316_0
    refine T_ite (fun h15 => ?_) (fun h15 => ?_)
    · exact hk s a5 a6 c f (by omega) (by omega) (by omega) (by first | exact y_D.cg i3 (by omega) | exact y_D.z (by omega) | exact y_D.ex i3 (by omega) (by omega)) i4 (by first | exact i5 | exact y_K.b0 (by omega) | exact y_K.k0 (by omega) | exact y_K.bk (by omega)) (by first | exact i7 | exact y_KM.z (by omega))
    · refine T_ite (fun h16 => ?_) (fun h16 => ?_)
      · exact sj_X12_cut_309K_J154 hfu r0 s c f a3 a4 a5 a6 a7 a8 a9 (by omega) (by omega) (by omega) (by omega) (by omega) (by omega) (by omega) (by omega) (by omega) (by omega) (by first | exact y_D.cg i3 (by omega) | exact y_D.z (by omega) | exact y_D.ex i3 (by omega) (by omega)) i4 (by first | exact i5 | exact y_K.b0 (by omega) | exact y_K.k0 (by omega) | exact y_K.bk (by omega)) (by omega) (by first | exact i7 | exact y_KM.z (by omega)) (2147483647 - a9) (by omega) (fun s' v5 v6 v7 v8 v9 c' f' w5 w6 w7 w8 w9 z0 z1 z2 z3 z4 z5 z6 z7 pg => ih s' v5 v6 v7 v8 v9 c' f' w5 w6 w7 w8 w9 z0 z1 z2 z3 z4 z5 z6 z7 (by omega)) hk
      · refine T_ite (fun h17 => ?_) (fun h17 => ?_)
        · exact sj_X12_cut_309K_J154 hfu r0 s c f a3 a4 a5 a6 a7 a8 a9 (by omega) (by omega) (by omega) (by omega) (by omega) (by omega) (by omega) (by omega) (by omega) (by omega) (by first | exact y_D.cg i3 (by omega) | exact y_D.z (by omega) | exact y_D.ex i3 (by omega) (by omega)) i4 (by first | exact i5 | exact y_K.b0 (by omega) | exact y_K.k0 (by omega) | exact y_K.bk (by omega)) (by omega) (by first | exact i7 | exact y_KM.z (by omega)) (2147483647 - a9) (by omega) (fun s' v5 v6 v7 v8 v9 c' f' w5 w6 w7 w8 w9 z0 z1 z2 z3 z4 z5 z6 z7 pg => ih s' v5 v6 v7 v8 v9 c' f' w5 w6 w7 w8 w9 z0 z1 z2 z3 z4 z5 z6 z7 (by omega)) hk
        · exact sj_X12_cut_309K_J369 hfu r0 s c f a3 a4 a5 a6 a7 a8 a9 (by omega) (by omega) (by omega) (by omega) (by omega) (by omega) (by omega) (by omega) (by omega) (by omega) (by first | exact y_D.cg i3 (by omega) | exact y_D.z (by omega) | exact y_D.ex i3 (by omega) (by omega)) i4 (by first | exact i5 | exact y_K.b0 (by omega) | exact y_K.k0 (by omega) | exact y_K.bk (by omega)) (by omega) (by first | exact i7 | exact y_KM.z (by omega)) (2147483647 - a9) (by omega) (fun s' v5 v6 v7 v8 v9 c' f' w5 w6 w7 w8 w9 z0 z1 z2 z3 z4 z5 z6 z7 pg => ih s' v5 v6 v7 v8 v9 c' f' w5 w6 w7 w8 w9 z0 z1 z2 z3 z4 z5 z6 z7 (by omega)) hk
set_option maxHeartbeats 4000000 in
theorem sj_X12_cut_309K_J46 {fu : Nat} (hfu : 8589934592 ≤ fu) (r0 s : z_M) (c : z_CI s) (f : z_Fr R_X12_cut_309 r0 s) (a1 : Int) (a2 : Int) (t1 : Int) (b1 : -2147483648 ≤ a1 ∧ a1 ≤ 2147483647) (b2 : -2147483648 ≤ a2 ∧ a2 ≤ 2147483647) (d1 : 0 ≤ t1 ∧ t1 ≤ 1) (p0 : y_TA s) (p1 : y_DD s) (p2 : y_B s) (p3 : y_K s) (p4 : 0 ≤ a1 ∧ a1 < s 309 20 ∧ 0 ≤ a2 ∧ a2 < s 309 20) (p5 : t1 = 1 ∨ a1 ≤ a2) (p6 : y_KM s) : z_T (fX12_cut_J46 fu s 309 a1 a2 309 t1) (P_X12_cut_309K r0) := by
  refine T_of (fX12_cut_J46.eq_1 ..) ?_
  have u1 := CI_b c (k := 309) (j := 20) bd_309_20
  have u2 := CI_b c (k := 309) (j := 36) bd_309_36
  have u3 := CI_b c (k := 309) (j := 43) bd_309_43
  have u4 := CI_b c (k := 309) (j := 44) bd_309_44
  have u5 := CI_b c (k := 309) (j := 58) bd_309_58
  have u6 := CI_b c (k := 316) (j := 0) bd_316_0
  have u7 := CI_b c (k := 329) (j := 0) bd_329_0
  have u8 := CI_b c (k := 329) (j := 1) bd_329_1
  have t9 : s 309 43 = r0 309 43 := f 309 43 (by decide)
  have t10 : s 309 44 = r0 309 44 := f 309 44 (by decide)
  have t11 : s 309 58 = r0 309 58 := f 309 58 (by decide)
  refine T_if1 (by decide +kernel) ?_
  refine T_useI (sf_X12_bad_309 hfu s c t1 2 1 (by omega) (by omega) (by omega) (by omega)) (fun v17 s12 hq => ?_)
  obtain ⟨c13, f14, o18, ⟨x16, rfl, b19, b20, o21, o22⟩⟩ := hq
  refine T_vI ?_
  have f15 := z_Fr.tr (R := R_X12_cut_309) f f14 rs_X12_bad_309__X12_cut_309
  have t23 : s12 309 20 = s 309 20 := f14 309 20 (by decide)
  have t24 : s12 309 36 = s 309 36 := f14 309 36 (by decide)
  have t25 : s12 309 43 = s 309 43 := f14 309 43 (by decide)
  have t26 : s12 309 44 = s 309 44 := f14 309 44 (by decide)
  have t27 : s12 309 58 = s 309 58 := f14 309 58 (by decide)
  have t28 : s12 316 0 = s 316 0 := f14 316 0 (by decide)
  have t29 : s12 329 0 = s 329 0 := f14 329 0 (by decide)
  have t30 : s12 329 1 = s 329 1 := f14 329 1 (by decide)
  have r31 := y_TA.fr p0 (fun a b h => f14 a b (nz_X12_bad_309__316_328 a b h)) (fun a b h => f14 a b (nz_X12_bad_309__346_358 a b h)) (fun a b h => f14 a b (nz_X12_bad_309__361_373 a b h))
  have r32 := y_DD.fr p1 (f14 329 0 (by decide)) (f14 329 1 (by decide)) (fun b => f14 359 b (nr_X12_bad_309__359 b)) (fun b => f14 374 b (nr_X12_bad_309__374 b))
  have r33 := y_B.fr p2 (f14 309 20 (by decide)) (f14 316 0 (by decide)) (fun b => f14 3220 b (nr_X12_bad_309__3220 b)) (fun b => f14 3221 b (nr_X12_bad_309__3221 b)) (fun b => f14 3222 b (nr_X12_bad_309__3222 b)) (fun b => f14 361 b (nr_X12_bad_309__361 b))
  have r34 := y_K.fr p3 (by omega) (by omega) (f14 309 44 (by decide)) (f14 309 20 (by decide)) (f14 309 58 (by decide)) (fun b => f14 3438 b (nr_X12_bad_309__3438 b)) (fun b => f14 3220 b (nr_X12_bad_309__3220 b)) (fun a b h => f14 a b (nz_X12_bad_309__3452_3651 a b h))
  have r35 := y_KM.fr p6 (f14 309 20 (by decide)) (f14 309 36 (by decide)) (f14 309 38 (by decide)) (f14 309 39 (by decide)) (fun b => f14 312 b (nr_X12_bad_309__312 b)) (fun b => f14 331 b (nr_X12_bad_309__331 b)) (fun b => f14 346 b (nr_X12_bad_309__346 b)) (fun b => f14 361 b (nr_X12_bad_309__361 b)) (fun b => f14 391 b (nr_X12_bad_309__391 b)) (fun a b h => f14 a b (nz_X12_bad_309__407_606 a b h)) (fun a b h => f14 a b (nz_X12_bad_309__3220_3223 a b h)) (fun a b h => f14 a b (nz_X12_bad_309__3235_3437 a b h))
  refine T_ite (fun h36 => ?_) (fun h36 => ?_)
  · refine T_if1 (by decide +kernel) ?_
    refine T_useN (sf_X12_copies_309K hfu s12 c13 0 13 (by omega) (by omega) (by omega) (by first | exact r35 | exact y_KM.z (by omega))) (fun v42 s37 hq => ?_)
    obtain ⟨c38, f39, o43, o44, rfl⟩ := hq
    refine T_vN ?_
    have f40 := z_Fr.tr (R := R_X12_cut_309) f15 f39 rs_X12_copies_309__X12_cut_309
    have t47 : s37 309 20 = s 309 20 := (f39 309 20 (by decide)).trans t23
    have t48 : s37 309 36 = s 309 36 := (f39 309 36 (by decide)).trans t24
    have t49 : s37 309 43 = s 309 43 := (f39 309 43 (by decide)).trans t25
    have t50 : s37 309 44 = s 309 44 := (f39 309 44 (by decide)).trans t26
    have t51 : s37 309 58 = s 309 58 := (f39 309 58 (by decide)).trans t27
    have u52 := CI_b c38 (k := 316) (j := 0) bd_316_0
    have u53 := CI_b c38 (k := 329) (j := 0) bd_329_0
    have u54 := CI_b c38 (k := 329) (j := 1) bd_329_1
    have r55 := y_K.fr r34 (by omega) (by omega) (f39 309 44 (by decide)) (f39 309 20 (by decide)) (f39 309 58 (by decide)) (fun b => f39 3438 b (nr_X12_copies_309__3438 b)) (fun b => f39 3220 b (nr_X12_copies_309__3220 b)) (fun a b h => f39 a b (nz_X12_copies_309__3452_3651 a b h))
    have r56 := y_CP.TA o43 c13 (by omega) r31
    clear t23
    clear t24
    clear t25
    clear t26
    clear t27
    refine T_if1 (by decide +kernel) ?_
    refine T_let 3221 (by decide +kernel) ?_
    refine T_if1 (z_ixl (n := 200) (by decide +kernel) (by omega) (by omega)) ?_
    refine T_leq (fun x57 e58 => ?_)
    have u59 := CI_b c38 (k := 3221) (j := a1) (bdr_3221 a1)
    refine T_if1 (by decide +kernel) ?_
    refine T_let 3221 (by decide +kernel) ?_
    refine T_if1 (z_ixl (n := 200) (by decide +kernel) (by omega) (by omega)) ?_
    refine T_leq (fun x60 e61 => ?_)
    have u62 := CI_b c38 (k := 3221) (j := a2) (bdr_3221 a2)
    refine T_if1 (by decide +kernel) ?_
    refine T_let 3222 (by decide +kernel) ?_
    refine T_if1 (z_ixl (n := 200) (by decide +kernel) (by omega) (by omega)) ?_
    refine T_leq (fun x63 e64 => ?_)
    have u65 := CI_b c38 (k := 3222) (j := a2) (bdr_3222 a2)
    refine T_leq (fun x66 e67 => ?_)
    first | (have w68 := z_wx e67 (by omega)) | (have w68 := z_wr e67)
    refine sl_X12_cut_309K_L100 hfu r0 x57 x66 0 0 (-1) (-1) (by omega) (by omega) (by omega) (by omega) (by omega) (by omega) (fun s69 c70 f71 g72 g73 g74 => ?_) fu s37 0 c38 f40 (by omega) r56 (by first | exact r55 | exact y_K.b0 (by omega) | exact y_K.k0 (by omega) | exact y_K.bk (by omega)) (by first | exact y_KM.z (by omega) | exact y_KQ.m o44 (by omega)) (by omega)
    have u75 := CI_b c70 (k := 309) (j := 20) bd_309_20
    have u76 := CI_b c70 (k := 309) (j := 36) bd_309_36
    have u77 := CI_b c70 (k := 309) (j := 43) bd_309_43
    have u78 := CI_b c70 (k := 309) (j := 44) bd_309_44
    have u79 := CI_b c70 (k := 309) (j := 58) bd_309_58
    have u80 := CI_b c70 (k := 316) (j := 0) bd_316_0
    have u81 := CI_b c70 (k := 329) (j := 0) bd_329_0
    have u82 := CI_b c70 (k := 329) (j := 1) bd_329_1
    have t83 : s69 309 43 = r0 309 43 := f71 309 43 (by decide)
    have t84 : s69 309 44 = r0 309 44 := f71 309 44 (by decide)
    have t85 : s69 309 58 = r0 309 58 := f71 309 58 (by decide)
    refine sl_X12_cut_309K_L125 hfu r0 x57 x66 (by omega) (by omega) (fun s86 y89 y90 c87 f88 b91 b92 g93 g94 g95 g96 g97 => ?_) fu s69 0 0 (-1) (-1) 0 c70 f71 (by omega) (by omega) (by omega) (by omega) (by omega) (by omega) (by omega) (by omega) (by first | exact y_D.z (by omega)) g72 (by first | exact g73 | exact y_K.b0 (by omega) | exact y_K.k0 (by omega) | exact y_K.bk (by omega)) (by omega) (by first | exact g74 | exact y_KM.z (by omega)) (by omega)
    have u98 := CI_b c87 (k := 309) (j := 20) bd_309_20
    have u99 := CI_b c87 (k := 309) (j := 36) bd_309_36
    have u100 := CI_b c87 (k := 309) (j := 43) bd_309_43
    have u101 := CI_b c87 (k := 309) (j := 44) bd_309_44
    have u102 := CI_b c87 (k := 309) (j := 58) bd_309_58
    have u103 := CI_b c87 (k := 316) (j := 0) bd_316_0
    have u104 := CI_b c87 (k := 329) (j := 0) bd_329_0
    have u105 := CI_b c87 (k := 329) (j := 1) bd_329_1
    have t106 : s86 309 43 = r0 309 43 := f88 309 43 (by decide)
    have t107 : s86 309 44 = r0 309 44 := f88 309 44 (by decide)
    have t108 : s86 309 58 = r0 309 58 := f88 309 58 (by decide)
    refine T_if1 (by decide +kernel) ?_
    refine T_let 315 (by decide +kernel) ?_
    refine T_if1 (z_ixl (n := 14) (by decide +kernel) (by omega) (by omega)) ?_
    refine T_let 329 (by decide +kernel) ?_
    refine T_if1 (z_ixl (n := 3) (by decide +kernel) (by omega) (by omega)) ?_
    refine T_upg c87 bd_329_0 (by omega) (fun s109 c110 g112 g113 e114 => ?_)
    have f111 := z_Fr.up (R := R_X12_cut_309) f88 g112 (fun _ => (Or.inr (Or.inl (⟨by decide, by decide⟩))))
    have t115 : s109 309 20 = s86 309 20 := g112 309 20 (by decide)
    have t116 : s109 309 36 = s86 309 36 := g112 309 36 (by decide)
    have t117 : s109 309 43 = s86 309 43 := g112 309 43 (by decide)
    have t118 : s109 309 44 = s86 309 44 := g112 309 44 (by decide)
    have t119 : s109 309 58 = s86 309 58 := g112 309 58 (by decide)
    have t120 : s109 316 0 = s86 316 0 := g112 316 0 (by decide)
    have t121 : s109 329 1 = s86 329 1 := g113 1 (by decide)
    have u122 := CI_b c110 (k := 329) (j := 0) bd_329_0
    have r123 := y_D.fr g94 (fun b => g112 359 b (by decide)) (fun b => g112 374 b (by decide))
    have r124 := y_TA.fr g95 (fun a b h => g112 a b (by omega)) (fun a b h => g112 a b (by omega)) (fun a b h => g112 a b (by omega))
    have r125 := y_K.fr g96 (by omega) (by omega) (g112 309 44 (by decide)) (g112 309 20 (by decide)) (g112 309 58 (by decide)) (fun b => g112 3438 b (by decide)) (fun b => g112 3220 b (by decide)) (fun a b h => g112 a b (by omega))
    have r126 := y_KM.fr g97 (g112 309 20 (by decide)) (g112 309 36 (by decide)) (g112 309 38 (by decide)) (g112 309 39 (by decide)) (fun b => g112 312 b (by decide)) (fun b => g112 331 b (by decide)) (fun b => g112 346 b (by decide)) (fun b => g112 361 b (by decide)) (fun b => g112 391 b (by decide)) (fun a b h => g112 a b (by omega)) (fun a b h => g112 a b (by omega)) (fun a b h => g112 a b (by omega))
    refine T_if1 (by decide +kernel) ?_
    refine T_let 315 (by decide +kernel) ?_
    refine T_if1 (z_ixl (n := 14) (by decide +kernel) (by omega) (by omega)) ?_
    refine T_let 329 (by decide +kernel) ?_
    refine T_if1 (z_ixl (n := 3) (by decide +kernel) (by omega) (by omega)) ?_
    refine T_upg c110 bd_329_1 (by omega) (fun s127 c128 g130 g131 e132 => ?_)
    have f129 := z_Fr.up (R := R_X12_cut_309) f111 g130 (fun _ => (Or.inr (Or.inl (⟨by decide, by decide⟩))))
    have t133 : s127 309 20 = s86 309 20 := (g130 309 20 (by decide)).trans t115
    have t134 : s127 309 36 = s86 309 36 := (g130 309 36 (by decide)).trans t116
    have t135 : s127 309 43 = s86 309 43 := (g130 309 43 (by decide)).trans t117
    have t136 : s127 309 44 = s86 309 44 := (g130 309 44 (by decide)).trans t118
    have t137 : s127 309 58 = s86 309 58 := (g130 309 58 (by decide)).trans t119
    have t138 : s127 316 0 = s86 316 0 := (g130 316 0 (by decide)).trans t120
    have t139 : s127 329 0 = s109 329 0 := g131 0 (by decide)
    have u140 := CI_b c128 (k := 329) (j := 1) bd_329_1
    have r141 := y_D.fr r123 (fun b => g130 359 b (by decide)) (fun b => g130 374 b (by decide))
    have r142 := y_TA.fr r124 (fun a b h => g130 a b (by omega)) (fun a b h => g130 a b (by omega)) (fun a b h => g130 a b (by omega))
    have r143 := y_K.fr r125 (by omega) (by omega) (g130 309 44 (by decide)) (g130 309 20 (by decide)) (g130 309 58 (by decide)) (fun b => g130 3438 b (by decide)) (fun b => g130 3220 b (by decide)) (fun a b h => g130 a b (by omega))
    have r144 := y_KM.fr r126 (g130 309 20 (by decide)) (g130 309 36 (by decide)) (g130 309 38 (by decide)) (g130 309 39 (by decide)) (fun b => g130 312 b (by decide)) (fun b => g130 331 b (by decide)) (fun b => g130 346 b (by decide)) (fun b => g130 361 b (by decide)) (fun b => g130 391 b (by decide)) (fun a b h => g130 a b (by omega)) (fun a b h => g130 a b (by omega)) (fun a b h => g130 a b (by omega))
    clear t115
    clear t116
    clear t117
    clear t118
    clear t119
    clear t120
    refine T_if1 (by decide +kernel) ?_
    refine T_useN (sf_X12_stands_309K hfu s127 c128 r142 (by first | exact ⟨by omega, y_D.cg r141 (by omega)⟩ | exact y_DD.z (by omega) (by omega)) (by first | exact r144 | exact y_KM.z (by omega))) (fun v150 s145 hq => ?_)
    obtain ⟨c146, f147, o151, o152, o153, o154, o155, rfl⟩ := hq
    refine T_vN ?_
    have f148 := z_Fr.tr (R := R_X12_cut_309) f129 f147 rs_X12_stands_309__X12_cut_309
    have t158 : s145 309 43 = s86 309 43 := (f147 309 43 (by decide)).trans t135
    have t159 : s145 309 44 = s86 309 44 := (f147 309 44 (by decide)).trans t136
    have t160 : s145 309 58 = s86 309 58 := (f147 309 58 (by decide)).trans t137
    have u161 := CI_b c146 (k := 309) (j := 20) bd_309_20
    have u162 := CI_b c146 (k := 309) (j := 36) bd_309_36
    have u163 := CI_b c146 (k := 316) (j := 0) bd_316_0
    have u164 := CI_b c146 (k := 329) (j := 0) bd_329_0
    have u165 := CI_b c146 (k := 329) (j := 1) bd_329_1
    clear t135
    clear t136
    clear t137
    refine T_if1 (by decide +kernel) ?_
    refine T_leq (fun x166 e167 => ?_)
    have u168 := CI_b c146 (k := 309) (j := 20) bd_309_20
    exact T_ret ⟨c146, f148, o151, (by first | exact o152 | exact y_DD.z (by omega) (by omega)), o153, (by first | exact y_K.b0 (by omega) | exact y_K.k0 (by omega) | exact y_K.bk (by omega)), (by first | exact o155 | exact y_KM.z (by omega)), ⟨x166, rfl, by omega, by omega⟩⟩
  · exact sj_X12_cut_309K_J54 hfu r0 s12 c13 f15 r31 (by first | exact r32 | exact y_DD.z (by omega) (by omega)) r33 (by first | exact r34 | exact y_K.b0 (by omega) | exact y_K.k0 (by omega) | exact y_K.bk (by omega)) (by first | exact r35 | exact y_KM.z (by omega))
theorem sj_X12_cut_309K_J27 {fu : Nat} (hfu : 8589934592 ≤ fu) (r0 s : z_M) (c : z_CI s) (f : z_Fr R_X12_cut_309 r0 s) (a1 : Int) (a2 : Int) (t1 : Int) (b1 : -2147483648 ≤ a1 ∧ a1 ≤ 2147483647) (b2 : -2147483648 ≤ a2 ∧ a2 ≤ 2147483647) (d1 : 0 ≤ t1 ∧ t1 ≤ 1) (p0 : y_TA s) (p1 : y_DD s) (p2 : y_B s) (p3 : y_K s) (p4 : t1 = 1 ∨ (0 ≤ a1 ∧ a1 < s 309 20 ∧ 0 ≤ a2 ∧ a2 < s 309 20)) (p5 : y_KM s) : z_T (fX12_cut_J27 fu s 309 a1 a2 309 t1) (P_X12_cut_309K r0) := by
  refine T_of (fX12_cut_J27.eq_1 ..) ?_
  have u1 := CI_b c (k := 309) (j := 20) bd_309_20
  have u2 := CI_b c (k := 309) (j := 36) bd_309_36
  have u3 := CI_b c (k := 309) (j := 43) bd_309_43
  have u4 := CI_b c (k := 309) (j := 44) bd_309_44
  have u5 := CI_b c (k := 309) (j := 58) bd_309_58
  have u6 := CI_b c (k := 316) (j := 0) bd_316_0
  have u7 := CI_b c (k := 329) (j := 0) bd_329_0
  have u8 := CI_b c (k := 329) (j := 1) bd_329_1
  have t9 : s 309 43 = r0 309 43 := f 309 43 (by decide)
  have t10 : s 309 44 = r0 309 44 := f 309 44 (by decide)
  have t11 : s 309 58 = r0 309 58 := f 309 58 (by decide)
  refine T_if1 (by decide +kernel) ?_
  refine T_useI (sf_X12_bad_309 hfu s c t1 1 0 (by omega) (by omega) (by omega) (by omega)) (fun v17 s12 hq => ?_)
  obtain ⟨c13, f14, o18, ⟨x16, rfl, b19, b20, o21, o22⟩⟩ := hq
  refine T_vI ?_
  have f15 := z_Fr.tr (R := R_X12_cut_309) f f14 rs_X12_bad_309__X12_cut_309
  have t23 : s12 309 20 = s 309 20 := f14 309 20 (by decide)
  have t24 : s12 309 36 = s 309 36 := f14 309 36 (by decide)
  have t25 : s12 309 43 = s 309 43 := f14 309 43 (by decide)
  have t26 : s12 309 44 = s 309 44 := f14 309 44 (by decide)
  have t27 : s12 309 58 = s 309 58 := f14 309 58 (by decide)
  have t28 : s12 316 0 = s 316 0 := f14 316 0 (by decide)
  have t29 : s12 329 0 = s 329 0 := f14 329 0 (by decide)
  have t30 : s12 329 1 = s 329 1 := f14 329 1 (by decide)
  have r31 := y_TA.fr p0 (fun a b h => f14 a b (nz_X12_bad_309__316_328 a b h)) (fun a b h => f14 a b (nz_X12_bad_309__346_358 a b h)) (fun a b h => f14 a b (nz_X12_bad_309__361_373 a b h))
  have r32 := y_DD.fr p1 (f14 329 0 (by decide)) (f14 329 1 (by decide)) (fun b => f14 359 b (nr_X12_bad_309__359 b)) (fun b => f14 374 b (nr_X12_bad_309__374 b))
  have r33 := y_B.fr p2 (f14 309 20 (by decide)) (f14 316 0 (by decide)) (fun b => f14 3220 b (nr_X12_bad_309__3220 b)) (fun b => f14 3221 b (nr_X12_bad_309__3221 b)) (fun b => f14 3222 b (nr_X12_bad_309__3222 b)) (fun b => f14 361 b (nr_X12_bad_309__361 b))
  have r34 := y_K.fr p3 (by omega) (by omega) (f14 309 44 (by decide)) (f14 309 20 (by decide)) (f14 309 58 (by decide)) (fun b => f14 3438 b (nr_X12_bad_309__3438 b)) (fun b => f14 3220 b (nr_X12_bad_309__3220 b)) (fun a b h => f14 a b (nz_X12_bad_309__3452_3651 a b h))
  have r35 := y_KM.fr p5 (f14 309 20 (by decide)) (f14 309 36 (by decide)) (f14 309 38 (by decide)) (f14 309 39 (by decide)) (fun b => f14 312 b (nr_X12_bad_309__312 b)) (fun b => f14 331 b (nr_X12_bad_309__331 b)) (fun b => f14 346 b (nr_X12_bad_309__346 b)) (fun b => f14 361 b (nr_X12_bad_309__361 b)) (fun b => f14 391 b (nr_X12_bad_309__391 b)) (fun a b h => f14 a b (nz_X12_bad_309__407_606 a b h)) (fun a b h => f14 a b (nz_X12_bad_309__3220_3223 a b h)) (fun a b h => f14 a b (nz_X12_bad_309__3235_3437 a b h))
  refine T_ite (fun h36 => ?_) (fun h36 => ?_)
  · exact sj_X12_cut_309K_J54 hfu r0 s12 c13 f15 r31 (by first | exact r32 | exact y_DD.z (by omega) (by omega)) r33 (by first | exact r34 | exact y_K.b0 (by omega) | exact y_K.k0 (by omega) | exact y_K.bk (by omega)) (by first | exact r35 | exact y_KM.z (by omega))
  · refine T_ite (fun h37 => ?_) (fun h37 => ?_)
    · exact sj_X12_cut_309K_J46 hfu r0 s12 c13 f15 a1 a2 0 (by omega) (by omega) (by omega) r31 (by first | exact r32 | exact y_DD.z (by omega) (by omega)) r33 (by first | exact r34 | exact y_K.b0 (by omega) | exact y_K.k0 (by omega) | exact y_K.bk (by omega)) (by omega) (by omega) (by first | exact r35 | exact y_KM.z (by omega))
    · exact sj_X12_cut_309K_J46 hfu r0 s12 c13 f15 a1 a2 1 (by omega) (by omega) (by omega) r31 (by first | exact r32 | exact y_DD.z (by omega) (by omega)) r33 (by first | exact r34 | exact y_K.b0 (by omega) | exact y_K.k0 (by omega) | exact y_K.bk (by omega)) (by omega) (by omega) (by first | exact r35 | exact y_KM.z (by omega))
theorem sj_X12_cut_309K_J22 {fu : Nat} (hfu : 8589934592 ≤ fu) (r0 s : z_M) (c : z_CI s) (f : z_Fr R_X12_cut_309 r0 s) (a1 : Int) (a2 : Int) (b1 : -2147483648 ≤ a1 ∧ a1 ≤ 2147483647) (b2 : -2147483648 ≤ a2 ∧ a2 ≤ 2147483647) (p0 : y_TA s) (p1 : y_DD s) (p2 : y_B s) (p3 : y_K s) (p4 : y_KM s) : z_T (fX12_cut_J22 fu s 309 a1 a2 309) (P_X12_cut_309K r0) := by
  refine T_of (fX12_cut_J22.eq_1 ..) ?_
  have u1 := CI_b c (k := 309) (j := 20) bd_309_20
  have u2 := CI_b c (k := 309) (j := 36) bd_309_36
  have u3 := CI_b c (k := 309) (j := 43) bd_309_43
  have u4 := CI_b c (k := 309) (j := 44) bd_309_44
  have u5 := CI_b c (k := 309) (j := 58) bd_309_58
  have u6 := CI_b c (k := 316) (j := 0) bd_316_0
  have u7 := CI_b c (k := 329) (j := 0) bd_329_0
  have u8 := CI_b c (k := 329) (j := 1) bd_329_1
  have t9 : s 309 43 = r0 309 43 := f 309 43 (by decide)
  have t10 : s 309 44 = r0 309 44 := f 309 44 (by decide)
  have t11 : s 309 58 = r0 309 58 := f 309 58 (by decide)
  exact sj_X12_cut_309K_J27 hfu r0 s c f a1 a2 1 (by omega) (by omega) (by omega) p0 (by first | exact p1 | exact y_DD.z (by omega) (by omega)) p2 (by first | exact p3 | exact y_K.b0 (by omega) | exact y_K.k0 (by omega) | exact y_K.bk (by omega)) (by omega) (by first | exact p4 | exact y_KM.z (by omega))
theorem sf_X12_cut_309K {fu : Nat} (hfu : 8589934592 ≤ fu) (r0 : z_M) (c0 : z_CI r0) (a1 : Int) (a2 : Int) (b1 : -2147483648 ≤ a1 ∧ a1 ≤ 2147483647) (b2 : -2147483648 ≤ a2 ∧ a2 ≤ 2147483647) (p0 : y_TA r0) (p1 : y_DD r0) (p2 : y_B r0) (p3 : y_K r0) (p4 : y_KM r0) : z_T (fX12_cut fu r0 309 a1 a2) (P_X12_cut_309K r0) := by
  refine T_of (fX12_cut.eq_1 ..) ?_
  have u1 := CI_b c0 (k := 309) (j := 20) bd_309_20
  have u2 := CI_b c0 (k := 309) (j := 36) bd_309_36
  have u3 := CI_b c0 (k := 309) (j := 43) bd_309_43
  have u4 := CI_b c0 (k := 309) (j := 44) bd_309_44
  have u5 := CI_b c0 (k := 309) (j := 58) bd_309_58
  have u6 := CI_b c0 (k := 316) (j := 0) bd_316_0
  have u7 := CI_b c0 (k := 329) (j := 0) bd_329_0
  have u8 := CI_b c0 (k := 329) (j := 1) bd_329_1
  refine T_if1 (by decide +kernel) ?_
  refine T_upg c0 bd_309_0 (by omega) (fun s9 c10 g12 g13 e14 => ?_)
  have f11 := z_Fr.upf (R := R_X12_cut_309) z_Fr.rf g12 g13 (Or.inr (Or.inr (Or.inr (Or.inr (⟨rfl, by decide⟩)))))
  have t15 : s9 309 20 = r0 309 20 := g13 20 (by decide)
  have t16 : s9 309 36 = r0 309 36 := g13 36 (by decide)
  have t17 : s9 309 43 = r0 309 43 := g13 43 (by decide)
  have t18 : s9 309 44 = r0 309 44 := g13 44 (by decide)
  have t19 : s9 309 58 = r0 309 58 := g13 58 (by decide)
  have t20 : s9 316 0 = r0 316 0 := g12 316 0 (by decide)
  have t21 : s9 329 0 = r0 329 0 := g12 329 0 (by decide)
  have t22 : s9 329 1 = r0 329 1 := g12 329 1 (by decide)
  have r23 := y_TA.fr p0 (fun a b h => g12 a b (by omega)) (fun a b h => g12 a b (by omega)) (fun a b h => g12 a b (by omega))
  have r24 := y_DD.fr p1 (g12 329 0 (by decide)) (g12 329 1 (by decide)) (fun b => g12 359 b (by decide)) (fun b => g12 374 b (by decide))
  have r25 := y_B.fr p2 (g13 20 (by decide)) (g12 316 0 (by decide)) (fun b => g12 3220 b (by decide)) (fun b => g12 3221 b (by decide)) (fun b => g12 3222 b (by decide)) (fun b => g12 361 b (by decide))
  have r26 := y_K.fr p3 (by omega) (by omega) (g13 44 (by decide)) (g13 20 (by decide)) (g13 58 (by decide)) (fun b => g12 3438 b (by decide)) (fun b => g12 3220 b (by decide)) (fun a b h => g12 a b (by omega))
  have r27 := y_KM.fr p4 (g13 20 (by decide)) (g13 36 (by decide)) (g13 38 (by decide)) (g13 39 (by decide)) (fun b => g12 312 b (by decide)) (fun b => g12 331 b (by decide)) (fun b => g12 346 b (by decide)) (fun b => g12 361 b (by decide)) (fun b => g12 391 b (by decide)) (fun a b h => g12 a b (by omega)) (fun a b h => g12 a b (by omega)) (fun a b h => g12 a b (by omega))
  refine T_if1 (by decide +kernel) ?_
  refine T_useI (sf_X12_isUnit_309 hfu s9 c10 a1 (by omega)) (fun v33 s28 hq => ?_)
  obtain ⟨c29, f30, ⟨x32, rfl, b34, b35, o36⟩⟩ := hq
  refine T_vI ?_
  have q37 := z_Fr.eq (fun a b h => h) f30
  subst q37
  refine T_ite (fun h38 => ?_) (fun h38 => ?_)
  · exact sj_X12_cut_309K_J22 hfu r0 s9 c10 f11 a1 a2 (by omega) (by omega) r23 (by first | exact r24 | exact y_DD.z (by omega) (by omega)) r25 (by first | exact r26 | exact y_K.b0 (by omega) | exact y_K.k0 (by omega) | exact y_K.bk (by omega)) (by first | exact r27 | exact y_KM.z (by omega))
  · refine T_if1 (by decide +kernel) ?_
    refine T_useI (sf_X12_isUnit_309 hfu s9 c10 a2 (by omega)) (fun v44 s39 hq => ?_)
    obtain ⟨c40, f41, ⟨x43, rfl, b45, b46, o47⟩⟩ := hq
    refine T_vI ?_
    have q48 := z_Fr.eq (fun a b h => h) f41
    subst q48
    refine T_ite (fun h49 => ?_) (fun h49 => ?_)
    · exact sj_X12_cut_309K_J27 hfu r0 s9 c10 f11 a1 a2 0 (by omega) (by omega) (by omega) r23 (by first | exact r24 | exact y_DD.z (by omega) (by omega)) r25 (by first | exact r26 | exact y_K.b0 (by omega) | exact y_K.k0 (by omega) | exact y_K.bk (by omega)) (by omega) (by first | exact r27 | exact y_KM.z (by omega))
    · exact sj_X12_cut_309K_J22 hfu r0 s9 c10 f11 a1 a2 (by omega) (by omega) r23 (by first | exact r24 | exact y_DD.z (by omega) (by omega)) r25 (by first | exact r26 | exact y_K.b0 (by omega) | exact y_K.k0 (by omega) | exact y_K.bk (by omega)) (by first | exact r27 | exact y_KM.z (by omega))
abbrev P_X12_set_309K (r0 : z_M) (a1 : Int) (a2 : Int) : z_V → z_M → Prop := fun v s' => z_CI s' ∧ z_Fr R_X12_set_309 r0 s' ∧ (y_TA s') ∧ (y_DD s') ∧ (y_B s') ∧ (y_K s') ∧ (y_KM s') ∧ (∃ x, v = vI x ∧ -2147483648 ≤ x ∧ x ≤ 2147483647 ∧ (y_MS r0 s' a1 a2 x))
set_option maxHeartbeats 4000000 in
theorem sj_X12_set_309K_J46 {fu : Nat} (hfu : 8589934592 ≤ fu) (r0 s : z_M) (c : z_CI s) (f : z_Fr R_X12_set_309 r0 s) (a1 : Int) (a2 : Int) (t1 : Int) (b1 : -2147483648 ≤ a1 ∧ a1 ≤ 2147483647) (b2 : -2147483648 ≤ a2 ∧ a2 ≤ 2147483647) (d1 : 0 ≤ t1 ∧ t1 ≤ 1) (p0 : t1 = 1 ∨ (0 ≤ a1 ∧ a1 ≤ 8)) (p1 : y_RT r0 a1 a2 t1) (p2 : y_SE r0 s) (p3 : s 309 0 = 0) (p4 : y_TA s) (p5 : y_DD s) (p6 : y_B s) (p7 : y_K s) (p8 : y_KM s) : z_T (fX12_set_J46 fu s 309 a1 a2 309 t1) (P_X12_set_309K r0 a1 a2) := by
  refine T_of (fX12_set_J46.eq_1 ..) ?_
  have u1 := CI_b c (k := 309) (j := 0) bd_309_0
  have u2 := CI_b c (k := 309) (j := 20) bd_309_20
  have u3 := CI_b c (k := 309) (j := 36) bd_309_36
  have u4 := CI_b c (k := 309) (j := 43) bd_309_43
  have u5 := CI_b c (k := 309) (j := 44) bd_309_44
  have u6 := CI_b c (k := 309) (j := 58) bd_309_58
  have u7 := CI_b c (k := 316) (j := 0) bd_316_0
  have u8 := CI_b c (k := 329) (j := 0) bd_329_0
  have u9 := CI_b c (k := 329) (j := 1) bd_329_1
  have t10 : s 309 20 = r0 309 20 := f 309 20 (by decide)
  have t11 : s 309 43 = r0 309 43 := f 309 43 (by decide)
  have t12 : s 309 44 = r0 309 44 := f 309 44 (by decide)
  have t13 : s 309 58 = r0 309 58 := f 309 58 (by decide)
  have t14 : s 316 0 = r0 316 0 := f 316 0 (by decide)
  have t15 : s 329 0 = r0 329 0 := f 329 0 (by decide)
  have t16 : s 329 1 = r0 329 1 := f 329 1 (by decide)
  refine T_if1 (by decide +kernel) ?_
  refine T_useI (sf_X12_bad_309 hfu s c t1 1 1 (by omega) (by omega) (by omega) (by omega)) (fun v22 s17 hq => ?_)
  obtain ⟨c18, f19, o23, ⟨x21, rfl, b24, b25, o26, o27⟩⟩ := hq
  refine T_vI ?_
  have f20 := z_Fr.tr (R := R_X12_set_309) f f19 rs_X12_bad_309__X12_set_309
  have t28 : s17 309 20 = s 309 20 := f19 309 20 (by decide)
  have t29 : s17 309 36 = s 309 36 := f19 309 36 (by decide)
  have t30 : s17 309 43 = s 309 43 := f19 309 43 (by decide)
  have t31 : s17 309 44 = s 309 44 := f19 309 44 (by decide)
  have t32 : s17 309 58 = s 309 58 := f19 309 58 (by decide)
  have t33 : s17 316 0 = s 316 0 := f19 316 0 (by decide)
  have t34 : s17 329 0 = s 329 0 := f19 329 0 (by decide)
  have t35 : s17 329 1 = s 329 1 := f19 329 1 (by decide)
  have u36 := CI_b c18 (k := 309) (j := 0) bd_309_0
  have r37 := id p1 
  have r38 := y_SE.fr p2 (fun b => f19 312 b (nr_X12_bad_309__312 b))
  have r39 := y_TA.fr p4 (fun a b h => f19 a b (nz_X12_bad_309__316_328 a b h)) (fun a b h => f19 a b (nz_X12_bad_309__346_358 a b h)) (fun a b h => f19 a b (nz_X12_bad_309__361_373 a b h))
  have r40 := y_DD.fr p5 (f19 329 0 (by decide)) (f19 329 1 (by decide)) (fun b => f19 359 b (nr_X12_bad_309__359 b)) (fun b => f19 374 b (nr_X12_bad_309__374 b))
  have r41 := y_B.fr p6 (f19 309 20 (by decide)) (f19 316 0 (by decide)) (fun b => f19 3220 b (nr_X12_bad_309__3220 b)) (fun b => f19 3221 b (nr_X12_bad_309__3221 b)) (fun b => f19 3222 b (nr_X12_bad_309__3222 b)) (fun b => f19 361 b (nr_X12_bad_309__361 b))
  have r42 := y_K.fr p7 (by omega) (by omega) (f19 309 44 (by decide)) (f19 309 20 (by decide)) (f19 309 58 (by decide)) (fun b => f19 3438 b (nr_X12_bad_309__3438 b)) (fun b => f19 3220 b (nr_X12_bad_309__3220 b)) (fun a b h => f19 a b (nz_X12_bad_309__3452_3651 a b h))
  have r43 := y_KM.fr p8 (f19 309 20 (by decide)) (f19 309 36 (by decide)) (f19 309 38 (by decide)) (f19 309 39 (by decide)) (fun b => f19 312 b (nr_X12_bad_309__312 b)) (fun b => f19 331 b (nr_X12_bad_309__331 b)) (fun b => f19 346 b (nr_X12_bad_309__346 b)) (fun b => f19 361 b (nr_X12_bad_309__361 b)) (fun b => f19 391 b (nr_X12_bad_309__391 b)) (fun a b h => f19 a b (nz_X12_bad_309__407_606 a b h)) (fun a b h => f19 a b (nz_X12_bad_309__3220_3223 a b h)) (fun a b h => f19 a b (nz_X12_bad_309__3235_3437 a b h))
  refine T_ite (fun h44 => ?_) (fun h44 => ?_)
  · refine T_if1 (by decide +kernel) ?_
    refine T_let 312 (by decide +kernel) ?_
    refine T_if1 (z_ixl (n := 9) (by decide +kernel) (by omega) (by omega)) ?_
    refine T_leq (fun x45 e46 => ?_)
    have u47 := CI_b c18 (k := 312) (j := a1) (bdr_312 a1)
    refine T_if1 (by decide +kernel) ?_
    refine T_let 312 (by decide +kernel) ?_
    refine T_if1 (z_ixl (n := 9) (by decide +kernel) (by omega) (by omega)) ?_
    refine T_upg c18 (bdr_312 a1) (by omega) (fun s48 c49 g51 g52 e53 => ?_)
    have f50 := z_Fr.up (R := R_X12_set_309) f20 g51 (fun _ => (Or.inl (⟨by decide, by decide⟩)))
    have t54 : s48 309 0 = s17 309 0 := g51 309 0 (by decide)
    have t55 : s48 309 20 = s 309 20 := (g51 309 20 (by decide)).trans t28
    have t56 : s48 309 36 = s 309 36 := (g51 309 36 (by decide)).trans t29
    have t57 : s48 309 43 = s 309 43 := (g51 309 43 (by decide)).trans t30
    have t58 : s48 309 44 = s 309 44 := (g51 309 44 (by decide)).trans t31
    have t59 : s48 309 58 = s 309 58 := (g51 309 58 (by decide)).trans t32
    have t60 : s48 316 0 = s 316 0 := (g51 316 0 (by decide)).trans t33
    have t61 : s48 329 0 = s 329 0 := (g51 329 0 (by decide)).trans t34
    have t62 : s48 329 1 = s 329 1 := (g51 329 1 (by decide)).trans t35
    have r63 := id r37 
    have r64 := y_TA.fr r39 (fun a b h => g51 a b (by omega)) (fun a b h => g51 a b (by omega)) (fun a b h => g51 a b (by omega))
    have r65 := y_DD.fr r40 (g51 329 0 (by decide)) (g51 329 1 (by decide)) (fun b => g51 359 b (by decide)) (fun b => g51 374 b (by decide))
    have r66 := y_B.fr r41 (g51 309 20 (by decide)) (g51 316 0 (by decide)) (fun b => g51 3220 b (by decide)) (fun b => g51 3221 b (by decide)) (fun b => g51 3222 b (by decide)) (fun b => g51 361 b (by decide))
    have r67 := y_K.fr r42 (by omega) (by omega) (g51 309 44 (by decide)) (g51 309 20 (by decide)) (g51 309 58 (by decide)) (fun b => g51 3438 b (by decide)) (fun b => g51 3220 b (by decide)) (fun a b h => g51 a b (by omega))
    have r68 : y_S1 r0 s48 a1 a2 x45 := y_S1.mk r38 g52 e53 e46
    clear t28
    clear t29
    clear t30
    clear t31
    clear t32
    clear t33
    clear t34
    clear t35
    refine T_if1 ⟨(by decide +kernel), by unfold z_bl; omega⟩ ?_
    refine T_upg c49 bd_309_36 (by omega) (fun s69 c70 g72 g73 e74 => ?_)
    have f71 := z_Fr.upf (R := R_X12_set_309) f50 g72 g73 (Or.inr (⟨rfl, by decide⟩))
    have t75 : s69 309 0 = s17 309 0 := (g73 0 (by decide)).trans t54
    have t76 : s69 309 20 = s 309 20 := (g73 20 (by decide)).trans t55
    have t77 : s69 309 43 = s 309 43 := (g73 43 (by decide)).trans t57
    have t78 : s69 309 44 = s 309 44 := (g73 44 (by decide)).trans t58
    have t79 : s69 309 58 = s 309 58 := (g73 58 (by decide)).trans t59
    have t80 : s69 316 0 = s 316 0 := (g72 316 0 (by decide)).trans t60
    have t81 : s69 329 0 = s 329 0 := (g72 329 0 (by decide)).trans t61
    have t82 : s69 329 1 = s 329 1 := (g72 329 1 (by decide)).trans t62
    have u83 := CI_b c70 (k := 309) (j := 36) bd_309_36
    have r84 := id r63 
    have r85 := y_TA.fr r64 (fun a b h => g72 a b (by omega)) (fun a b h => g72 a b (by omega)) (fun a b h => g72 a b (by omega))
    have r86 := y_DD.fr r65 (g72 329 0 (by decide)) (g72 329 1 (by decide)) (fun b => g72 359 b (by decide)) (fun b => g72 374 b (by decide))
    have r87 := y_B.fr r66 (g73 20 (by decide)) (g72 316 0 (by decide)) (fun b => g72 3220 b (by decide)) (fun b => g72 3221 b (by decide)) (fun b => g72 3222 b (by decide)) (fun b => g72 361 b (by decide))
    have r88 := y_K.fr r67 (by omega) (by omega) (g73 44 (by decide)) (g73 20 (by decide)) (g73 58 (by decide)) (fun b => g72 3438 b (by decide)) (fun b => g72 3220 b (by decide)) (fun a b h => g72 a b (by omega))
    have r89 := y_S1.fr r68 (fun b => g72 312 b (by decide))
    clear t54
    clear t55
    clear t57
    clear t58
    clear t59
    clear t60
    clear t61
    clear t62
    exact T_ret ⟨c70, f71, r85, (by first | exact r86 | exact y_DD.z (by omega) (by omega)), r87, (by first | exact r88 | exact y_K.b0 (by omega) | exact y_K.k0 (by omega) | exact y_K.bk (by omega)), (by first | exact y_KM.z (by omega)), ⟨x45, rfl, by omega, by omega, (by first | exact y_MS.y r84 r89 (by omega) (by omega))⟩⟩
  · exact T_ret ⟨c18, f20, r39, (by first | exact r40 | exact y_DD.z (by omega) (by omega)), r41, (by first | exact r42 | exact y_K.b0 (by omega) | exact y_K.k0 (by omega) | exact y_K.bk (by omega)), (by first | exact r43 | exact y_KM.z (by omega)), ⟨0, rfl, by omega, by omega, (by first | exact y_MS.n r37 r38 (by omega) (by omega))⟩⟩
theorem sj_X12_set_309K_J41 {fu : Nat} (hfu : 8589934592 ≤ fu) (r0 s : z_M) (c : z_CI s) (f : z_Fr R_X12_set_309 r0 s) (a1 : Int) (a2 : Int) (b1 : -2147483648 ≤ a1 ∧ a1 ≤ 2147483647) (b2 : -2147483648 ≤ a2 ∧ a2 ≤ 2147483647) (p0 : ¬ y_RG r0 a1 a2) (p1 : y_SE r0 s) (p2 : s 309 0 = 0) (p3 : y_TA s) (p4 : y_DD s) (p5 : y_B s) (p6 : y_K s) (p7 : y_KM s) : z_T (fX12_set_J41 fu s 309 a1 a2 309) (P_X12_set_309K r0 a1 a2) := by
  refine T_of (fX12_set_J41.eq_1 ..) ?_
  have u1 := CI_b c (k := 309) (j := 0) bd_309_0
  have u2 := CI_b c (k := 309) (j := 20) bd_309_20
  have u3 := CI_b c (k := 309) (j := 36) bd_309_36
  have u4 := CI_b c (k := 309) (j := 43) bd_309_43
  have u5 := CI_b c (k := 309) (j := 44) bd_309_44
  have u6 := CI_b c (k := 309) (j := 58) bd_309_58
  have u7 := CI_b c (k := 316) (j := 0) bd_316_0
  have u8 := CI_b c (k := 329) (j := 0) bd_329_0
  have u9 := CI_b c (k := 329) (j := 1) bd_329_1
  have t10 : s 309 20 = r0 309 20 := f 309 20 (by decide)
  have t11 : s 309 43 = r0 309 43 := f 309 43 (by decide)
  have t12 : s 309 44 = r0 309 44 := f 309 44 (by decide)
  have t13 : s 309 58 = r0 309 58 := f 309 58 (by decide)
  have t14 : s 316 0 = r0 316 0 := f 316 0 (by decide)
  have t15 : s 329 0 = r0 329 0 := f 329 0 (by decide)
  have t16 : s 329 1 = r0 329 1 := f 329 1 (by decide)
  exact sj_X12_set_309K_J46 hfu r0 s c f a1 a2 1 (by omega) (by omega) (by omega) (by omega) (by first | exact y_RT.n p0 (by omega)) p1 (by omega) p3 (by first | exact p4 | exact y_DD.z (by omega) (by omega)) p5 (by first | exact p6 | exact y_K.b0 (by omega) | exact y_K.k0 (by omega) | exact y_K.bk (by omega)) (by first | exact p7 | exact y_KM.z (by omega))
theorem sf_X12_set_309K {fu : Nat} (hfu : 8589934592 ≤ fu) (r0 : z_M) (c0 : z_CI r0) (a1 : Int) (a2 : Int) (b1 : -2147483648 ≤ a1 ∧ a1 ≤ 2147483647) (b2 : -2147483648 ≤ a2 ∧ a2 ≤ 2147483647) (p0 : y_TA r0) (p1 : y_DD r0) (p2 : y_B r0) (p3 : y_K r0) (p4 : y_KM r0) : z_T (fX12_set fu r0 309 a1 a2) (P_X12_set_309K r0 a1 a2) := by
  refine T_of (fX12_set.eq_1 ..) ?_
  have u1 := CI_b c0 (k := 309) (j := 0) bd_309_0
  have u2 := CI_b c0 (k := 309) (j := 20) bd_309_20
  have u3 := CI_b c0 (k := 309) (j := 36) bd_309_36
  have u4 := CI_b c0 (k := 309) (j := 43) bd_309_43
  have u5 := CI_b c0 (k := 309) (j := 44) bd_309_44
  have u6 := CI_b c0 (k := 309) (j := 58) bd_309_58
  have u7 := CI_b c0 (k := 316) (j := 0) bd_316_0
  have u8 := CI_b c0 (k := 329) (j := 0) bd_329_0
  have u9 := CI_b c0 (k := 329) (j := 1) bd_329_1
  have r10 : y_SE r0 r0 := y_SE.z
  refine T_if1 (by decide +kernel) ?_
  refine T_upg c0 bd_309_0 (by omega) (fun s11 c12 g14 g15 e16 => ?_)
  have f13 := z_Fr.upf (R := R_X12_set_309) z_Fr.rf g14 g15 (Or.inr (⟨rfl, by decide⟩))
  have t17 : s11 309 20 = r0 309 20 := g15 20 (by decide)
  have t18 : s11 309 36 = r0 309 36 := g15 36 (by decide)
  have t19 : s11 309 43 = r0 309 43 := g15 43 (by decide)
  have t20 : s11 309 44 = r0 309 44 := g15 44 (by decide)
  have t21 : s11 309 58 = r0 309 58 := g15 58 (by decide)
  have t22 : s11 316 0 = r0 316 0 := g14 316 0 (by decide)
  have t23 : s11 329 0 = r0 329 0 := g14 329 0 (by decide)
  have t24 : s11 329 1 = r0 329 1 := g14 329 1 (by decide)
  have u25 := CI_b c12 (k := 309) (j := 0) bd_309_0
  have r26 := y_TA.fr p0 (fun a b h => g14 a b (by omega)) (fun a b h => g14 a b (by omega)) (fun a b h => g14 a b (by omega))
  have r27 := y_DD.fr p1 (g14 329 0 (by decide)) (g14 329 1 (by decide)) (fun b => g14 359 b (by decide)) (fun b => g14 374 b (by decide))
  have r28 := y_B.fr p2 (g15 20 (by decide)) (g14 316 0 (by decide)) (fun b => g14 3220 b (by decide)) (fun b => g14 3221 b (by decide)) (fun b => g14 3222 b (by decide)) (fun b => g14 361 b (by decide))
  have r29 := y_K.fr p3 (by omega) (by omega) (g15 44 (by decide)) (g15 20 (by decide)) (g15 58 (by decide)) (fun b => g14 3438 b (by decide)) (fun b => g14 3220 b (by decide)) (fun a b h => g14 a b (by omega))
  have r30 := y_KM.fr p4 (g15 20 (by decide)) (g15 36 (by decide)) (g15 38 (by decide)) (g15 39 (by decide)) (fun b => g14 312 b (by decide)) (fun b => g14 331 b (by decide)) (fun b => g14 346 b (by decide)) (fun b => g14 361 b (by decide)) (fun b => g14 391 b (by decide)) (fun a b h => g14 a b (by omega)) (fun a b h => g14 a b (by omega)) (fun a b h => g14 a b (by omega))
  have r31 := y_SE.fr r10 (fun b => g14 312 b (by decide))
  refine T_useI (sf_X12_more hfu s11 c12 a1 0 (by omega) (by omega)) (fun v37 s32 hq => ?_)
  obtain ⟨c33, f34, ⟨x36, rfl, b38, b39, o40⟩⟩ := hq
  refine T_vI ?_
  have q41 := z_Fr.eq (fun a b h => h) f34
  subst q41
  refine T_useI (sf_X12_less hfu s11 c12 x36 8 (by omega) (by omega)) (fun v47 s42 hq => ?_)
  obtain ⟨c43, f44, ⟨x46, rfl, b48, b49, o50⟩⟩ := hq
  refine T_vI ?_
  have q51 := z_Fr.eq (fun a b h => h) f44
  subst q51
  refine T_ite (fun h52 => ?_) (fun h52 => ?_)
  · exact sj_X12_set_309K_J41 hfu r0 s11 c12 f13 a1 a2 (by omega) (by omega) (by first | exact y_NG.i (by omega)) r31 (by omega) r26 (by first | exact r27 | exact y_DD.z (by omega) (by omega)) r28 (by first | exact r29 | exact y_K.b0 (by omega) | exact y_K.k0 (by omega) | exact y_K.bk (by omega)) (by first | exact r30 | exact y_KM.z (by omega))
  · refine T_if1 (by decide +kernel) ?_
    refine T_let 313 (by decide +kernel) ?_
    refine T_if1 (z_ixl (n := 9) (by decide +kernel) (by omega) (by omega)) ?_
    refine T_leq (fun x53 e54 => ?_)
    have u55 := CI_b c12 (k := 313) (j := x46) (bdr_313 x46)
    refine T_if1 (by decide +kernel) ?_
    refine T_let 314 (by decide +kernel) ?_
    refine T_if1 (z_ixl (n := 9) (by decide +kernel) (by omega) (by omega)) ?_
    refine T_leq (fun x56 e57 => ?_)
    have u58 := CI_b c12 (k := 314) (j := x46) (bdr_314 x46)
    refine T_useI (sf_X12_in hfu s11 c12 a2 x53 x56 (by omega) (by omega) (by omega)) (fun v64 s59 hq => ?_)
    obtain ⟨c60, f61, ⟨x63, rfl, b65, b66, o67⟩⟩ := hq
    refine T_vI ?_
    have q68 := z_Fr.eq (fun a b h => h) f61
    subst q68
    have r69 : y_HO r0 a1 a2 x53 x56 := y_HO.mk (fun b => f13 313 b (by unfold R_X12_set_309; omega)) (fun b => f13 314 b (by unfold R_X12_set_309; omega)) (by assumption) (by assumption) (by omega) (by omega)
    refine T_ite (fun h70 => ?_) (fun h70 => ?_)
    · exact sj_X12_set_309K_J46 hfu r0 s11 c12 f13 a1 a2 0 (by omega) (by omega) (by omega) (by omega) (by first | exact y_RT.y r69 (by omega) (by omega)) r31 (by omega) r26 (by first | exact r27 | exact y_DD.z (by omega) (by omega)) r28 (by first | exact r29 | exact y_K.b0 (by omega) | exact y_K.k0 (by omega) | exact y_K.bk (by omega)) (by first | exact r30 | exact y_KM.z (by omega))
    · exact sj_X12_set_309K_J41 hfu r0 s11 c12 f13 a1 a2 (by omega) (by omega) (by first | exact y_NG.i (by omega) | exact y_NG.h r69 (by omega)) r31 (by omega) r26 (by first | exact r27 | exact y_DD.z (by omega) (by omega)) r28 (by first | exact r29 | exact y_K.b0 (by omega) | exact y_K.k0 (by omega) | exact y_K.bk (by omega)) (by first | exact r30 | exact y_KM.z (by omega))
abbrev P_X12_mayEnd_309K (r0 : z_M) : z_V → z_M → Prop := fun v s' => z_CI s' ∧ z_Fr R_X12_mayEnd_309 r0 s' ∧ (s' 309 36 ≠ 0) ∧ (s' 309 43 = 0 ∨ s' 309 36 = 0 ∨ (r0 309 36 ≠ 0 ∧ r0 309 43 ≠ 0)) ∧ (r0 309 36 = 0 ∨ s' 309 36 ≠ 0) ∧ (y_KM s') ∧ (∃ x, v = vI x ∧ 0 ≤ x ∧ x ≤ 1)
theorem nr_X12_freshens_309__312 (b : Int) : ¬ R_X12_freshens_309 312 b := by
  unfold R_X12_freshens_309; omega
theorem nr_X12_freshens_309__331 (b : Int) : ¬ R_X12_freshens_309 331 b := by
  unfold R_X12_freshens_309; omega
theorem nr_X12_freshens_309__346 (b : Int) : ¬ R_X12_freshens_309 346 b := by
  unfold R_X12_freshens_309; omega
theorem nr_X12_freshens_309__391 (b : Int) : ¬ R_X12_freshens_309 391 b := by
  unfold R_X12_freshens_309; omega
theorem nz_X12_freshens_309__407_606 (a b : Int) (h : 407 ≤ a ∧ a ≤ 606) : ¬ R_X12_freshens_309 a b := by
  unfold R_X12_freshens_309; omega
theorem nz_X12_freshens_309__3220_3223 (a b : Int) (h : 3220 ≤ a ∧ a ≤ 3223) : ¬ R_X12_freshens_309 a b := by
  unfold R_X12_freshens_309; omega
theorem sj_X12_mayEnd_309K_J48 {fu : Nat} (hfu : 8589934592 ≤ fu) (r0 s : z_M) (c : z_CI s) (f : z_Fr R_X12_mayEnd_309 r0 s) (t0 : Int) (d0 : 0 ≤ t0 ∧ t0 ≤ 1) (p0 : s 309 36 ≠ 0) (p1 : s 309 43 = 0 ∨ s 309 36 = 0 ∨ (r0 309 36 ≠ 0 ∧ r0 309 43 ≠ 0)) (p2 : r0 309 36 = 0 ∨ s 309 36 ≠ 0) (p3 : y_KM s) : z_T (fX12_mayEnd_J48 fu s t0) (P_X12_mayEnd_309K r0) := by
  refine T_of (fX12_mayEnd_J48.eq_1 ..) ?_
  have u1 := CI_b c (k := 309) (j := 20) bd_309_20
  have u2 := CI_b c (k := 309) (j := 36) bd_309_36
  have u3 := CI_b c (k := 309) (j := 43) bd_309_43
  have u4 := CI_b c (k := 316) (j := 0) bd_316_0
  have t5 : s 309 20 = r0 309 20 := f 309 20 (by decide)
  have t6 : s 316 0 = r0 316 0 := f 316 0 (by decide)
  refine T_if1 (by unfold z_bl; omega) ?_
  exact T_ret ⟨c, f, (by omega), (by omega), (by omega), (by first | exact p3 | exact y_KM.z (by omega)), ⟨t0, rfl, by omega, by omega⟩⟩
theorem sj_X12_mayEnd_309K_J47 {fu : Nat} (hfu : 8589934592 ≤ fu) (r0 s : z_M) (c : z_CI s) (f : z_Fr R_X12_mayEnd_309 r0 s) (p0 : s 309 36 ≠ 0) (p1 : s 309 43 = 0 ∨ s 309 36 = 0 ∨ (r0 309 36 ≠ 0 ∧ r0 309 43 ≠ 0)) (p2 : r0 309 36 = 0 ∨ s 309 36 ≠ 0) (p3 : y_KM s) : z_T (fX12_mayEnd_J47 fu s) (P_X12_mayEnd_309K r0) := by
  refine T_of (fX12_mayEnd_J47.eq_1 ..) ?_
  have u1 := CI_b c (k := 309) (j := 20) bd_309_20
  have u2 := CI_b c (k := 309) (j := 36) bd_309_36
  have u3 := CI_b c (k := 309) (j := 43) bd_309_43
  have u4 := CI_b c (k := 316) (j := 0) bd_316_0
  have t5 : s 309 20 = r0 309 20 := f 309 20 (by decide)
  have t6 : s 316 0 = r0 316 0 := f 316 0 (by decide)
  exact sj_X12_mayEnd_309K_J48 hfu r0 s c f 0 (by omega) (by omega) (by omega) (by omega) (by first | exact p3 | exact y_KM.z (by omega))
theorem sf_X12_mayEnd_309K {fu : Nat} (hfu : 8589934592 ≤ fu) (r0 : z_M) (c0 : z_CI r0) (a1 : Int) (b1 : 0 ≤ a1 ∧ a1 ≤ 199) (p0 : y_B r0) (p1 : y_KM r0) : z_T (fX12_mayEnd fu r0 309 a1) (P_X12_mayEnd_309K r0) := by
  refine T_of (fX12_mayEnd.eq_1 ..) ?_
  have u1 := CI_b c0 (k := 309) (j := 20) bd_309_20
  have u2 := CI_b c0 (k := 309) (j := 36) bd_309_36
  have u3 := CI_b c0 (k := 309) (j := 43) bd_309_43
  have u4 := CI_b c0 (k := 316) (j := 0) bd_316_0
  refine T_if1 (by decide +kernel) ?_
  refine T_useN (sf_X12_freshens_309K hfu r0 c0 p0 (by first | exact p1 | exact y_KM.z (by omega))) (fun v10 s5 hq => ?_)
  obtain ⟨c6, f7, o11, o12, o13, o14, o15, rfl⟩ := hq
  refine T_vN ?_
  have f8 := z_Fr.tr (R := R_X12_mayEnd_309) z_Fr.rf f7 rs_X12_freshens_309__X12_mayEnd_309
  have t18 : s5 309 20 = r0 309 20 := f7 309 20 (by decide)
  have t19 : s5 316 0 = r0 316 0 := f7 316 0 (by decide)
  have u20 := CI_b c6 (k := 309) (j := 36) bd_309_36
  have u21 := CI_b c6 (k := 309) (j := 43) bd_309_43
  have r22 := y_B.fr p0 (f7 309 20 (by decide)) (f7 316 0 (by decide)) (fun b => f7 3220 b (nr_X12_freshens_309__3220 b)) (fun b => f7 3221 b (nr_X12_freshens_309__3221 b)) (fun b => f7 3222 b (nr_X12_freshens_309__3222 b)) (fun b => f7 361 b (nr_X12_freshens_309__361 b))
  refine T_leq (fun x23 e24 => ?_)
  first | (have w25 := z_wx e24 (by omega)) | (have w25 := z_wr e24)
  refine T_if1 (by decide +kernel) ?_
  refine T_leq (fun x26 e27 => ?_)
  have u28 := CI_b c6 (k := 309) (j := 20) bd_309_20
  refine T_ite (fun h29 => ?_) (fun h29 => ?_)
  · exact sj_X12_mayEnd_309K_J47 hfu r0 s5 c6 f8 (by omega) (by omega) (by omega) (by first | exact o15 | exact y_KM.z (by omega))
  · refine T_if1 (by decide +kernel) ?_
    refine T_let 3220 (by decide +kernel) ?_
    refine T_if1 (z_ixl (n := 200) (by decide +kernel) (by omega) (by omega)) ?_
    refine T_leq (fun x30 e31 => ?_)
    have u32 := CI_b c6 (k := 3220) (j := a1) (bdr_3220 a1)
    refine T_ite (fun h33 => ?_) (fun h33 => ?_)
    · exact sj_X12_mayEnd_309K_J47 hfu r0 s5 c6 f8 (by omega) (by omega) (by omega) (by first | exact o15 | exact y_KM.z (by omega))
    · refine T_leq (fun x34 e35 => ?_)
      have q36 : x23 = x34 := e24.symm.trans e35
      subst q36
      refine T_if1 (by decide +kernel) ?_
      refine T_useI (sf_X12_isPoint_309 hfu s5 c6 x23 (by omega)) (fun v42 s37 hq => ?_)
      obtain ⟨c38, f39, ⟨x41, rfl, b43, b44⟩⟩ := hq
      refine T_vI ?_
      have q45 := z_Fr.eq (fun a b h => h) f39
      subst q45
      refine T_ite (fun h46 => ?_) (fun h46 => ?_)
      · exact sj_X12_mayEnd_309K_J47 hfu r0 s5 c6 f8 (by omega) (by omega) (by omega) (by first | exact o15 | exact y_KM.z (by omega))
      · refine T_if1 (by decide +kernel) ?_
        refine T_let 3437 (by decide +kernel) ?_
        refine T_if1 (z_ixl (n := 200) (by decide +kernel) (by omega) (by omega)) ?_
        refine T_leq (fun x47 e48 => ?_)
        have u49 := CI_b c6 (k := 3437) (j := a1) (bdr_3437 a1)
        refine T_ite (fun h50 => ?_) (fun h50 => ?_)
        · exact sj_X12_mayEnd_309K_J47 hfu r0 s5 c6 f8 (by omega) (by omega) (by omega) (by first | exact o15 | exact y_KM.z (by omega))
        · exact sj_X12_mayEnd_309K_J48 hfu r0 s5 c6 f8 1 (by omega) (by omega) (by omega) (by omega) (by first | exact o15 | exact y_KM.z (by omega))
abbrev P_X12_comes_309K (r0 : z_M) (a1 : Int) : z_V → z_M → Prop := fun v s' => z_CI s' ∧ z_Fr R_X12_comes_309 r0 s' ∧ (s' 309 43 = 0 ∨ s' 309 36 = 0 ∨ (r0 309 36 ≠ 0 ∧ r0 309 43 ≠ 0)) ∧ (r0 309 36 = 0 ∨ s' 309 36 ≠ 0) ∧ (y_KM s') ∧ (∃ x, v = vI x ∧ 0 ≤ x ∧ x ≤ 199 ∧ (a1 ≤ x) ∧ (x < s' 309 20))
theorem nr_X12_longAs_309__312 (b : Int) : ¬ R_X12_longAs_309 312 b := by
  unfold R_X12_longAs_309; omega
theorem nr_X12_longAs_309__331 (b : Int) : ¬ R_X12_longAs_309 331 b := by
  unfold R_X12_longAs_309; omega
theorem nr_X12_longAs_309__346 (b : Int) : ¬ R_X12_longAs_309 346 b := by
  unfold R_X12_longAs_309; omega
theorem nr_X12_longAs_309__391 (b : Int) : ¬ R_X12_longAs_309 391 b := by
  unfold R_X12_longAs_309; omega
theorem nz_X12_longAs_309__407_606 (a b : Int) (h : 407 ≤ a ∧ a ≤ 606) : ¬ R_X12_longAs_309 a b := by
  unfold R_X12_longAs_309; omega
theorem nz_X12_longAs_309__3220_3223 (a b : Int) (h : 3220 ≤ a ∧ a ≤ 3223) : ¬ R_X12_longAs_309 a b := by
  unfold R_X12_longAs_309; omega
theorem sj_X12_comes_309K_J58 {fu : Nat} (hfu : 8589934592 ≤ fu) (r0 s : z_M) (c : z_CI s) (f : z_Fr R_X12_comes_309 r0 s) (a1 : Int) (a2 : Int) (a3 : Int) (a4 : Int) (a5 : Int) (b1 : 0 ≤ a1 ∧ a1 ≤ 199) (b2 : -2147483648 ≤ a2 ∧ a2 ≤ 2147483647) (b3 : (-1) ≤ a3 ∧ a3 ≤ 199) (b4 : (-1) ≤ a4 ∧ a4 ≤ 199) (b5 : 0 ≤ a5 ∧ a5 ≤ 199) (p0 : a3 = -1 ∨ (a1 ≤ a3 ∧ a3 < s 309 20)) (p1 : a4 = -1 ∨ (a1 ≤ a4 ∧ a4 < s 309 20)) (p2 : y_B s) (p3 : a1 ≤ a5) (p4 : a5 < s 309 20) (p5 : s 309 43 = 0 ∨ s 309 36 = 0 ∨ (r0 309 36 ≠ 0 ∧ r0 309 43 ≠ 0)) (p6 : r0 309 36 = 0 ∨ s 309 36 ≠ 0) (p7 : y_KM s) (M : Int) (pm : 2147483647 - a5 ≤ M) {r : z_M → Int → Int → Int → z_O} {k : z_M → Int → Int → z_O} (hr : ∀ (s' : z_M) (v3 : Int) (v4 : Int) (v5 : Int), z_CI s' → z_Fr R_X12_comes_309 r0 s' → ((-1) ≤ v3 ∧ v3 ≤ 199) → ((-1) ≤ v4 ∧ v4 ≤ 199) → (0 ≤ v5 ∧ v5 ≤ 200) → (v3 = -1 ∨ (a1 ≤ v3 ∧ v3 < s' 309 20)) → (v4 = -1 ∨ (a1 ≤ v4 ∧ v4 < s' 309 20)) → (y_B s') → (a1 ≤ v5) → (v5 ≤ s' 309 20) → (s' 309 43 = 0 ∨ s' 309 36 = 0 ∨ (r0 309 36 ≠ 0 ∧ r0 309 43 ≠ 0)) → (r0 309 36 = 0 ∨ s' 309 36 ≠ 0) → (y_KM s') → (2147483647 - v5 < M) → z_T (r s' v3 v4 v5) (P_X12_comes_309K r0 a1)) (hk : ∀ (s' : z_M) (v3 : Int) (v4 : Int), z_CI s' → z_Fr R_X12_comes_309 r0 s' → ((-1) ≤ v3 ∧ v3 ≤ 199) → ((-1) ≤ v4 ∧ v4 ≤ 199) → (v3 = -1 ∨ (a1 ≤ v3 ∧ v3 < s' 309 20)) → (v4 = -1 ∨ (a1 ≤ v4 ∧ v4 < s' 309 20)) → (y_B s') → (s' 309 43 = 0 ∨ s' 309 36 = 0 ∨ (r0 309 36 ≠ 0 ∧ r0 309 43 ≠ 0)) → (r0 309 36 = 0 ∨ s' 309 36 ≠ 0) → (y_KM s') → z_T (k s' v3 v4) (P_X12_comes_309K r0 a1)) : z_T (fX12_comes_J58 fu s 309 a1 a2 a3 a4 a5 r k) (P_X12_comes_309K r0 a1) := by
  refine T_of (fX12_comes_J58.eq_1 ..) ?_
  have u1 := CI_b c (k := 309) (j := 20) bd_309_20
  have u2 := CI_b c (k := 309) (j := 36) bd_309_36
  have u3 := CI_b c (k := 309) (j := 43) bd_309_43
  have u4 := CI_b c (k := 316) (j := 0) bd_316_0
  have t5 : s 309 20 = r0 309 20 := f 309 20 (by decide)
  have t6 : s 316 0 = r0 316 0 := f 316 0 (by decide)
  refine T_leq (fun x7 e8 => ?_)
  first | (have w9 := z_wx e8 (by omega)) | (have w9 := z_wr e8)
  exact hr s a3 a4 x7 c f (by omega) (by omega) (by omega) (by omega) (by omega) p2 (by omega) (by omega) (by omega) (by omega) (by first | exact p7 | exact y_KM.z (by omega)) (by omega)
theorem sj_X12_comes_309K_J55 {fu : Nat} (hfu : 8589934592 ≤ fu) (r0 s : z_M) (c : z_CI s) (f : z_Fr R_X12_comes_309 r0 s) (a1 : Int) (a2 : Int) (a4 : Int) (a5 : Int) (b1 : 0 ≤ a1 ∧ a1 ≤ 199) (b2 : -2147483648 ≤ a2 ∧ a2 ≤ 2147483647) (b4 : (-1) ≤ a4 ∧ a4 ≤ 199) (b5 : 0 ≤ a5 ∧ a5 ≤ 199) (p0 : a4 = -1 ∨ (a1 ≤ a4 ∧ a4 < s 309 20)) (p1 : y_B s) (p2 : a1 ≤ a5) (p3 : a5 < s 309 20) (p4 : s 309 43 = 0 ∨ s 309 36 = 0 ∨ (r0 309 36 ≠ 0 ∧ r0 309 43 ≠ 0)) (p5 : r0 309 36 = 0 ∨ s 309 36 ≠ 0) (p6 : y_KM s) (M : Int) (pm : 2147483647 - a5 ≤ M) {r : z_M → Int → Int → Int → z_O} {k : z_M → Int → Int → z_O} (hr : ∀ (s' : z_M) (v3 : Int) (v4 : Int) (v5 : Int), z_CI s' → z_Fr R_X12_comes_309 r0 s' → ((-1) ≤ v3 ∧ v3 ≤ 199) → ((-1) ≤ v4 ∧ v4 ≤ 199) → (0 ≤ v5 ∧ v5 ≤ 200) → (v3 = -1 ∨ (a1 ≤ v3 ∧ v3 < s' 309 20)) → (v4 = -1 ∨ (a1 ≤ v4 ∧ v4 < s' 309 20)) → (y_B s') → (a1 ≤ v5) → (v5 ≤ s' 309 20) → (s' 309 43 = 0 ∨ s' 309 36 = 0 ∨ (r0 309 36 ≠ 0 ∧ r0 309 43 ≠ 0)) → (r0 309 36 = 0 ∨ s' 309 36 ≠ 0) → (y_KM s') → (2147483647 - v5 < M) → z_T (r s' v3 v4 v5) (P_X12_comes_309K r0 a1)) (hk : ∀ (s' : z_M) (v3 : Int) (v4 : Int), z_CI s' → z_Fr R_X12_comes_309 r0 s' → ((-1) ≤ v3 ∧ v3 ≤ 199) → ((-1) ≤ v4 ∧ v4 ≤ 199) → (v3 = -1 ∨ (a1 ≤ v3 ∧ v3 < s' 309 20)) → (v4 = -1 ∨ (a1 ≤ v4 ∧ v4 < s' 309 20)) → (y_B s') → (s' 309 43 = 0 ∨ s' 309 36 = 0 ∨ (r0 309 36 ≠ 0 ∧ r0 309 43 ≠ 0)) → (r0 309 36 = 0 ∨ s' 309 36 ≠ 0) → (y_KM s') → z_T (k s' v3 v4) (P_X12_comes_309K r0 a1)) : z_T (fX12_comes_J55 fu s 309 a1 a2 a4 a5 r k) (P_X12_comes_309K r0 a1) := by
  refine T_of (fX12_comes_J55.eq_1 ..) ?_
  have u1 := CI_b c (k := 309) (j := 20) bd_309_20
  have u2 := CI_b c (k := 309) (j := 36) bd_309_36
  have u3 := CI_b c (k := 309) (j := 43) bd_309_43
  have u4 := CI_b c (k := 316) (j := 0) bd_316_0
  have t5 : s 309 20 = r0 309 20 := f 309 20 (by decide)
  have t6 : s 316 0 = r0 316 0 := f 316 0 (by decide)
  exact sj_X12_comes_309K_J58 hfu r0 s c f a1 a2 a5 a4 a5 (by omega) (by omega) (by omega) (by omega) (by omega) (by omega) (by omega) p1 (by omega) (by omega) (by omega) (by omega) (by first | exact p6 | exact y_KM.z (by omega)) M (by omega) (fun s' v3 v4 v5 c' f' w3 w4 w5 z0 z1 z2 z3 z4 z5 z6 z7 pg => hr s' v3 v4 v5 c' f' w3 w4 w5 z0 z1 z2 z3 z4 z5 z6 z7 (by omega)) hk
theorem nr_X12_mayEnd_309__312 (b : Int) : ¬ R_X12_mayEnd_309 312 b := by
  unfold R_X12_mayEnd_309; omega
theorem nr_X12_mayEnd_309__331 (b : Int) : ¬ R_X12_mayEnd_309 331 b := by
  unfold R_X12_mayEnd_309; omega
theorem nr_X12_mayEnd_309__346 (b : Int) : ¬ R_X12_mayEnd_309 346 b := by
  unfold R_X12_mayEnd_309; omega
theorem nr_X12_mayEnd_309__391 (b : Int) : ¬ R_X12_mayEnd_309 391 b := by
  unfold R_X12_mayEnd_309; omega
theorem nz_X12_mayEnd_309__407_606 (a b : Int) (h : 407 ≤ a ∧ a ≤ 606) : ¬ R_X12_mayEnd_309 a b := by
  unfold R_X12_mayEnd_309; omega
theorem nz_X12_mayEnd_309__3220_3223 (a b : Int) (h : 3220 ≤ a ∧ a ≤ 3223) : ¬ R_X12_mayEnd_309 a b := by
  unfold R_X12_mayEnd_309; omega
theorem sl_X12_comes_309K_L8 {fu : Nat} (hfu : 8589934592 ≤ fu) (r0 : z_M) (a1 : Int) (a2 : Int) (b1 : 0 ≤ a1 ∧ a1 ≤ 199) (b2 : -2147483648 ≤ a2 ∧ a2 ≤ 2147483647) {k : z_M → Int → Int → z_O} (hk : ∀ (s' : z_M) (v3 : Int) (v4 : Int), z_CI s' → z_Fr R_X12_comes_309 r0 s' → ((-1) ≤ v3 ∧ v3 ≤ 199) → ((-1) ≤ v4 ∧ v4 ≤ 199) → (v3 = -1 ∨ (a1 ≤ v3 ∧ v3 < s' 309 20)) → (v4 = -1 ∨ (a1 ≤ v4 ∧ v4 < s' 309 20)) → (y_B s') → (s' 309 43 = 0 ∨ s' 309 36 = 0 ∨ (r0 309 36 ≠ 0 ∧ r0 309 43 ≠ 0)) → (r0 309 36 = 0 ∨ s' 309 36 ≠ 0) → (y_KM s') → z_T (k s' v3 v4) (P_X12_comes_309K r0 a1)) : ∀ (F : Nat) (s : z_M) (a3 : Int) (a4 : Int) (a5 : Int), z_CI s → z_Fr R_X12_comes_309 r0 s → ((-1) ≤ a3 ∧ a3 ≤ 199) → ((-1) ≤ a4 ∧ a4 ≤ 199) → (0 ≤ a5 ∧ a5 ≤ 200) → (a3 = -1 ∨ (a1 ≤ a3 ∧ a3 < s 309 20)) → (a4 = -1 ∨ (a1 ≤ a4 ∧ a4 < s 309 20)) → (y_B s) → (a1 ≤ a5) → (a5 ≤ s 309 20) → (s 309 43 = 0 ∨ s 309 36 = 0 ∨ (r0 309 36 ≠ 0 ∧ r0 309 43 ≠ 0)) → (r0 309 36 = 0 ∨ s 309 36 ≠ 0) → (y_KM s) → (2147483647 - a5 < (F : Int)) → z_T (fX12_comes_L8 fu 309 a1 a2 F s a3 a4 a5 k) (P_X12_comes_309K r0 a1) := by
  intro F
  induction F with
  | zero =>
    intro s a3 a4 a5 c f b3 b4 b5 i0 i1 i2 i3 i4 i5 i6 i7 hm
    have u54 := CI_b c (k := 309) (j := 20) bd_309_20
    have u55 := CI_b c (k := 309) (j := 36) bd_309_36
    have u56 := CI_b c (k := 309) (j := 43) bd_309_43
    have u57 := CI_b c (k := 316) (j := 0) bd_316_0
    exfalso; omega
  | succ F ih =>
    intro s a3 a4 a5 c f b3 b4 b5 i0 i1 i2 i3 i4 i5 i6 i7 hm
    refine T_of (fX12_comes_L8.eq_2 ..) ?_
    have u1 := CI_b c (k := 309) (j := 20) bd_309_20
    have u2 := CI_b c (k := 309) (j := 36) bd_309_36
    have u3 := CI_b c (k := 309) (j := 43) bd_309_43
    have u4 := CI_b c (k := 316) (j := 0) bd_316_0
    have t5 : s 309 20 = r0 309 20 := f 309 20 (by decide)
    have t6 : s 316 0 = r0 316 0 := f 316 0 (by decide)
    refine T_if1 (by decide +kernel) ?_
    refine T_leq (fun x7 e8 => ?_)
    have u9 := CI_b c (k := 309) (j := 20) bd_309_20
    refine T_ite (fun h10 => ?_) (fun h10 => ?_)
    · exact hk s a3 a4 c f (by omega) (by omega) (by omega) (by omega) i2 (by omega) (by omega) (by first | exact i7 | exact y_KM.z (by omega))
    · refine T_if1 (by decide +kernel) ?_
      refine T_useI (sf_X12_longAs_309K hfu s c a1 a5 (by omega) (by omega) i2 (by omega) (by omega) (by first | exact i7 | exact y_KM.z (by omega))) (fun v16 s11 hq => ?_)
      obtain ⟨c12, f13, o17, o18, o19, o20, ⟨x15, rfl, b21, b22⟩⟩ := hq
      refine T_vI ?_
      have f14 := z_Fr.tr (R := R_X12_comes_309) f f13 rs_X12_longAs_309__X12_comes_309
      have t23 : s11 309 20 = x7 := (f13 309 20 (by decide)).trans e8
      have t24 : s11 316 0 = s 316 0 := f13 316 0 (by decide)
      have u25 := CI_b c12 (k := 309) (j := 36) bd_309_36
      have u26 := CI_b c12 (k := 309) (j := 43) bd_309_43
      have r27 := y_B.fr i2 (f13 309 20 (by decide)) (f13 316 0 (by decide)) (fun b => f13 3220 b (nr_X12_longAs_309__3220 b)) (fun b => f13 3221 b (nr_X12_longAs_309__3221 b)) (fun b => f13 3222 b (nr_X12_longAs_309__3222 b)) (fun b => f13 361 b (nr_X12_longAs_309__361 b))
      refine T_ite (fun h28 => ?_) (fun h28 => ?_)
      · refine T_if1 (by decide +kernel) ?_
        refine T_leq (fun x29 e30 => ?_)
        have q31 : x7 = x29 := t23.symm.trans e30
        subst q31
        refine T_leq (fun x32 e33 => ?_)
        first | (have w34 := z_wx e33 (by omega)) | (have w34 := z_wr e33)
        refine T_ite (fun h35 => ?_) (fun h35 => ?_)
        · exact sj_X12_comes_309K_J55 hfu r0 s11 c12 f14 a1 a2 a5 a5 (by omega) (by omega) (by omega) (by omega) (by omega) r27 (by omega) (by omega) (by omega) (by omega) (by first | exact o20 | exact y_KM.z (by omega)) (2147483647 - a5) (by omega) (fun s' v3 v4 v5 c' f' w3 w4 w5 z0 z1 z2 z3 z4 z5 z6 z7 pg => ih s' v3 v4 v5 c' f' w3 w4 w5 z0 z1 z2 z3 z4 z5 z6 z7 (by omega)) hk
        · refine T_if1 (by decide +kernel) ?_
          refine T_useI (sf_X12_mayEnd_309K hfu s11 c12 a5 (by omega) r27 (by first | exact o20 | exact y_KM.z (by omega))) (fun v41 s36 hq => ?_)
          obtain ⟨c37, f38, o42, o43, o44, o45, ⟨x40, rfl, b46, b47⟩⟩ := hq
          refine T_vI ?_
          have f39 := z_Fr.tr (R := R_X12_comes_309) f14 f38 rs_X12_mayEnd_309__X12_comes_309
          have t48 : s36 309 20 = x7 := (f38 309 20 (by decide)).trans t23
          have t49 : s36 316 0 = s 316 0 := (f38 316 0 (by decide)).trans t24
          have u50 := CI_b c37 (k := 309) (j := 36) bd_309_36
          have u51 := CI_b c37 (k := 309) (j := 43) bd_309_43
          have r52 := y_B.fr r27 (f38 309 20 (by decide)) (f38 316 0 (by decide)) (fun b => f38 3220 b (nr_X12_mayEnd_309__3220 b)) (fun b => f38 3221 b (nr_X12_mayEnd_309__3221 b)) (fun b => f38 3222 b (nr_X12_mayEnd_309__3222 b)) (fun b => f38 361 b (nr_X12_mayEnd_309__361 b))
          clear t23
          clear t24
          refine T_ite (fun h53 => ?_) (fun h53 => ?_)
          · exact sj_X12_comes_309K_J58 hfu r0 s36 c37 f39 a1 a2 a3 a5 a5 (by omega) (by omega) (by omega) (by omega) (by omega) (by omega) (by omega) r52 (by omega) (by omega) (by omega) (by omega) (by first | exact o45 | exact y_KM.z (by omega)) (2147483647 - a5) (by omega) (fun s' v3 v4 v5 c' f' w3 w4 w5 z0 z1 z2 z3 z4 z5 z6 z7 pg => ih s' v3 v4 v5 c' f' w3 w4 w5 z0 z1 z2 z3 z4 z5 z6 z7 (by omega)) hk
          · exact sj_X12_comes_309K_J55 hfu r0 s36 c37 f39 a1 a2 a5 a5 (by omega) (by omega) (by omega) (by omega) (by omega) r52 (by omega) (by omega) (by omega) (by omega) (by first | exact o45 | exact y_KM.z (by omega)) (2147483647 - a5) (by omega) (fun s' v3 v4 v5 c' f' w3 w4 w5 z0 z1 z2 z3 z4 z5 z6 z7 pg => ih s' v3 v4 v5 c' f' w3 w4 w5 z0 z1 z2 z3 z4 z5 z6 z7 (by omega)) hk
      · exact sj_X12_comes_309K_J58 hfu r0 s11 c12 f14 a1 a2 a3 a4 a5 (by omega) (by omega) (by omega) (by omega) (by omega) (by omega) (by omega) r27 (by omega) (by omega) (by omega) (by omega) (by first | exact o20 | exact y_KM.z (by omega)) (2147483647 - a5) (by omega) (fun s' v3 v4 v5 c' f' w3 w4 w5 z0 z1 z2 z3 z4 z5 z6 z7 pg => ih s' v3 v4 v5 c' f' w3 w4 w5 z0 z1 z2 z3 z4 z5 z6 z7 (by omega)) hk
theorem sj_X12_comes_309K_J85 {fu : Nat} (hfu : 8589934592 ≤ fu) (r0 s : z_M) (c : z_CI s) (f : z_Fr R_X12_comes_309 r0 s) (t0 : Int) (a1 : Int) (d0 : 0 ≤ t0 ∧ t0 ≤ 199) (p0 : a1 ≤ t0) (p1 : t0 < s 309 20) (p2 : s 309 43 = 0 ∨ s 309 36 = 0 ∨ (r0 309 36 ≠ 0 ∧ r0 309 43 ≠ 0)) (p3 : r0 309 36 = 0 ∨ s 309 36 ≠ 0) (p4 : y_KM s) : z_T (fX12_comes_J85 fu s t0) (P_X12_comes_309K r0 a1) := by
  refine T_of (fX12_comes_J85.eq_1 ..) ?_
  have u1 := CI_b c (k := 309) (j := 20) bd_309_20
  have u2 := CI_b c (k := 309) (j := 36) bd_309_36
  have u3 := CI_b c (k := 309) (j := 43) bd_309_43
  have u4 := CI_b c (k := 316) (j := 0) bd_316_0
  have t5 : s 309 20 = r0 309 20 := f 309 20 (by decide)
  have t6 : s 316 0 = r0 316 0 := f 316 0 (by decide)
  exact T_ret ⟨c, f, (by omega), (by omega), (by first | exact p4 | exact y_KM.z (by omega)), ⟨t0, rfl, by omega, by omega, (by omega), (by omega)⟩⟩
theorem sf_X12_comes_309K {fu : Nat} (hfu : 8589934592 ≤ fu) (r0 : z_M) (c0 : z_CI r0) (a1 : Int) (a2 : Int) (b1 : 0 ≤ a1 ∧ a1 ≤ 199) (b2 : -2147483648 ≤ a2 ∧ a2 ≤ 2147483647) (p0 : y_B r0) (p1 : a1 < r0 309 20) (p2 : y_KM r0) : z_T (fX12_comes fu r0 309 a1 a2) (P_X12_comes_309K r0 a1) := by
  refine T_of (fX12_comes.eq_1 ..) ?_
  have u1 := CI_b c0 (k := 309) (j := 20) bd_309_20
  have u2 := CI_b c0 (k := 309) (j := 36) bd_309_36
  have u3 := CI_b c0 (k := 309) (j := 43) bd_309_43
  have u4 := CI_b c0 (k := 316) (j := 0) bd_316_0
  refine sl_X12_comes_309K_L8 hfu r0 a1 a2 (by omega) (by omega) (fun s5 y8 y9 c6 f7 b10 b11 g12 g13 g14 g15 g16 g17 => ?_) fu r0 (-1) (-1) a1 c0 z_Fr.rf (by omega) (by omega) (by omega) (by omega) (by omega) p0 (by omega) (by omega) (by omega) (by omega) (by first | exact p2 | exact y_KM.z (by omega)) (by omega)
  have u18 := CI_b c6 (k := 309) (j := 20) bd_309_20
  have u19 := CI_b c6 (k := 309) (j := 36) bd_309_36
  have u20 := CI_b c6 (k := 309) (j := 43) bd_309_43
  have u21 := CI_b c6 (k := 316) (j := 0) bd_316_0
  have t22 : s5 309 20 = r0 309 20 := f7 309 20 (by decide)
  have t23 : s5 316 0 = r0 316 0 := f7 316 0 (by decide)
  refine T_ite (fun h24 => ?_) (fun h24 => ?_)
  · refine T_ite (fun h25 => ?_) (fun h25 => ?_)
    · exact sj_X12_comes_309K_J85 hfu r0 s5 c6 f7 a1 a1 (by omega) (by omega) (by omega) (by omega) (by omega) (by first | exact g17 | exact y_KM.z (by omega))
    · exact sj_X12_comes_309K_J85 hfu r0 s5 c6 f7 y9 a1 (by omega) (by omega) (by omega) (by omega) (by omega) (by first | exact g17 | exact y_KM.z (by omega))
  · exact sj_X12_comes_309K_J85 hfu r0 s5 c6 f7 y8 a1 (by omega) (by omega) (by omega) (by omega) (by omega) (by first | exact g17 | exact y_KM.z (by omega))
abbrev P_X12_cost_309K (r0 : z_M) : z_V → z_M → Prop := fun v s' => z_CI s' ∧ z_Fr R_X12_cost_309 r0 s' ∧ (s' 309 43 = 0 ∨ s' 309 36 = 0 ∨ (r0 309 36 ≠ 0 ∧ r0 309 43 ≠ 0)) ∧ (r0 309 36 = 0 ∨ s' 309 36 ≠ 0) ∧ (y_KM s') ∧ (∃ x, v = vL x ∧ -9223372036854775808 ≤ x ∧ x ≤ 9223372036854775807)
theorem sj_X12_cost_309K_J49 {fu : Nat} (hfu : 8589934592 ≤ fu) (r0 s : z_M) (c : z_CI s) (f : z_Fr R_X12_cost_309 r0 s) (t0 : Int) (d0 : -9223372036854775808 ≤ t0 ∧ t0 ≤ 9223372036854775807) (p0 : s 309 43 = 0 ∨ s 309 36 = 0 ∨ (r0 309 36 ≠ 0 ∧ r0 309 43 ≠ 0)) (p1 : r0 309 36 = 0 ∨ s 309 36 ≠ 0) (p2 : y_KM s) : z_T (fX12_cost_J49 fu s t0) (P_X12_cost_309K r0) := by
  refine T_of (fX12_cost_J49.eq_1 ..) ?_
  have u1 := CI_b c (k := 309) (j := 20) bd_309_20
  have u2 := CI_b c (k := 309) (j := 36) bd_309_36
  have u3 := CI_b c (k := 309) (j := 43) bd_309_43
  have u4 := CI_b c (k := 316) (j := 0) bd_316_0
  have t5 : s 309 20 = r0 309 20 := f 309 20 (by decide)
  have t6 : s 316 0 = r0 316 0 := f 316 0 (by decide)
  exact T_ret ⟨c, f, (by omega), (by omega), (by first | exact p2 | exact y_KM.z (by omega)), ⟨t0, rfl, by omega, by omega⟩⟩
theorem sf_X12_cost_309K {fu : Nat} (hfu : 8589934592 ≤ fu) (r0 : z_M) (c0 : z_CI r0) (a1 : Int) (a2 : Int) (a3 : Int) (b1 : 0 ≤ a1 ∧ a1 ≤ 199) (b2 : 0 ≤ a2 ∧ a2 ≤ 199) (b3 : -2147483648 ≤ a3 ∧ a3 ≤ 2147483647) (p0 : y_B r0) (p1 : a1 ≤ a2) (p2 : a2 < r0 309 20) (p3 : y_KM r0) : z_T (fX12_cost fu r0 309 a1 a2 a3) (P_X12_cost_309K r0) := by
  refine T_of (fX12_cost.eq_1 ..) ?_
  have u1 := CI_b c0 (k := 309) (j := 20) bd_309_20
  have u2 := CI_b c0 (k := 309) (j := 36) bd_309_36
  have u3 := CI_b c0 (k := 309) (j := 43) bd_309_43
  have u4 := CI_b c0 (k := 316) (j := 0) bd_316_0
  refine T_if1 (by decide +kernel) ?_
  refine T_useI (sf_X12_longAs_309K hfu r0 c0 a1 a2 (by omega) (by omega) p0 (by omega) (by omega) (by first | exact p3 | exact y_KM.z (by omega))) (fun v10 s5 hq => ?_)
  obtain ⟨c6, f7, o11, o12, o13, o14, ⟨x9, rfl, b15, b16⟩⟩ := hq
  refine T_vI ?_
  have f8 := z_Fr.tr (R := R_X12_cost_309) z_Fr.rf f7 rs_X12_longAs_309__X12_cost_309
  have t17 : s5 309 20 = r0 309 20 := f7 309 20 (by decide)
  have t18 : s5 316 0 = r0 316 0 := f7 316 0 (by decide)
  have u19 := CI_b c6 (k := 309) (j := 36) bd_309_36
  have u20 := CI_b c6 (k := 309) (j := 43) bd_309_43
  have r21 := y_B.fr p0 (f7 309 20 (by decide)) (f7 316 0 (by decide)) (fun b => f7 3220 b (nr_X12_longAs_309__3220 b)) (fun b => f7 3221 b (nr_X12_longAs_309__3221 b)) (fun b => f7 3222 b (nr_X12_longAs_309__3222 b)) (fun b => f7 361 b (nr_X12_longAs_309__361 b))
  refine T_ite (fun h22 => ?_) (fun h22 => ?_)
  · refine T_if1 (by decide +kernel) ?_
    refine T_leq (fun x23 e24 => ?_)
    have u25 := CI_b c6 (k := 309) (j := 20) bd_309_20
    refine T_leq (fun x26 e27 => ?_)
    first | (have w28 := z_wx e27 (by omega)) | (have w28 := z_wr e27)
    refine T_ite (fun h29 => ?_) (fun h29 => ?_)
    · refine T_leq (fun x30 e31 => ?_)
      first | (have w32 := z_wx e31 (by omega)) | (have w32 := z_wr e31)
      refine T_leq (fun x33 e34 => ?_)
      have q35 : x30 = x33 := e31.symm.trans e34
      subst q35
      refine T_leq (fun x36 e37 => ?_)
      have w38 := z_wlr e37
      exact sj_X12_cost_309K_J49 hfu r0 s5 c6 f8 x36 (by omega) (by omega) (by omega) (by first | exact o14 | exact y_KM.z (by omega))
    · exact sj_X12_cost_309K_J49 hfu r0 s5 c6 f8 0 (by omega) (by omega) (by omega) (by first | exact o14 | exact y_KM.z (by omega))
  · refine T_leq (fun x39 e40 => ?_)
    first | (have w41 := z_wx e40 (by omega)) | (have w41 := z_wr e40)
    refine T_leq (fun x42 e43 => ?_)
    have w44 := z_wlr e43
    exact T_ret ⟨c6, f8, (by omega), (by omega), (by first | exact o14 | exact y_KM.z (by omega)), ⟨x42, rfl, by omega, by omega⟩⟩
abbrev P_X12_laysBest_309K (r0 : z_M) : z_V → z_M → Prop := fun v s' => z_CI s' ∧ z_Fr R_X12_laysBest_309 r0 s' ∧ (y_N s' 0) ∧ (s' 309 43 = 0 ∨ s' 309 36 = 0 ∨ (r0 309 36 ≠ 0 ∧ r0 309 43 ≠ 0)) ∧ (r0 309 36 = 0 ∨ s' 309 36 ≠ 0) ∧ (y_KM s') ∧ (v = vN)
theorem nr_X12_cost_309__312 (b : Int) : ¬ R_X12_cost_309 312 b := by
  unfold R_X12_cost_309; omega
theorem nr_X12_cost_309__331 (b : Int) : ¬ R_X12_cost_309 331 b := by
  unfold R_X12_cost_309; omega
theorem nr_X12_cost_309__346 (b : Int) : ¬ R_X12_cost_309 346 b := by
  unfold R_X12_cost_309; omega
theorem nr_X12_cost_309__391 (b : Int) : ¬ R_X12_cost_309 391 b := by
  unfold R_X12_cost_309; omega
theorem nz_X12_cost_309__407_606 (a b : Int) (h : 407 ≤ a ∧ a ≤ 606) : ¬ R_X12_cost_309 a b := by
  unfold R_X12_cost_309; omega
theorem nz_X12_cost_309__3220_3223 (a b : Int) (h : 3220 ≤ a ∧ a ≤ 3223) : ¬ R_X12_cost_309 a b := by
  unfold R_X12_cost_309; omega
theorem sj_X12_laysBest_309K_J122 {fu : Nat} (hfu : 8589934592 ≤ fu) (r0 s : z_M) (c : z_CI s) (f : z_Fr R_X12_laysBest_309 r0 s) (a1 : Int) (a2 : Int) (a3 : Int) (b1 : -2147483648 ≤ a1 ∧ a1 ≤ 2147483647) (b2 : 0 ≤ a2 ∧ a2 ≤ 199) (b3 : 0 ≤ a3 ∧ a3 ≤ 199) (p0 : a2 ≤ a3) (p1 : a3 < s 309 20) (p2 : y_N s (a2 + 1)) (p3 : y_B s) (p4 : y_X s a2 (a3 + 1)) (p5 : s 309 43 = 0 ∨ s 309 36 = 0 ∨ (r0 309 36 ≠ 0 ∧ r0 309 43 ≠ 0)) (p6 : r0 309 36 = 0 ∨ s 309 36 ≠ 0) (p7 : y_KM s) (M : Int) (pm : 2147483647 - a3 ≤ M) {r : z_M → Int → z_O} {k : z_M → z_O} (hr : ∀ (s' : z_M) (v3 : Int), z_CI s' → z_Fr R_X12_laysBest_309 r0 s' → (0 ≤ v3 ∧ v3 ≤ 200) → (y_X s' a2 v3) → (y_N s' (a2 + 1)) → (a2 ≤ v3) → (v3 ≤ s' 309 20) → (a2 < s' 309 20) → (y_B s') → (s' 309 43 = 0 ∨ s' 309 36 = 0 ∨ (r0 309 36 ≠ 0 ∧ r0 309 43 ≠ 0)) → (r0 309 36 = 0 ∨ s' 309 36 ≠ 0) → (y_KM s') → (2147483647 - v3 < M) → z_T (r s' v3) (P_X12_laysBest_309K r0)) (hk : ∀ (s' : z_M), z_CI s' → z_Fr R_X12_laysBest_309 r0 s' → (y_N s' a2) → (a2 < s' 309 20) → (y_B s') → (s' 309 43 = 0 ∨ s' 309 36 = 0 ∨ (r0 309 36 ≠ 0 ∧ r0 309 43 ≠ 0)) → (r0 309 36 = 0 ∨ s' 309 36 ≠ 0) → (y_KM s') → z_T (k s') (P_X12_laysBest_309K r0)) : z_T (fX12_laysBest_J122 fu s 309 a1 a2 a3 r k) (P_X12_laysBest_309K r0) := by
  refine T_of (fX12_laysBest_J122.eq_1 ..) ?_
  have u1 := CI_b c (k := 309) (j := 20) bd_309_20
  have u2 := CI_b c (k := 309) (j := 36) bd_309_36
  have u3 := CI_b c (k := 309) (j := 43) bd_309_43
  have u4 := CI_b c (k := 316) (j := 0) bd_316_0
  have t5 : s 309 20 = r0 309 20 := f 309 20 (by decide)
  have t6 : s 316 0 = r0 316 0 := f 316 0 (by decide)
  refine T_leq (fun x7 e8 => ?_)
  first | (have w9 := z_wx e8 (by omega)) | (have w9 := z_wr e8)
  exact hr s x7 c f (by omega) (by first | exact y_X.cg p4 (by omega) (by omega) | exact y_X.sk p4 (by omega) (by omega) | exact y_X.ne p4 (by omega) (by omega) | exact y_X.st (by omega)) (by first | exact y_N.cg p2 (by omega) | exact y_N.z (by omega) | exact y_N.dn p2 p4 (by omega) (by omega) (by omega)) (by omega) (by omega) (by omega) p3 (by omega) (by omega) (by first | exact p7 | exact y_KM.z (by omega)) (by omega)
theorem sj_X12_laysBest_309K_J107 {fu : Nat} (hfu : 8589934592 ≤ fu) (r0 s : z_M) (c : z_CI s) (f : z_Fr R_X12_laysBest_309 r0 s) (a1 : Int) (a2 : Int) (a3 : Int) (a4 : Int) (b1 : -2147483648 ≤ a1 ∧ a1 ≤ 2147483647) (b2 : 0 ≤ a2 ∧ a2 ≤ 199) (b3 : 0 ≤ a3 ∧ a3 ≤ 199) (b4 : -9223372036854775808 ≤ a4 ∧ a4 ≤ 9223372036854775807) (p0 : a2 ≤ a3) (p1 : a3 < s 309 20) (p2 : y_N s (a2 + 1)) (p3 : y_B s) (p4 : y_X s a2 a3) (p5 : s 309 43 = 0 ∨ s 309 36 = 0 ∨ (r0 309 36 ≠ 0 ∧ r0 309 43 ≠ 0)) (p6 : r0 309 36 = 0 ∨ s 309 36 ≠ 0) (p7 : y_KM s) (M : Int) (pm : 2147483647 - a3 ≤ M) {r : z_M → Int → z_O} {k : z_M → z_O} (hr : ∀ (s' : z_M) (v3 : Int), z_CI s' → z_Fr R_X12_laysBest_309 r0 s' → (0 ≤ v3 ∧ v3 ≤ 200) → (y_X s' a2 v3) → (y_N s' (a2 + 1)) → (a2 ≤ v3) → (v3 ≤ s' 309 20) → (a2 < s' 309 20) → (y_B s') → (s' 309 43 = 0 ∨ s' 309 36 = 0 ∨ (r0 309 36 ≠ 0 ∧ r0 309 43 ≠ 0)) → (r0 309 36 = 0 ∨ s' 309 36 ≠ 0) → (y_KM s') → (2147483647 - v3 < M) → z_T (r s' v3) (P_X12_laysBest_309K r0)) (hk : ∀ (s' : z_M), z_CI s' → z_Fr R_X12_laysBest_309 r0 s' → (y_N s' a2) → (a2 < s' 309 20) → (y_B s') → (s' 309 43 = 0 ∨ s' 309 36 = 0 ∨ (r0 309 36 ≠ 0 ∧ r0 309 43 ≠ 0)) → (r0 309 36 = 0 ∨ s' 309 36 ≠ 0) → (y_KM s') → z_T (k s') (P_X12_laysBest_309K r0)) : z_T (fX12_laysBest_J107 fu s 309 a1 a2 a3 a4 r k) (P_X12_laysBest_309K r0) := by
  refine T_of (fX12_laysBest_J107.eq_1 ..) ?_
  have u1 := CI_b c (k := 309) (j := 20) bd_309_20
  have u2 := CI_b c (k := 309) (j := 36) bd_309_36
  have u3 := CI_b c (k := 309) (j := 43) bd_309_43
  have u4 := CI_b c (k := 316) (j := 0) bd_316_0
  have t5 : s 309 20 = r0 309 20 := f 309 20 (by decide)
  have t6 : s 316 0 = r0 316 0 := f 316 0 (by decide)
  refine T_if1 (by decide +kernel) ?_
  refine T_let 3439 (by decide +kernel) ?_
  refine T_if1 (z_ixl (n := 201) (by decide +kernel) (by omega) (by omega)) ?_
  refine T_upg c (bdr_3439 a2) (by omega) (fun s7 c8 g10 g11 e12 => ?_)
  have f9 := z_Fr.up (R := R_X12_laysBest_309) f g10 (fun _ => (Or.inl (⟨by decide, by decide⟩)))
  have t13 : s7 309 20 = s 309 20 := g10 309 20 (by decide)
  have t14 : s7 309 36 = s 309 36 := g10 309 36 (by decide)
  have t15 : s7 309 43 = s 309 43 := g10 309 43 (by decide)
  have t16 : s7 316 0 = s 316 0 := g10 316 0 (by decide)
  have r17 := y_N.fr p2 (g10 309 20 (by decide)) (fun b => g10 3440 b (by decide))
  have r18 := y_B.fr p3 (g10 309 20 (by decide)) (g10 316 0 (by decide)) (fun b => g10 3220 b (by decide)) (fun b => g10 3221 b (by decide)) (fun b => g10 3222 b (by decide)) (fun b => g10 361 b (by decide))
  have r19 := y_KM.fr p7 (g10 309 20 (by decide)) (g10 309 36 (by decide)) (g10 309 38 (by decide)) (g10 309 39 (by decide)) (fun b => g10 312 b (by decide)) (fun b => g10 331 b (by decide)) (fun b => g10 346 b (by decide)) (fun b => g10 361 b (by decide)) (fun b => g10 391 b (by decide)) (fun a b h => g10 a b (by omega)) (fun a b h => g10 a b (by omega)) (fun a b h => g10 a b (by omega))
  refine T_if1 (by decide +kernel) ?_
  refine T_let 3440 (by decide +kernel) ?_
  refine T_if1 (z_ixl (n := 200) (by decide +kernel) (by omega) (by omega)) ?_
  refine T_upg c8 (bdr_3440 a2) (by omega) (fun s20 c21 g23 g24 e25 => ?_)
  have f22 := z_Fr.up (R := R_X12_laysBest_309) f9 g23 (fun _ => (Or.inl (⟨by decide, by decide⟩)))
  have t26 : s20 309 20 = s 309 20 := (g23 309 20 (by decide)).trans t13
  have t27 : s20 309 36 = s 309 36 := (g23 309 36 (by decide)).trans t14
  have t28 : s20 309 43 = s 309 43 := (g23 309 43 (by decide)).trans t15
  have t29 : s20 316 0 = s 316 0 := (g23 316 0 (by decide)).trans t16
  have r30 := y_B.fr r18 (g23 309 20 (by decide)) (g23 316 0 (by decide)) (fun b => g23 3220 b (by decide)) (fun b => g23 3221 b (by decide)) (fun b => g23 3222 b (by decide)) (fun b => g23 361 b (by decide))
  have r31 := y_KM.fr r19 (g23 309 20 (by decide)) (g23 309 36 (by decide)) (g23 309 38 (by decide)) (g23 309 39 (by decide)) (fun b => g23 312 b (by decide)) (fun b => g23 331 b (by decide)) (fun b => g23 346 b (by decide)) (fun b => g23 361 b (by decide)) (fun b => g23 391 b (by decide)) (fun a b h => g23 a b (by omega)) (fun a b h => g23 a b (by omega)) (fun a b h => g23 a b (by omega))
  have r32 := y_N.st r17 (g23 309 20 (by decide)) g24 (by omega)
  clear t13
  clear t14
  clear t15
  clear t16
  exact sj_X12_laysBest_309K_J122 hfu r0 s20 c21 f22 a1 a2 a3 (by omega) (by omega) (by omega) (by omega) (by omega) (by first | exact y_N.cg r32 (by omega) | exact y_N.z (by omega)) r30 (by first | exact y_X.st (by omega)) (by omega) (by omega) (by first | exact r31 | exact y_KM.z (by omega)) M (by omega) (fun s' v3 c' f' w3 z0 z1 z2 z3 z4 z5 z6 z7 z8 pg => hr s' v3 c' f' w3 z0 z1 z2 z3 z4 z5 z6 z7 z8 (by omega)) hk
theorem sj_X12_laysBest_309K_J61 {fu : Nat} (hfu : 8589934592 ≤ fu) (r0 s : z_M) (c : z_CI s) (f : z_Fr R_X12_laysBest_309 r0 s) (a1 : Int) (a2 : Int) (a3 : Int) (b1 : -2147483648 ≤ a1 ∧ a1 ≤ 2147483647) (b2 : 0 ≤ a2 ∧ a2 ≤ 199) (b3 : 0 ≤ a3 ∧ a3 ≤ 199) (p0 : a2 ≤ a3) (p1 : a3 < s 309 20) (p2 : y_N s (a2 + 1)) (p3 : y_B s) (p4 : y_X s a2 a3) (p5 : s 309 43 = 0 ∨ s 309 36 = 0 ∨ (r0 309 36 ≠ 0 ∧ r0 309 43 ≠ 0)) (p6 : r0 309 36 = 0 ∨ s 309 36 ≠ 0) (p7 : y_KM s) (M : Int) (pm : 2147483647 - a3 ≤ M) {r : z_M → Int → z_O} {k : z_M → z_O} (hr : ∀ (s' : z_M) (v3 : Int), z_CI s' → z_Fr R_X12_laysBest_309 r0 s' → (0 ≤ v3 ∧ v3 ≤ 200) → (y_X s' a2 v3) → (y_N s' (a2 + 1)) → (a2 ≤ v3) → (v3 ≤ s' 309 20) → (a2 < s' 309 20) → (y_B s') → (s' 309 43 = 0 ∨ s' 309 36 = 0 ∨ (r0 309 36 ≠ 0 ∧ r0 309 43 ≠ 0)) → (r0 309 36 = 0 ∨ s' 309 36 ≠ 0) → (y_KM s') → (2147483647 - v3 < M) → z_T (r s' v3) (P_X12_laysBest_309K r0)) (hk : ∀ (s' : z_M), z_CI s' → z_Fr R_X12_laysBest_309 r0 s' → (y_N s' a2) → (a2 < s' 309 20) → (y_B s') → (s' 309 43 = 0 ∨ s' 309 36 = 0 ∨ (r0 309 36 ≠ 0 ∧ r0 309 43 ≠ 0)) → (r0 309 36 = 0 ∨ s' 309 36 ≠ 0) → (y_KM s') → z_T (k s') (P_X12_laysBest_309K r0)) : z_T (fX12_laysBest_J61 fu s 309 a1 a2 a3 r k) (P_X12_laysBest_309K r0) := by
  refine T_of (fX12_laysBest_J61.eq_1 ..) ?_
  have u1 := CI_b c (k := 309) (j := 20) bd_309_20
  have u2 := CI_b c (k := 309) (j := 36) bd_309_36
  have u3 := CI_b c (k := 309) (j := 43) bd_309_43
  have u4 := CI_b c (k := 316) (j := 0) bd_316_0
  have t5 : s 309 20 = r0 309 20 := f 309 20 (by decide)
  have t6 : s 316 0 = r0 316 0 := f 316 0 (by decide)
  refine T_if1 (by decide +kernel) ?_
  refine T_useL (sf_X12_cost_309K hfu s c a2 a3 a1 (by omega) (by omega) (by omega) p3 (by omega) (by omega) (by first | exact p7 | exact y_KM.z (by omega))) (fun v12 s7 hq => ?_)
  obtain ⟨c8, f9, o13, o14, o15, ⟨x11, rfl, b16, b17⟩⟩ := hq
  refine T_vL ?_
  have f10 := z_Fr.tr (R := R_X12_laysBest_309) f f9 rs_X12_cost_309__X12_laysBest_309
  have t18 : s7 309 20 = s 309 20 := f9 309 20 (by decide)
  have t19 : s7 316 0 = s 316 0 := f9 316 0 (by decide)
  have u20 := CI_b c8 (k := 309) (j := 36) bd_309_36
  have u21 := CI_b c8 (k := 309) (j := 43) bd_309_43
  have r22 := y_N.fr p2 (f9 309 20 (by decide)) (fun b => f9 3440 b (nr_X12_cost_309__3440 b))
  have r23 := y_B.fr p3 (f9 309 20 (by decide)) (f9 316 0 (by decide)) (fun b => f9 3220 b (nr_X12_cost_309__3220 b)) (fun b => f9 3221 b (nr_X12_cost_309__3221 b)) (fun b => f9 3222 b (nr_X12_cost_309__3222 b)) (fun b => f9 361 b (nr_X12_cost_309__361 b))
  have r24 := y_X.fr p4 (f9 309 20 (by decide)) (fun b => f9 3439 b (nr_X12_cost_309__3439 b)) (fun b => f9 3440 b (nr_X12_cost_309__3440 b))
  refine T_if1 (by decide +kernel) ?_
  refine T_let 3439 (by decide +kernel) ?_
  refine T_leq (fun x25 e26 => ?_)
  first | (have w27 := z_wx e26 (by omega)) | (have w27 := z_wr e26)
  refine T_if1 (z_ixl (n := 201) (by decide +kernel) (by omega) (by omega)) ?_
  refine T_leq (fun x28 e29 => ?_)
  have u30 := CI_b c8 (k := 3439) (j := x25) (bdr_3439 x25)
  refine T_leq (fun x31 e32 => ?_)
  have w33 := z_wlr e32
  refine T_if1 (by decide +kernel) ?_
  refine T_let 3439 (by decide +kernel) ?_
  refine T_if1 (z_ixl (n := 201) (by decide +kernel) (by omega) (by omega)) ?_
  refine T_leq (fun x34 e35 => ?_)
  have u36 := CI_b c8 (k := 3439) (j := a2) (bdr_3439 a2)
  refine T_leq (fun x37 e38 => ?_)
  have w39 : -1 ≤ x37 ∧ x37 ≤ 1 := by rw [← e38]; exact z_cmpb _ _
  have w40 := z_cmp3 x34 (-1)
  rw [e38] at w40
  refine T_ite (fun h41 => ?_) (fun h41 => ?_)
  · exact sj_X12_laysBest_309K_J107 hfu r0 s7 c8 f10 a1 a2 a3 x31 (by omega) (by omega) (by omega) (by omega) (by omega) (by omega) (by first | exact y_N.cg r22 (by omega) | exact y_N.z (by omega) | exact y_N.dn r22 r24 (by omega) (by omega) (by omega)) r23 (by first | exact y_X.cg r24 (by omega) (by omega) | exact y_X.sk r24 (by omega) (by omega) | exact y_X.ne r24 (by omega) (by omega) | exact y_X.st (by omega)) (by omega) (by omega) (by first | exact o15 | exact y_KM.z (by omega)) M (by omega) (fun s' v3 c' f' w3 z0 z1 z2 z3 z4 z5 z6 z7 z8 pg => hr s' v3 c' f' w3 z0 z1 z2 z3 z4 z5 z6 z7 z8 (by omega)) hk
  · refine T_if1 (by decide +kernel) ?_
    refine T_let 3439 (by decide +kernel) ?_
    refine T_if1 (z_ixl (n := 201) (by decide +kernel) (by omega) (by omega)) ?_
    refine T_leq (fun x42 e43 => ?_)
    have q44 : x34 = x42 := e35.symm.trans e43
    subst q44
    refine T_leq (fun x45 e46 => ?_)
    have w47 : -1 ≤ x45 ∧ x45 ≤ 1 := by rw [← e46]; exact z_cmpb _ _
    have w48 := z_cmp3 x31 x34
    rw [e46] at w48
    refine T_ite (fun h49 => ?_) (fun h49 => ?_)
    · exact sj_X12_laysBest_309K_J107 hfu r0 s7 c8 f10 a1 a2 a3 x31 (by omega) (by omega) (by omega) (by omega) (by omega) (by omega) (by first | exact y_N.cg r22 (by omega) | exact y_N.z (by omega) | exact y_N.dn r22 r24 (by omega) (by omega) (by omega)) r23 (by first | exact y_X.cg r24 (by omega) (by omega) | exact y_X.sk r24 (by omega) (by omega) | exact y_X.ne r24 (by omega) (by omega) | exact y_X.st (by omega)) (by omega) (by omega) (by first | exact o15 | exact y_KM.z (by omega)) M (by omega) (fun s' v3 c' f' w3 z0 z1 z2 z3 z4 z5 z6 z7 z8 pg => hr s' v3 c' f' w3 z0 z1 z2 z3 z4 z5 z6 z7 z8 (by omega)) hk
    · exact sj_X12_laysBest_309K_J122 hfu r0 s7 c8 f10 a1 a2 a3 (by omega) (by omega) (by omega) (by omega) (by omega) (by first | exact y_N.cg r22 (by omega) | exact y_N.z (by omega) | exact y_N.dn r22 r24 (by omega) (by omega) (by omega)) r23 (by first | exact y_X.cg r24 (by omega) (by omega) | exact y_X.sk r24 (by omega) (by omega) | exact y_X.ne r24 (by omega) (by omega) | exact y_X.st (by omega)) (by omega) (by omega) (by first | exact o15 | exact y_KM.z (by omega)) M (by omega) (fun s' v3 c' f' w3 z0 z1 z2 z3 z4 z5 z6 z7 z8 pg => hr s' v3 c' f' w3 z0 z1 z2 z3 z4 z5 z6 z7 z8 (by omega)) hk
theorem sl_X12_laysBest_309K_L32 {fu : Nat} (hfu : 8589934592 ≤ fu) (r0 : z_M) (a1 : Int) (a2 : Int) (b1 : -2147483648 ≤ a1 ∧ a1 ≤ 2147483647) (b2 : 0 ≤ a2 ∧ a2 ≤ 199) {k : z_M → z_O} (hk : ∀ (s' : z_M), z_CI s' → z_Fr R_X12_laysBest_309 r0 s' → (y_N s' a2) → (a2 < s' 309 20) → (y_B s') → (s' 309 43 = 0 ∨ s' 309 36 = 0 ∨ (r0 309 36 ≠ 0 ∧ r0 309 43 ≠ 0)) → (r0 309 36 = 0 ∨ s' 309 36 ≠ 0) → (y_KM s') → z_T (k s') (P_X12_laysBest_309K r0)) : ∀ (F : Nat) (s : z_M) (a3 : Int), z_CI s → z_Fr R_X12_laysBest_309 r0 s → (0 ≤ a3 ∧ a3 ≤ 200) → (y_X s a2 a3) → (y_N s (a2 + 1)) → (a2 ≤ a3) → (a3 ≤ s 309 20) → (a2 < s 309 20) → (y_B s) → (s 309 43 = 0 ∨ s 309 36 = 0 ∨ (r0 309 36 ≠ 0 ∧ r0 309 43 ≠ 0)) → (r0 309 36 = 0 ∨ s 309 36 ≠ 0) → (y_KM s) → (2147483647 - a3 < (F : Int)) → z_T (fX12_laysBest_L32 fu 309 a1 a2 F s a3 k) (P_X12_laysBest_309K r0) := by
  intro F
  induction F with
  | zero =>
    intro s a3 c f b3 i0 i1 i2 i3 i4 i5 i6 i7 i8 hm
    have u38 := CI_b c (k := 309) (j := 20) bd_309_20
    have u39 := CI_b c (k := 309) (j := 36) bd_309_36
    have u40 := CI_b c (k := 309) (j := 43) bd_309_43
    have u41 := CI_b c (k := 316) (j := 0) bd_316_0
    exfalso; omega
  | succ F ih =>
    intro s a3 c f b3 i0 i1 i2 i3 i4 i5 i6 i7 i8 hm
    refine T_of (fX12_laysBest_L32.eq_2 ..) ?_
    have u1 := CI_b c (k := 309) (j := 20) bd_309_20
    have u2 := CI_b c (k := 309) (j := 36) bd_309_36
    have u3 := CI_b c (k := 309) (j := 43) bd_309_43
    have u4 := CI_b c (k := 316) (j := 0) bd_316_0
    have t5 : s 309 20 = r0 309 20 := f 309 20 (by decide)
    have t6 : s 316 0 = r0 316 0 := f 316 0 (by decide)
    refine T_if1 (by decide +kernel) ?_
    refine T_leq (fun x7 e8 => ?_)
    have u9 := CI_b c (k := 309) (j := 20) bd_309_20
    refine T_ite (fun h10 => ?_) (fun h10 => ?_)
    · exact hk s c f (by first | exact y_N.cg i1 (by omega) | exact y_N.z (by omega) | exact y_N.dn i1 i0 (by omega) (by omega) (by omega)) (by omega) i5 (by omega) (by omega) (by first | exact i8 | exact y_KM.z (by omega))
    · refine T_if1 (by decide +kernel) ?_
      refine T_leq (fun x11 e12 => ?_)
      have q13 : x7 = x11 := e8.symm.trans e12
      subst q13
      refine T_leq (fun x14 e15 => ?_)
      first | (have w16 := z_wx e15 (by omega)) | (have w16 := z_wr e15)
      refine T_ite (fun h17 => ?_) (fun h17 => ?_)
      · exact sj_X12_laysBest_309K_J61 hfu r0 s c f a1 a2 a3 (by omega) (by omega) (by omega) (by omega) (by omega) (by first | exact y_N.cg i1 (by omega) | exact y_N.z (by omega) | exact y_N.dn i1 i0 (by omega) (by omega) (by omega)) i5 (by first | exact y_X.cg i0 (by omega) (by omega) | exact y_X.sk i0 (by omega) (by omega) | exact y_X.ne i0 (by omega) (by omega) | exact y_X.st (by omega)) (by omega) (by omega) (by first | exact i8 | exact y_KM.z (by omega)) (2147483647 - a3) (by omega) (fun s' v3 c' f' w3 z0 z1 z2 z3 z4 z5 z6 z7 z8 pg => ih s' v3 c' f' w3 z0 z1 z2 z3 z4 z5 z6 z7 z8 (by omega)) hk
      · refine T_if1 (by decide +kernel) ?_
        refine T_useI (sf_X12_mayEnd_309K hfu s c a3 (by omega) i5 (by first | exact i8 | exact y_KM.z (by omega))) (fun v23 s18 hq => ?_)
        obtain ⟨c19, f20, o24, o25, o26, o27, ⟨x22, rfl, b28, b29⟩⟩ := hq
        refine T_vI ?_
        have f21 := z_Fr.tr (R := R_X12_laysBest_309) f f20 rs_X12_mayEnd_309__X12_laysBest_309
        have t30 : s18 309 20 = x7 := (f20 309 20 (by decide)).trans e8
        have t31 : s18 316 0 = s 316 0 := f20 316 0 (by decide)
        have u32 := CI_b c19 (k := 309) (j := 36) bd_309_36
        have u33 := CI_b c19 (k := 309) (j := 43) bd_309_43
        have r34 := y_X.fr i0 (f20 309 20 (by decide)) (fun b => f20 3439 b (nr_X12_mayEnd_309__3439 b)) (fun b => f20 3440 b (nr_X12_mayEnd_309__3440 b))
        have r35 := y_N.fr i1 (f20 309 20 (by decide)) (fun b => f20 3440 b (nr_X12_mayEnd_309__3440 b))
        have r36 := y_B.fr i5 (f20 309 20 (by decide)) (f20 316 0 (by decide)) (fun b => f20 3220 b (nr_X12_mayEnd_309__3220 b)) (fun b => f20 3221 b (nr_X12_mayEnd_309__3221 b)) (fun b => f20 3222 b (nr_X12_mayEnd_309__3222 b)) (fun b => f20 361 b (nr_X12_mayEnd_309__361 b))
        refine T_ite (fun h37 => ?_) (fun h37 => ?_)
        · exact sj_X12_laysBest_309K_J61 hfu r0 s18 c19 f21 a1 a2 a3 (by omega) (by omega) (by omega) (by omega) (by omega) (by first | exact y_N.cg r35 (by omega) | exact y_N.z (by omega) | exact y_N.dn r35 r34 (by omega) (by omega) (by omega)) r36 (by first | exact y_X.cg r34 (by omega) (by omega) | exact y_X.sk r34 (by omega) (by omega) | exact y_X.ne r34 (by omega) (by omega) | exact y_X.st (by omega)) (by omega) (by omega) (by first | exact o27 | exact y_KM.z (by omega)) (2147483647 - a3) (by omega) (fun s' v3 c' f' w3 z0 z1 z2 z3 z4 z5 z6 z7 z8 pg => ih s' v3 c' f' w3 z0 z1 z2 z3 z4 z5 z6 z7 z8 (by omega)) hk
        · exact sj_X12_laysBest_309K_J122 hfu r0 s18 c19 f21 a1 a2 a3 (by omega) (by omega) (by omega) (by omega) (by omega) (by first | exact y_N.cg r35 (by omega) | exact y_N.z (by omega) | exact y_N.dn r35 r34 (by omega) (by omega) (by omega)) r36 (by first | exact y_X.cg r34 (by omega) (by omega) | exact y_X.sk r34 (by omega) (by omega) | exact y_X.ne r34 (by omega) (by omega) | exact y_X.st (by omega)) (by omega) (by omega) (by first | exact o27 | exact y_KM.z (by omega)) (2147483647 - a3) (by omega) (fun s' v3 c' f' w3 z0 z1 z2 z3 z4 z5 z6 z7 z8 pg => ih s' v3 c' f' w3 z0 z1 z2 z3 z4 z5 z6 z7 z8 (by omega)) hk
theorem sl_X12_laysBest_309K_L17 {fu : Nat} (hfu : 8589934592 ≤ fu) (r0 : z_M) (a1 : Int) (b1 : -2147483648 ≤ a1 ∧ a1 ≤ 2147483647) {k : z_M → z_O} (hk : ∀ (s' : z_M), z_CI s' → z_Fr R_X12_laysBest_309 r0 s' → (y_N s' 0) → (s' 309 43 = 0 ∨ s' 309 36 = 0 ∨ (r0 309 36 ≠ 0 ∧ r0 309 43 ≠ 0)) → (r0 309 36 = 0 ∨ s' 309 36 ≠ 0) → (y_KM s') → z_T (k s') (P_X12_laysBest_309K r0)) : ∀ (F : Nat) (s : z_M) (a2 : Int), z_CI s → z_Fr R_X12_laysBest_309 r0 s → ((-1) ≤ a2 ∧ a2 ≤ 199) → (y_N s (a2 + 1)) → (a2 < s 309 20) → (y_B s) → (s 309 43 = 0 ∨ s 309 36 = 0 ∨ (r0 309 36 ≠ 0 ∧ r0 309 43 ≠ 0)) → (r0 309 36 = 0 ∨ s 309 36 ≠ 0) → (y_KM s) → (a2 + 2147483648 < (F : Int)) → z_T (fX12_laysBest_L17 fu 309 a1 F s a2 k) (P_X12_laysBest_309K r0) := by
  intro F
  induction F with
  | zero =>
    intro s a2 c f b2 i0 i1 i2 i3 i4 i5 hm
    have u40 := CI_b c (k := 309) (j := 20) bd_309_20
    have u41 := CI_b c (k := 309) (j := 36) bd_309_36
    have u42 := CI_b c (k := 309) (j := 43) bd_309_43
    have u43 := CI_b c (k := 316) (j := 0) bd_316_0
    exfalso; omega
  | succ F ih =>
    intro s a2 c f b2 i0 i1 i2 i3 i4 i5 hm
    refine T_of (fX12_laysBest_L17.eq_2 ..) ?_
    have u1 := CI_b c (k := 309) (j := 20) bd_309_20
    have u2 := CI_b c (k := 309) (j := 36) bd_309_36
    have u3 := CI_b c (k := 309) (j := 43) bd_309_43
    have u4 := CI_b c (k := 316) (j := 0) bd_316_0
    have t5 : s 309 20 = r0 309 20 := f 309 20 (by decide)
    have t6 : s 316 0 = r0 316 0 := f 316 0 (by decide)
    refine T_ite (fun h7 => ?_) (fun h7 => ?_)
    · exact hk s c f (by first | exact y_N.cg i0 (by omega) | exact y_N.z (by omega)) (by omega) (by omega) (by first | exact i5 | exact y_KM.z (by omega))
    · refine T_if1 (by decide +kernel) ?_
      refine T_let 3439 (by decide +kernel) ?_
      refine T_if1 (z_ixl (n := 201) (by decide +kernel) (by omega) (by omega)) ?_
      refine T_upg c (bdr_3439 a2) (by omega) (fun s8 c9 g11 g12 e13 => ?_)
      have f10 := z_Fr.up (R := R_X12_laysBest_309) f g11 (fun _ => (Or.inl (⟨by decide, by decide⟩)))
      have t14 : s8 309 20 = s 309 20 := g11 309 20 (by decide)
      have t15 : s8 309 36 = s 309 36 := g11 309 36 (by decide)
      have t16 : s8 309 43 = s 309 43 := g11 309 43 (by decide)
      have t17 : s8 316 0 = s 316 0 := g11 316 0 (by decide)
      have r18 := y_N.fr i0 (g11 309 20 (by decide)) (fun b => g11 3440 b (by decide))
      have r19 := y_B.fr i2 (g11 309 20 (by decide)) (g11 316 0 (by decide)) (fun b => g11 3220 b (by decide)) (fun b => g11 3221 b (by decide)) (fun b => g11 3222 b (by decide)) (fun b => g11 361 b (by decide))
      have r20 := y_KM.fr i5 (g11 309 20 (by decide)) (g11 309 36 (by decide)) (g11 309 38 (by decide)) (g11 309 39 (by decide)) (fun b => g11 312 b (by decide)) (fun b => g11 331 b (by decide)) (fun b => g11 346 b (by decide)) (fun b => g11 361 b (by decide)) (fun b => g11 391 b (by decide)) (fun a b h => g11 a b (by omega)) (fun a b h => g11 a b (by omega)) (fun a b h => g11 a b (by omega))
      have r21 : y_X s8 a2 a2 := y_X.mk (by omega) (by omega)
      refine sl_X12_laysBest_309K_L32 hfu r0 a1 a2 (by omega) (by omega) (fun s22 c23 f24 g25 g26 g27 g28 g29 g30 => ?_) fu s8 a2 c9 f10 (by omega) (by first | exact y_X.cg r21 (by omega) (by omega) | exact y_X.sk r21 (by omega) (by omega) | exact y_X.ne r21 (by omega) (by omega) | exact y_X.st (by omega)) (by first | exact y_N.cg r18 (by omega) | exact y_N.z (by omega) | exact y_N.dn r18 r21 (by omega) (by omega) (by omega)) (by omega) (by omega) (by omega) r19 (by omega) (by omega) (by first | exact r20 | exact y_KM.z (by omega)) (by omega)
      have u31 := CI_b c23 (k := 309) (j := 20) bd_309_20
      have u32 := CI_b c23 (k := 309) (j := 36) bd_309_36
      have u33 := CI_b c23 (k := 309) (j := 43) bd_309_43
      have u34 := CI_b c23 (k := 316) (j := 0) bd_316_0
      have t35 : s22 309 20 = r0 309 20 := f24 309 20 (by decide)
      have t36 : s22 316 0 = r0 316 0 := f24 316 0 (by decide)
      refine T_leq (fun x37 e38 => ?_)
      first | (have w39 := z_wx e38 (by omega)) | (have w39 := z_wr e38)
      exact ih s22 x37 c23 f24 (by omega) (by first | exact y_N.cg g25 (by omega) | exact y_N.z (by omega)) (by omega) g27 (by omega) (by omega) (by first | exact g30 | exact y_KM.z (by omega)) (by omega)
theorem sf_X12_laysBest_309K {fu : Nat} (hfu : 8589934592 ≤ fu) (r0 : z_M) (c0 : z_CI r0) (a1 : Int) (b1 : -2147483648 ≤ a1 ∧ a1 ≤ 2147483647) (p0 : y_B r0) (p1 : y_KM r0) : z_T (fX12_laysBest fu r0 309 a1) (P_X12_laysBest_309K r0) := by
  refine T_of (fX12_laysBest.eq_1 ..) ?_
  have u1 := CI_b c0 (k := 309) (j := 20) bd_309_20
  have u2 := CI_b c0 (k := 309) (j := 36) bd_309_36
  have u3 := CI_b c0 (k := 309) (j := 43) bd_309_43
  have u4 := CI_b c0 (k := 316) (j := 0) bd_316_0
  refine T_if1 (by decide +kernel) ?_
  refine T_let 3439 (by decide +kernel) ?_
  refine T_if1 (by decide +kernel) ?_
  refine T_leq (fun x5 e6 => ?_)
  have u7 := CI_b c0 (k := 309) (j := 20) bd_309_20
  refine T_if1 (z_ixl (n := 201) (by decide +kernel) (by omega) (by omega)) ?_
  refine T_upg c0 (bdr_3439 x5) (by omega) (fun s8 c9 g11 g12 e13 => ?_)
  have f10 := z_Fr.up (R := R_X12_laysBest_309) z_Fr.rf g11 (fun _ => (Or.inl (⟨by decide, by decide⟩)))
  have t14 : s8 309 20 = x5 := (g11 309 20 (by decide)).trans e6
  have t15 : s8 309 36 = r0 309 36 := g11 309 36 (by decide)
  have t16 : s8 309 43 = r0 309 43 := g11 309 43 (by decide)
  have t17 : s8 316 0 = r0 316 0 := g11 316 0 (by decide)
  have r18 := y_B.fr p0 (g11 309 20 (by decide)) (g11 316 0 (by decide)) (fun b => g11 3220 b (by decide)) (fun b => g11 3221 b (by decide)) (fun b => g11 3222 b (by decide)) (fun b => g11 361 b (by decide))
  have r19 := y_KM.fr p1 (g11 309 20 (by decide)) (g11 309 36 (by decide)) (g11 309 38 (by decide)) (g11 309 39 (by decide)) (fun b => g11 312 b (by decide)) (fun b => g11 331 b (by decide)) (fun b => g11 346 b (by decide)) (fun b => g11 361 b (by decide)) (fun b => g11 391 b (by decide)) (fun a b h => g11 a b (by omega)) (fun a b h => g11 a b (by omega)) (fun a b h => g11 a b (by omega))
  refine T_if1 (by decide +kernel) ?_
  refine T_leq (fun x20 e21 => ?_)
  have q22 : x5 = x20 := t14.symm.trans e21
  subst q22
  refine T_leq (fun x23 e24 => ?_)
  first | (have w25 := z_wx e24 (by omega)) | (have w25 := z_wr e24)
  refine sl_X12_laysBest_309K_L17 hfu r0 a1 (by omega) (fun s26 c27 f28 g29 g30 g31 g32 => ?_) fu s8 x23 c9 f10 (by omega) (by first | exact y_N.z (by omega)) (by omega) r18 (by omega) (by omega) (by first | exact r19 | exact y_KM.z (by omega)) (by omega)
  have u33 := CI_b c27 (k := 309) (j := 20) bd_309_20
  have u34 := CI_b c27 (k := 309) (j := 36) bd_309_36
  have u35 := CI_b c27 (k := 309) (j := 43) bd_309_43
  have u36 := CI_b c27 (k := 316) (j := 0) bd_316_0
  have t37 : s26 309 20 = r0 309 20 := f28 309 20 (by decide)
  have t38 : s26 316 0 = r0 316 0 := f28 316 0 (by decide)
  exact T_ret ⟨c27, f28, (by first | exact y_N.cg g29 (by omega) | exact y_N.z (by omega)), (by omega), (by omega), (by first | exact g32 | exact y_KM.z (by omega)), rfl⟩
abbrev P_X12_breaks_309K (r0 : z_M) : z_V → z_M → Prop := fun v s' => z_CI s' ∧ z_Fr R_X12_breaks_309 r0 s' ∧ (s' 309 43 = 0 ∨ s' 309 36 = 0 ∨ (r0 309 36 ≠ 0 ∧ r0 309 43 ≠ 0)) ∧ (r0 309 36 = 0 ∨ s' 309 36 ≠ 0) ∧ (y_KM s') ∧ (∃ x, v = vI x ∧ 0 ≤ x ∧ x ≤ 200 ∧ (y_L s' x))
theorem nr_X12_comes_309__312 (b : Int) : ¬ R_X12_comes_309 312 b := by
  unfold R_X12_comes_309; omega
theorem nr_X12_comes_309__331 (b : Int) : ¬ R_X12_comes_309 331 b := by
  unfold R_X12_comes_309; omega
theorem nr_X12_comes_309__346 (b : Int) : ¬ R_X12_comes_309 346 b := by
  unfold R_X12_comes_309; omega
theorem nr_X12_comes_309__391 (b : Int) : ¬ R_X12_comes_309 391 b := by
  unfold R_X12_comes_309; omega
theorem nz_X12_comes_309__407_606 (a b : Int) (h : 407 ≤ a ∧ a ≤ 606) : ¬ R_X12_comes_309 a b := by
  unfold R_X12_comes_309; omega
theorem nz_X12_comes_309__3220_3223 (a b : Int) (h : 3220 ≤ a ∧ a ≤ 3223) : ¬ R_X12_comes_309 a b := by
  unfold R_X12_comes_309; omega
theorem sj_X12_breaks_309K_J57 {fu : Nat} (hfu : 8589934592 ≤ fu) (r0 s : z_M) (c : z_CI s) (f : z_Fr R_X12_breaks_309 r0 s) (a1 : Int) (a2 : Int) (a3 : Int) (t0 : Int) (b1 : -2147483648 ≤ a1 ∧ a1 ≤ 2147483647) (b2 : -2147483648 ≤ a2 ∧ a2 ≤ 2147483647) (b3 : 0 ≤ a3 ∧ a3 ≤ 200) (d0 : 0 ≤ t0 ∧ t0 ≤ 199) (p0 : y_LP s 3438 a3 (t0 + 1)) (p1 : a3 ≤ t0 + 1) (p2 : t0 < s 309 20) (p3 : y_M1 s a2) (p4 : y_B s) (p5 : s 309 43 = 0 ∨ s 309 36 = 0 ∨ (r0 309 36 ≠ 0 ∧ r0 309 43 ≠ 0)) (p6 : r0 309 36 = 0 ∨ s 309 36 ≠ 0) (p7 : y_KM s) (M : Int) (pm : 201 - t0 ≤ M) {r : z_M → Int → Int → z_O} {k : z_M → Int → z_O} (hr : ∀ (s' : z_M) (v3 : Int) (v4 : Int), z_CI s' → z_Fr R_X12_breaks_309 r0 s' → (0 ≤ v3 ∧ v3 ≤ 200) → (0 ≤ v4 ∧ v4 ≤ 200) → (y_LP s' 3438 v3 v4) → (v3 ≤ v4) → (v4 ≤ s' 309 20) → (y_M1 s' a2) → (y_B s') → (s' 309 43 = 0 ∨ s' 309 36 = 0 ∨ (r0 309 36 ≠ 0 ∧ r0 309 43 ≠ 0)) → (r0 309 36 = 0 ∨ s' 309 36 ≠ 0) → (y_KM s') → (201 - v4 < M) → z_T (r s' v3 v4) (P_X12_breaks_309K r0)) (hk : ∀ (s' : z_M) (v3 : Int), z_CI s' → z_Fr R_X12_breaks_309 r0 s' → (0 ≤ v3 ∧ v3 ≤ 200) → (y_LP s' 3438 v3 (s' 309 20)) → (v3 ≤ s' 309 20) → (s' 309 43 = 0 ∨ s' 309 36 = 0 ∨ (r0 309 36 ≠ 0 ∧ r0 309 43 ≠ 0)) → (r0 309 36 = 0 ∨ s' 309 36 ≠ 0) → (y_KM s') → z_T (k s' v3) (P_X12_breaks_309K r0)) : z_T (fX12_breaks_J57 fu s 309 a1 a2 a3 t0 r k) (P_X12_breaks_309K r0) := by
  refine T_of (fX12_breaks_J57.eq_1 ..) ?_
  have u1 := CI_b c (k := 309) (j := 20) bd_309_20
  have u2 := CI_b c (k := 309) (j := 36) bd_309_36
  have u3 := CI_b c (k := 309) (j := 43) bd_309_43
  have u4 := CI_b c (k := 309) (j := 44) bd_309_44
  have u5 := CI_b c (k := 316) (j := 0) bd_316_0
  have t6 : s 309 20 = r0 309 20 := f 309 20 (by decide)
  have t7 : s 309 44 = r0 309 44 := f 309 44 (by decide)
  have t8 : s 316 0 = r0 316 0 := f 316 0 (by decide)
  refine T_leq (fun x9 e10 => ?_)
  first | (have w11 := z_wx e10 (by omega)) | (have w11 := z_wr e10)
  exact hr s a3 x9 c f (by omega) (by omega) (by first | exact y_LP.cg p0 (by omega) (by omega) | exact y_LP.z (by omega) (by omega)) (by omega) (by omega) (by first | exact y_M1.cg p3 (by omega) | exact y_M1.no (by omega)) p4 (by omega) (by omega) (by first | exact p7 | exact y_KM.z (by omega)) (by omega)
theorem sl_X12_breaks_309K_L15 {fu : Nat} (hfu : 8589934592 ≤ fu) (r0 : z_M) (a1 : Int) (a2 : Int) (b1 : -2147483648 ≤ a1 ∧ a1 ≤ 2147483647) (b2 : -2147483648 ≤ a2 ∧ a2 ≤ 2147483647) {k : z_M → Int → z_O} (hk : ∀ (s' : z_M) (v3 : Int), z_CI s' → z_Fr R_X12_breaks_309 r0 s' → (0 ≤ v3 ∧ v3 ≤ 200) → (y_LP s' 3438 v3 (s' 309 20)) → (v3 ≤ s' 309 20) → (s' 309 43 = 0 ∨ s' 309 36 = 0 ∨ (r0 309 36 ≠ 0 ∧ r0 309 43 ≠ 0)) → (r0 309 36 = 0 ∨ s' 309 36 ≠ 0) → (y_KM s') → z_T (k s' v3) (P_X12_breaks_309K r0)) : ∀ (F : Nat) (s : z_M) (a3 : Int) (a4 : Int), z_CI s → z_Fr R_X12_breaks_309 r0 s → (0 ≤ a3 ∧ a3 ≤ 200) → (0 ≤ a4 ∧ a4 ≤ 200) → (y_LP s 3438 a3 a4) → (a3 ≤ a4) → (a4 ≤ s 309 20) → (y_M1 s a2) → (y_B s) → (s 309 43 = 0 ∨ s 309 36 = 0 ∨ (r0 309 36 ≠ 0 ∧ r0 309 43 ≠ 0)) → (r0 309 36 = 0 ∨ s 309 36 ≠ 0) → (y_KM s) → (201 - a4 < (F : Int)) → z_T (fX12_breaks_L15 fu 309 a1 a2 F s a3 a4 k) (P_X12_breaks_309K r0) := by
  intro F
  induction F with
  | zero =>
    intro s a3 a4 c f b3 b4 i0 i1 i2 i3 i4 i5 i6 i7 hm
    have u57 := CI_b c (k := 309) (j := 20) bd_309_20
    have u58 := CI_b c (k := 309) (j := 36) bd_309_36
    have u59 := CI_b c (k := 309) (j := 43) bd_309_43
    have u60 := CI_b c (k := 309) (j := 44) bd_309_44
    have u61 := CI_b c (k := 316) (j := 0) bd_316_0
    exfalso; omega
  | succ F ih =>
    intro s a3 a4 c f b3 b4 i0 i1 i2 i3 i4 i5 i6 i7 hm
    refine T_of (fX12_breaks_L15.eq_2 ..) ?_
    have u1 := CI_b c (k := 309) (j := 20) bd_309_20
    have u2 := CI_b c (k := 309) (j := 36) bd_309_36
    have u3 := CI_b c (k := 309) (j := 43) bd_309_43
    have u4 := CI_b c (k := 309) (j := 44) bd_309_44
    have u5 := CI_b c (k := 316) (j := 0) bd_316_0
    have t6 : s 309 20 = r0 309 20 := f 309 20 (by decide)
    have t7 : s 309 44 = r0 309 44 := f 309 44 (by decide)
    have t8 : s 316 0 = r0 316 0 := f 316 0 (by decide)
    refine T_if1 (by decide +kernel) ?_
    refine T_leq (fun x9 e10 => ?_)
    have u11 := CI_b c (k := 309) (j := 20) bd_309_20
    refine T_ite (fun h12 => ?_) (fun h12 => ?_)
    · exact hk s a3 c f (by omega) (by first | exact y_LP.cg i0 (by omega) (by omega) | exact y_LP.z (by omega) (by omega)) (by omega) (by omega) (by omega) (by first | exact i7 | exact y_KM.z (by omega))
    · refine T_if1 (by decide +kernel) ?_
      refine T_let 3438 (by decide +kernel) ?_
      refine T_if1 (z_ixl (n := 201) (by decide +kernel) (by omega) (by omega)) ?_
      refine T_upg c (bdr_3438 a3) (by omega) (fun s13 c14 g16 g17 e18 => ?_)
      have f15 := z_Fr.up (R := R_X12_breaks_309) f g16 (fun _ => (Or.inl (⟨by decide, by decide⟩)))
      have t19 : s13 309 20 = x9 := (g16 309 20 (by decide)).trans e10
      have t20 : s13 309 36 = s 309 36 := g16 309 36 (by decide)
      have t21 : s13 309 43 = s 309 43 := g16 309 43 (by decide)
      have t22 : s13 309 44 = s 309 44 := g16 309 44 (by decide)
      have t23 : s13 316 0 = s 316 0 := g16 316 0 (by decide)
      have r24 := y_M1.fr i3 (g16 309 20 (by decide)) (fun b => g16 3440 b (by decide))
      have r25 := y_B.fr i4 (g16 309 20 (by decide)) (g16 316 0 (by decide)) (fun b => g16 3220 b (by decide)) (fun b => g16 3221 b (by decide)) (fun b => g16 3222 b (by decide)) (fun b => g16 361 b (by decide))
      have r26 := y_KM.fr i7 (g16 309 20 (by decide)) (g16 309 36 (by decide)) (g16 309 38 (by decide)) (g16 309 39 (by decide)) (fun b => g16 312 b (by decide)) (fun b => g16 331 b (by decide)) (fun b => g16 346 b (by decide)) (fun b => g16 361 b (by decide)) (fun b => g16 391 b (by decide)) (fun a b h => g16 a b (by omega)) (fun a b h => g16 a b (by omega)) (fun a b h => g16 a b (by omega))
      have r27 : y_LP s13 3438 (a3 + 1) (a4 + 1) := y_LP.st i0 g17 e18 rfl rfl rfl (Int.le_refl _)
      refine T_leq (fun x28 e29 => ?_)
      first | (have w30 := z_wx e29 (by omega)) | (have w30 := z_wr e29)
      refine T_ite (fun h31 => ?_) (fun h31 => ?_)
      · refine T_if1 (by decide +kernel) ?_
        refine T_useI (sf_X12_comes_309K hfu s13 c14 a4 a1 (by omega) (by omega) r25 (by omega) (by first | exact r26 | exact y_KM.z (by omega))) (fun v37 s32 hq => ?_)
        obtain ⟨c33, f34, o38, o39, o40, ⟨x36, rfl, b41, b42, o43, o44⟩⟩ := hq
        refine T_vI ?_
        have f35 := z_Fr.tr (R := R_X12_breaks_309) f15 f34 rs_X12_comes_309__X12_breaks_309
        have t45 : s32 309 20 = x9 := (f34 309 20 (by decide)).trans t19
        have t46 : s32 309 44 = s 309 44 := (f34 309 44 (by decide)).trans t22
        have t47 : s32 316 0 = s 316 0 := (f34 316 0 (by decide)).trans t23
        have u48 := CI_b c33 (k := 309) (j := 36) bd_309_36
        have u49 := CI_b c33 (k := 309) (j := 43) bd_309_43
        have r50 := y_M1.fr r24 (f34 309 20 (by decide)) (fun b => f34 3440 b (nr_X12_comes_309__3440 b))
        have r51 := y_B.fr r25 (f34 309 20 (by decide)) (f34 316 0 (by decide)) (fun b => f34 3220 b (nr_X12_comes_309__3220 b)) (fun b => f34 3221 b (nr_X12_comes_309__3221 b)) (fun b => f34 3222 b (nr_X12_comes_309__3222 b)) (fun b => f34 361 b (nr_X12_comes_309__361 b))
        have r52 := y_LP.fr r27 (fun b => f34 3438 b (nr_X12_comes_309__3438 b))
        clear t19
        clear t22
        clear t23
        exact sj_X12_breaks_309K_J57 hfu r0 s32 c33 f35 a1 a2 x28 x36 (by omega) (by omega) (by omega) (by omega) (by first | exact y_LP.cg r52 (by omega) (by omega) | exact y_LP.z (by omega) (by omega)) (by omega) (by omega) (by first | exact y_M1.cg r50 (by omega) | exact y_M1.no (by omega)) r51 (by omega) (by omega) (by first | exact o40 | exact y_KM.z (by omega)) (201 - a4) (by omega) (fun s' v3 v4 c' f' w3 w4 z0 z1 z2 z3 z4 z5 z6 z7 pg => ih s' v3 v4 c' f' w3 w4 z0 z1 z2 z3 z4 z5 z6 z7 (by omega)) hk
      · refine T_if1 (by decide +kernel) ?_
        refine T_let 3440 (by decide +kernel) ?_
        have n53 := y_M1.at r24 (a := a4) (by omega) (by omega) (by omega)
        refine T_if1 (z_ixl (n := 200) (by decide +kernel) (by omega) (by omega)) ?_
        refine T_leq (fun x54 e55 => ?_)
        have u56 := CI_b c14 (k := 3440) (j := a4) (bdr_3440 a4)
        exact sj_X12_breaks_309K_J57 hfu r0 s13 c14 f15 a1 a2 x28 x54 (by omega) (by omega) (by omega) (by omega) (by first | exact y_LP.cg r27 (by omega) (by omega) | exact y_LP.z (by omega) (by omega)) (by omega) (by omega) (by first | exact y_M1.cg r24 (by omega) | exact y_M1.no (by omega)) r25 (by omega) (by omega) (by first | exact r26 | exact y_KM.z (by omega)) (201 - a4) (by omega) (fun s' v3 v4 c' f' w3 w4 z0 z1 z2 z3 z4 z5 z6 z7 pg => ih s' v3 v4 c' f' w3 w4 z0 z1 z2 z3 z4 z5 z6 z7 (by omega)) hk
theorem nr_X12_laysBest_309__312 (b : Int) : ¬ R_X12_laysBest_309 312 b := by
  unfold R_X12_laysBest_309; omega
theorem nr_X12_laysBest_309__331 (b : Int) : ¬ R_X12_laysBest_309 331 b := by
  unfold R_X12_laysBest_309; omega
theorem nr_X12_laysBest_309__346 (b : Int) : ¬ R_X12_laysBest_309 346 b := by
  unfold R_X12_laysBest_309; omega
theorem nr_X12_laysBest_309__391 (b : Int) : ¬ R_X12_laysBest_309 391 b := by
  unfold R_X12_laysBest_309; omega
theorem nz_X12_laysBest_309__407_606 (a b : Int) (h : 407 ≤ a ∧ a ≤ 606) : ¬ R_X12_laysBest_309 a b := by
  unfold R_X12_laysBest_309; omega
theorem nz_X12_laysBest_309__3220_3223 (a b : Int) (h : 3220 ≤ a ∧ a ≤ 3223) : ¬ R_X12_laysBest_309 a b := by
  unfold R_X12_laysBest_309; omega
theorem sf_X12_breaks_309K {fu : Nat} (hfu : 8589934592 ≤ fu) (r0 : z_M) (c0 : z_CI r0) (a1 : Int) (a2 : Int) (b1 : -2147483648 ≤ a1 ∧ a1 ≤ 2147483647) (b2 : -2147483648 ≤ a2 ∧ a2 ≤ 2147483647) (p0 : y_B r0) (p1 : y_KM r0) : z_T (fX12_breaks fu r0 309 a1 a2) (P_X12_breaks_309K r0) := by
  refine T_of (fX12_breaks.eq_1 ..) ?_
  have u1 := CI_b c0 (k := 309) (j := 20) bd_309_20
  have u2 := CI_b c0 (k := 309) (j := 36) bd_309_36
  have u3 := CI_b c0 (k := 309) (j := 43) bd_309_43
  have u4 := CI_b c0 (k := 309) (j := 44) bd_309_44
  have u5 := CI_b c0 (k := 316) (j := 0) bd_316_0
  refine T_ite (fun h6 => ?_) (fun h6 => ?_)
  · refine sl_X12_breaks_309K_L15 hfu r0 a1 a2 (by omega) (by omega) (fun s7 y10 c8 f9 b11 g12 g13 g14 g15 g16 => ?_) fu r0 0 0 c0 z_Fr.rf (by omega) (by omega) (by first | exact y_LP.z (by omega) (by omega)) (by omega) (by omega) (by first | exact y_M1.no (by omega)) p0 (by omega) (by omega) (by first | exact p1 | exact y_KM.z (by omega)) (by omega)
    have u17 := CI_b c8 (k := 309) (j := 20) bd_309_20
    have u18 := CI_b c8 (k := 309) (j := 36) bd_309_36
    have u19 := CI_b c8 (k := 309) (j := 43) bd_309_43
    have u20 := CI_b c8 (k := 309) (j := 44) bd_309_44
    have u21 := CI_b c8 (k := 316) (j := 0) bd_316_0
    have t22 : s7 309 20 = r0 309 20 := f9 309 20 (by decide)
    have t23 : s7 309 44 = r0 309 44 := f9 309 44 (by decide)
    have t24 : s7 316 0 = r0 316 0 := f9 316 0 (by decide)
    refine T_if1 (by decide +kernel) ?_
    refine T_let 3438 (by decide +kernel) ?_
    refine T_if1 (by decide +kernel) ?_
    refine T_leq (fun x25 e26 => ?_)
    have u27 := CI_b c8 (k := 309) (j := 20) bd_309_20
    refine T_if1 (z_ixl (n := 201) (by decide +kernel) (by omega) (by omega)) ?_
    refine T_upg c8 (bdr_3438 y10) (by omega) (fun s28 c29 g31 g32 e33 => ?_)
    have f30 := z_Fr.up (R := R_X12_breaks_309) f9 g31 (fun _ => (Or.inl (⟨by decide, by decide⟩)))
    have t34 : s28 309 20 = x25 := (g31 309 20 (by decide)).trans e26
    have t35 : s28 309 36 = s7 309 36 := g31 309 36 (by decide)
    have t36 : s28 309 43 = s7 309 43 := g31 309 43 (by decide)
    have t37 : s28 309 44 = s7 309 44 := g31 309 44 (by decide)
    have t38 : s28 316 0 = s7 316 0 := g31 316 0 (by decide)
    have r39 := y_KM.fr g16 (g31 309 20 (by decide)) (g31 309 36 (by decide)) (g31 309 38 (by decide)) (g31 309 39 (by decide)) (fun b => g31 312 b (by decide)) (fun b => g31 331 b (by decide)) (fun b => g31 346 b (by decide)) (fun b => g31 361 b (by decide)) (fun b => g31 391 b (by decide)) (fun a b h => g31 a b (by omega)) (fun a b h => g31 a b (by omega)) (fun a b h => g31 a b (by omega))
    have r40 := y_LP.end g12 g32 e33 rfl rfl (by omega)
    exact T_ret ⟨c29, f30, (by omega), (by omega), (by first | exact r39 | exact y_KM.z (by omega)), ⟨y10, rfl, by omega, by omega, (by first | exact y_L.of r40 (by omega))⟩⟩
  · refine T_if1 (by decide +kernel) ?_
    refine T_useN (sf_X12_laysBest_309K hfu r0 c0 a1 (by omega) p0 (by first | exact p1 | exact y_KM.z (by omega))) (fun v46 s41 hq => ?_)
    obtain ⟨c42, f43, o47, o48, o49, o50, rfl⟩ := hq
    refine T_vN ?_
    have f44 := z_Fr.tr (R := R_X12_breaks_309) z_Fr.rf f43 rs_X12_laysBest_309__X12_breaks_309
    have t53 : s41 309 20 = r0 309 20 := f43 309 20 (by decide)
    have t54 : s41 309 44 = r0 309 44 := f43 309 44 (by decide)
    have t55 : s41 316 0 = r0 316 0 := f43 316 0 (by decide)
    have u56 := CI_b c42 (k := 309) (j := 36) bd_309_36
    have u57 := CI_b c42 (k := 309) (j := 43) bd_309_43
    have r58 := y_B.fr p0 (f43 309 20 (by decide)) (f43 316 0 (by decide)) (fun b => f43 3220 b (nr_X12_laysBest_309__3220 b)) (fun b => f43 3221 b (nr_X12_laysBest_309__3221 b)) (fun b => f43 3222 b (nr_X12_laysBest_309__3222 b)) (fun b => f43 361 b (nr_X12_laysBest_309__361 b))
    refine sl_X12_breaks_309K_L15 hfu r0 a1 a2 (by omega) (by omega) (fun s59 y62 c60 f61 b63 g64 g65 g66 g67 g68 => ?_) fu s41 0 0 c42 f44 (by omega) (by omega) (by first | exact y_LP.z (by omega) (by omega)) (by omega) (by omega) (by first | exact y_M1.no (by omega) | exact y_M1.of o47 (by omega)) r58 (by omega) (by omega) (by first | exact o50 | exact y_KM.z (by omega)) (by omega)
    have u69 := CI_b c60 (k := 309) (j := 20) bd_309_20
    have u70 := CI_b c60 (k := 309) (j := 36) bd_309_36
    have u71 := CI_b c60 (k := 309) (j := 43) bd_309_43
    have u72 := CI_b c60 (k := 309) (j := 44) bd_309_44
    have u73 := CI_b c60 (k := 316) (j := 0) bd_316_0
    have t74 : s59 309 20 = r0 309 20 := f61 309 20 (by decide)
    have t75 : s59 309 44 = r0 309 44 := f61 309 44 (by decide)
    have t76 : s59 316 0 = r0 316 0 := f61 316 0 (by decide)
    refine T_if1 (by decide +kernel) ?_
    refine T_let 3438 (by decide +kernel) ?_
    refine T_if1 (by decide +kernel) ?_
    refine T_leq (fun x77 e78 => ?_)
    have u79 := CI_b c60 (k := 309) (j := 20) bd_309_20
    refine T_if1 (z_ixl (n := 201) (by decide +kernel) (by omega) (by omega)) ?_
    refine T_upg c60 (bdr_3438 y62) (by omega) (fun s80 c81 g83 g84 e85 => ?_)
    have f82 := z_Fr.up (R := R_X12_breaks_309) f61 g83 (fun _ => (Or.inl (⟨by decide, by decide⟩)))
    have t86 : s80 309 20 = x77 := (g83 309 20 (by decide)).trans e78
    have t87 : s80 309 36 = s59 309 36 := g83 309 36 (by decide)
    have t88 : s80 309 43 = s59 309 43 := g83 309 43 (by decide)
    have t89 : s80 309 44 = s59 309 44 := g83 309 44 (by decide)
    have t90 : s80 316 0 = s59 316 0 := g83 316 0 (by decide)
    have r91 := y_KM.fr g68 (g83 309 20 (by decide)) (g83 309 36 (by decide)) (g83 309 38 (by decide)) (g83 309 39 (by decide)) (fun b => g83 312 b (by decide)) (fun b => g83 331 b (by decide)) (fun b => g83 346 b (by decide)) (fun b => g83 361 b (by decide)) (fun b => g83 391 b (by decide)) (fun a b h => g83 a b (by omega)) (fun a b h => g83 a b (by omega)) (fun a b h => g83 a b (by omega))
    have r92 := y_LP.end g64 g84 e85 rfl rfl (by omega)
    exact T_ret ⟨c81, f82, (by omega), (by omega), (by first | exact r91 | exact y_KM.z (by omega)), ⟨y62, rfl, by omega, by omega, (by first | exact y_L.of r92 (by omega))⟩⟩
abbrev P_X12_isGap_309K (r0 : z_M) : z_V → z_M → Prop := fun v s' => z_CI s' ∧ z_Fr R_X12_isGap_309 r0 s' ∧ (s' 309 43 = 0 ∨ s' 309 36 = 0 ∨ (r0 309 36 ≠ 0 ∧ r0 309 43 ≠ 0)) ∧ (r0 309 36 = 0 ∨ s' 309 36 ≠ 0) ∧ (y_KM s') ∧ (∃ x, v = vI x ∧ 0 ≤ x ∧ x ≤ 1)
theorem sj_X12_isGap_309K_J64 {fu : Nat} (hfu : 8589934592 ≤ fu) (r0 s : z_M) (c : z_CI s) (f : z_Fr R_X12_isGap_309 r0 s) (t0 : Int) (d0 : 0 ≤ t0 ∧ t0 ≤ 1) (p0 : s 309 43 = 0 ∨ s 309 36 = 0 ∨ (r0 309 36 ≠ 0 ∧ r0 309 43 ≠ 0)) (p1 : r0 309 36 = 0 ∨ s 309 36 ≠ 0) (p2 : y_KM s) : z_T (fX12_isGap_J64 fu s t0) (P_X12_isGap_309K r0) := by
  refine T_of (fX12_isGap_J64.eq_1 ..) ?_
  have u1 := CI_b c (k := 309) (j := 20) bd_309_20
  have u2 := CI_b c (k := 309) (j := 36) bd_309_36
  have u3 := CI_b c (k := 309) (j := 43) bd_309_43
  have u4 := CI_b c (k := 316) (j := 0) bd_316_0
  have t5 : s 309 20 = r0 309 20 := f 309 20 (by decide)
  have t6 : s 316 0 = r0 316 0 := f 316 0 (by decide)
  refine T_if1 (by unfold z_bl; omega) ?_
  exact T_ret ⟨c, f, (by omega), (by omega), (by first | exact p2 | exact y_KM.z (by omega)), ⟨t0, rfl, by omega, by omega⟩⟩
theorem sj_X12_isGap_309K_J63 {fu : Nat} (hfu : 8589934592 ≤ fu) (r0 s : z_M) (c : z_CI s) (f : z_Fr R_X12_isGap_309 r0 s) (p0 : s 309 43 = 0 ∨ s 309 36 = 0 ∨ (r0 309 36 ≠ 0 ∧ r0 309 43 ≠ 0)) (p1 : r0 309 36 = 0 ∨ s 309 36 ≠ 0) (p2 : y_KM s) : z_T (fX12_isGap_J63 fu s) (P_X12_isGap_309K r0) := by
  refine T_of (fX12_isGap_J63.eq_1 ..) ?_
  have u1 := CI_b c (k := 309) (j := 20) bd_309_20
  have u2 := CI_b c (k := 309) (j := 36) bd_309_36
  have u3 := CI_b c (k := 309) (j := 43) bd_309_43
  have u4 := CI_b c (k := 316) (j := 0) bd_316_0
  have t5 : s 309 20 = r0 309 20 := f 309 20 (by decide)
  have t6 : s 316 0 = r0 316 0 := f 316 0 (by decide)
  exact sj_X12_isGap_309K_J64 hfu r0 s c f 0 (by omega) (by omega) (by omega) (by first | exact p2 | exact y_KM.z (by omega))
theorem sj_X12_isGap_309K_J59 {fu : Nat} (hfu : 8589934592 ≤ fu) (r0 s : z_M) (c : z_CI s) (f : z_Fr R_X12_isGap_309 r0 s) (p0 : s 309 43 = 0 ∨ s 309 36 = 0 ∨ (r0 309 36 ≠ 0 ∧ r0 309 43 ≠ 0)) (p1 : r0 309 36 = 0 ∨ s 309 36 ≠ 0) (p2 : y_KM s) : z_T (fX12_isGap_J59 fu s) (P_X12_isGap_309K r0) := by
  refine T_of (fX12_isGap_J59.eq_1 ..) ?_
  have u1 := CI_b c (k := 309) (j := 20) bd_309_20
  have u2 := CI_b c (k := 309) (j := 36) bd_309_36
  have u3 := CI_b c (k := 309) (j := 43) bd_309_43
  have u4 := CI_b c (k := 316) (j := 0) bd_316_0
  have t5 : s 309 20 = r0 309 20 := f 309 20 (by decide)
  have t6 : s 316 0 = r0 316 0 := f 316 0 (by decide)
  exact sj_X12_isGap_309K_J64 hfu r0 s c f 1 (by omega) (by omega) (by omega) (by first | exact p2 | exact y_KM.z (by omega))
theorem sf_X12_isGap_309K {fu : Nat} (hfu : 8589934592 ≤ fu) (r0 : z_M) (c0 : z_CI r0) (a1 : Int) (a2 : Int) (b1 : 0 ≤ a1 ∧ a1 ≤ 199) (b2 : 0 ≤ a2 ∧ a2 ≤ 199) (p0 : y_B r0) (p1 : a1 < r0 309 20) (p2 : a2 < r0 309 20) (p3 : y_KM r0) : z_T (fX12_isGap fu r0 309 a1 a2) (P_X12_isGap_309K r0) := by
  refine T_of (fX12_isGap.eq_1 ..) ?_
  have u1 := CI_b c0 (k := 309) (j := 20) bd_309_20
  have u2 := CI_b c0 (k := 309) (j := 36) bd_309_36
  have u3 := CI_b c0 (k := 309) (j := 43) bd_309_43
  have u4 := CI_b c0 (k := 316) (j := 0) bd_316_0
  refine T_ite (fun h5 => ?_) (fun h5 => ?_)
  · exact sj_X12_isGap_309K_J63 hfu r0 r0 c0 z_Fr.rf (by omega) (by omega) (by first | exact p3 | exact y_KM.z (by omega))
  · refine T_if1 (by decide +kernel) ?_
    refine T_useI (sf_X12_mayEnd_309K hfu r0 c0 a1 (by omega) p0 (by first | exact p3 | exact y_KM.z (by omega))) (fun v11 s6 hq => ?_)
    obtain ⟨c7, f8, o12, o13, o14, o15, ⟨x10, rfl, b16, b17⟩⟩ := hq
    refine T_vI ?_
    have f9 := z_Fr.tr (R := R_X12_isGap_309) z_Fr.rf f8 rs_X12_mayEnd_309__X12_isGap_309
    have t18 : s6 309 20 = r0 309 20 := f8 309 20 (by decide)
    have t19 : s6 316 0 = r0 316 0 := f8 316 0 (by decide)
    have u20 := CI_b c7 (k := 309) (j := 36) bd_309_36
    have u21 := CI_b c7 (k := 309) (j := 43) bd_309_43
    have r22 := y_B.fr p0 (f8 309 20 (by decide)) (f8 316 0 (by decide)) (fun b => f8 3220 b (nr_X12_mayEnd_309__3220 b)) (fun b => f8 3221 b (nr_X12_mayEnd_309__3221 b)) (fun b => f8 3222 b (nr_X12_mayEnd_309__3222 b)) (fun b => f8 361 b (nr_X12_mayEnd_309__361 b))
    refine T_ite (fun h23 => ?_) (fun h23 => ?_)
    · exact sj_X12_isGap_309K_J63 hfu r0 s6 c7 f9 (by omega) (by omega) (by first | exact o15 | exact y_KM.z (by omega))
    · refine T_if1 (by decide +kernel) ?_
      refine T_let 3224 (by decide +kernel) ?_
      refine T_if1 (z_ixl (n := 200) (by decide +kernel) (by omega) (by omega)) ?_
      refine T_leq (fun x24 e25 => ?_)
      have u26 := CI_b c7 (k := 3224) (j := a1) (bdr_3224 a1)
      refine T_ite (fun h27 => ?_) (fun h27 => ?_)
      · exact sj_X12_isGap_309K_J63 hfu r0 s6 c7 f9 (by omega) (by omega) (by first | exact o15 | exact y_KM.z (by omega))
      · refine T_if1 (by decide +kernel) ?_
        refine T_let 3224 (by decide +kernel) ?_
        refine T_leq (fun x28 e29 => ?_)
        first | (have w30 := z_wx e29 (by omega)) | (have w30 := z_wr e29)
        refine T_if1 (z_ixl (n := 200) (by decide +kernel) (by omega) (by omega)) ?_
        refine T_leq (fun x31 e32 => ?_)
        have u33 := CI_b c7 (k := 3224) (j := x28) (bdr_3224 x28)
        refine T_ite (fun h34 => ?_) (fun h34 => ?_)
        · exact sj_X12_isGap_309K_J63 hfu r0 s6 c7 f9 (by omega) (by omega) (by first | exact o15 | exact y_KM.z (by omega))
        · refine T_if1 (by decide +kernel) ?_
          refine T_let 3220 (by decide +kernel) ?_
          refine T_if1 (z_ixl (n := 200) (by decide +kernel) (by omega) (by omega)) ?_
          refine T_leq (fun x35 e36 => ?_)
          have u37 := CI_b c7 (k := 3220) (j := a1) (bdr_3220 a1)
          refine T_ite (fun h38 => ?_) (fun h38 => ?_)
          · exact sj_X12_isGap_309K_J59 hfu r0 s6 c7 f9 (by omega) (by omega) (by first | exact o15 | exact y_KM.z (by omega))
          · refine T_if1 (by decide +kernel) ?_
            refine T_useI (sf_X12_group_309 hfu s6 c7 a1 (by omega) r22 (by omega)) (fun v44 s39 hq => ?_)
            obtain ⟨c40, f41, ⟨x43, rfl, b45, b46, o47, o48, o49⟩⟩ := hq
            refine T_vI ?_
            have q50 := z_Fr.eq (fun a b h => h) f41
            subst q50
            refine T_leq (fun x51 e52 => ?_)
            have q53 : x28 = x51 := e29.symm.trans e52
            subst q53
            refine T_if1 (by decide +kernel) ?_
            refine T_useI (sf_X12_group_309 hfu s6 c7 x28 (by omega) r22 (by omega)) (fun v59 s54 hq => ?_)
            obtain ⟨c55, f56, ⟨x58, rfl, b60, b61, o62, o63, o64⟩⟩ := hq
            refine T_vI ?_
            have q65 := z_Fr.eq (fun a b h => h) f56
            subst q65
            refine T_ite (fun h66 => ?_) (fun h66 => ?_)
            · exact sj_X12_isGap_309K_J63 hfu r0 s6 c7 f9 (by omega) (by omega) (by first | exact o15 | exact y_KM.z (by omega))
            · exact sj_X12_isGap_309K_J59 hfu r0 s6 c7 f9 (by omega) (by omega) (by first | exact o15 | exact y_KM.z (by omega))
abbrev P_X12_laysLine_309K (r0 : z_M) (a1 : Int) : z_V → z_M → Prop := fun v s' => z_CI s' ∧ z_Fr R_X12_laysLine_309 r0 s' ∧ (y_BL s' (a1 + 1)) ∧ (s' 309 43 = 0 ∨ s' 309 36 = 0 ∨ (r0 309 36 ≠ 0 ∧ r0 309 43 ≠ 0)) ∧ (r0 309 36 = 0 ∨ s' 309 36 ≠ 0) ∧ (y_KM s') ∧ (v = vN)
theorem nr_X12_lays_309__331 (b : Int) : ¬ R_X12_lays_309 331 b := by
  unfold R_X12_lays_309; omega
theorem nr_X12_lays_309__346 (b : Int) : ¬ R_X12_lays_309 346 b := by
  unfold R_X12_lays_309; omega
theorem nr_X12_lays_309__391 (b : Int) : ¬ R_X12_lays_309 391 b := by
  unfold R_X12_lays_309; omega
theorem nz_X12_lays_309__407_606 (a b : Int) (h : 407 ≤ a ∧ a ≤ 606) : ¬ R_X12_lays_309 a b := by
  unfold R_X12_lays_309; omega
theorem nz_X12_lays_309__3220_3223 (a b : Int) (h : 3220 ≤ a ∧ a ≤ 3223) : ¬ R_X12_lays_309 a b := by
  unfold R_X12_lays_309; omega
theorem nz_X12_lays_309__3235_3437 (a b : Int) (h : 3235 ≤ a ∧ a ≤ 3437) : ¬ R_X12_lays_309 a b := by
  unfold R_X12_lays_309; omega
theorem nz_X12_isGap_309__3452_3651 (a b : Int) (h : 3452 ≤ a ∧ a ≤ 3651) : ¬ R_X12_isGap_309 a b := by
  unfold R_X12_isGap_309; omega
theorem nr_X12_isGap_309__312 (b : Int) : ¬ R_X12_isGap_309 312 b := by
  unfold R_X12_isGap_309; omega
theorem nr_X12_isGap_309__331 (b : Int) : ¬ R_X12_isGap_309 331 b := by
  unfold R_X12_isGap_309; omega
theorem nr_X12_isGap_309__346 (b : Int) : ¬ R_X12_isGap_309 346 b := by
  unfold R_X12_isGap_309; omega
theorem nr_X12_isGap_309__391 (b : Int) : ¬ R_X12_isGap_309 391 b := by
  unfold R_X12_isGap_309; omega
theorem nz_X12_isGap_309__407_606 (a b : Int) (h : 407 ≤ a ∧ a ≤ 606) : ¬ R_X12_isGap_309 a b := by
  unfold R_X12_isGap_309; omega
theorem nz_X12_isGap_309__3220_3223 (a b : Int) (h : 3220 ≤ a ∧ a ≤ 3223) : ¬ R_X12_isGap_309 a b := by
  unfold R_X12_isGap_309; omega
theorem sj_X12_laysLine_309K_J69 {fu : Nat} (hfu : 8589934592 ≤ fu) (r0 s : z_M) (c : z_CI s) (f : z_Fr R_X12_laysLine_309 r0 s) (a1 : Int) (a2 : Int) (a3 : Int) (a4 : Int) (a6 : Int) (a7 : Int) (a8 : Int) (t0 : Int) (t1 : Int) (b1 : 0 ≤ a1 ∧ a1 ≤ 199) (b2 : 0 ≤ a2 ∧ a2 ≤ 199) (b3 : 0 ≤ a3 ∧ a3 ≤ 199) (b4 : -2147483648 ≤ a4 ∧ a4 ≤ 2147483647) (b6 : -2147483648 ≤ a6 ∧ a6 ≤ 2147483647) (b7 : -2147483648 ≤ a7 ∧ a7 ≤ 2147483647) (b8 : 0 ≤ a8 ∧ a8 ≤ 199) (d0 : -2147483648 ≤ t0 ∧ t0 ≤ 2147483647) (d1 : 0 ≤ t1 ∧ t1 ≤ 1) (p0 : a8 ≤ a3) (p1 : a3 < s 309 20) (p2 : a2 ≤ a3) (p3 : y_B s) (p4 : y_L s (s 309 44)) (p5 : y_E s a2 a3) (p6 : y_BP s a2) (p7 : y_LE s a1 a3) (p8 : s 309 43 = 0 ∨ s 309 36 = 0 ∨ (r0 309 36 ≠ 0 ∧ r0 309 43 ≠ 0)) (p9 : r0 309 36 = 0 ∨ s 309 36 ≠ 0) (p10 : y_KM s) (M : Int) (pm : 2147483647 - a8 ≤ M) {r : z_M → Int → Int → z_O} {k : z_M → Int → z_O} (hr : ∀ (s' : z_M) (v5 : Int) (v8 : Int), z_CI s' → z_Fr R_X12_laysLine_309 r0 s' → (-2147483648 ≤ v5 ∧ v5 ≤ 2147483647) → (0 ≤ v8 ∧ v8 ≤ 200) → (v8 ≤ a3 + 1) → (a3 < s' 309 20) → (a2 ≤ a3) → (y_B s') → (y_L s' (s' 309 44)) → (y_E s' a2 a3) → (y_BP s' a2) → (y_LE s' a1 a3) → (s' 309 43 = 0 ∨ s' 309 36 = 0 ∨ (r0 309 36 ≠ 0 ∧ r0 309 43 ≠ 0)) → (r0 309 36 = 0 ∨ s' 309 36 ≠ 0) → (y_KM s') → (2147483647 - v8 < M) → z_T (r s' v5 v8) (P_X12_laysLine_309K r0 a1)) (hk : ∀ (s' : z_M) (v5 : Int), z_CI s' → z_Fr R_X12_laysLine_309 r0 s' → (-2147483648 ≤ v5 ∧ v5 ≤ 2147483647) → (a3 < s' 309 20) → (a2 ≤ a3) → (y_B s') → (y_L s' (s' 309 44)) → (y_E s' a2 a3) → (y_BP s' a2) → (y_LE s' a1 a3) → (s' 309 43 = 0 ∨ s' 309 36 = 0 ∨ (r0 309 36 ≠ 0 ∧ r0 309 43 ≠ 0)) → (r0 309 36 = 0 ∨ s' 309 36 ≠ 0) → (y_KM s') → z_T (k s' v5) (P_X12_laysLine_309K r0 a1)) : z_T (fX12_laysLine_J69 fu s 309 a1 a2 a3 a4 a6 a7 a8 t0 t1 r k) (P_X12_laysLine_309K r0 a1) := by
  refine T_of (fX12_laysLine_J69.eq_1 ..) ?_
  have u1 := CI_b c (k := 309) (j := 20) bd_309_20
  have u2 := CI_b c (k := 309) (j := 36) bd_309_36
  have u3 := CI_b c (k := 309) (j := 43) bd_309_43
  have u4 := CI_b c (k := 309) (j := 44) bd_309_44
  have u5 := CI_b c (k := 309) (j := 58) bd_309_58
  have u6 := CI_b c (k := 316) (j := 0) bd_316_0
  have t7 : s 309 20 = r0 309 20 := f 309 20 (by decide)
  have t8 : s 309 44 = r0 309 44 := f 309 44 (by decide)
  have t9 : s 316 0 = r0 316 0 := f 316 0 (by decide)
  refine T_leq (fun x10 e11 => ?_)
  first | (have w12 := z_wx e11 (by omega)) | (have w12 := z_wr e11)
  refine T_leq (fun x13 e14 => ?_)
  first | (have w15 := z_wx e14 (by omega)) | (have w15 := z_wr e14)
  exact hr s x10 x13 c f (by omega) (by omega) (by omega) (by omega) (by omega) p3 (by first | exact y_L.cg p4 (by omega)) (by first | exact y_E.cg p5 (by omega) (by omega)) (by first | exact y_BP.cg p6 (by omega)) (by first | exact y_LE.cg p7 (by omega) (by omega)) (by omega) (by omega) (by first | exact p10 | exact y_KM.z (by omega)) (by omega)
theorem sl_X12_laysLine_309K_L46 {fu : Nat} (hfu : 8589934592 ≤ fu) (r0 : z_M) (a1 : Int) (a2 : Int) (a3 : Int) (a4 : Int) (a6 : Int) (a7 : Int) (b1 : 0 ≤ a1 ∧ a1 ≤ 199) (b2 : 0 ≤ a2 ∧ a2 ≤ 199) (b3 : 0 ≤ a3 ∧ a3 ≤ 199) (b4 : -2147483648 ≤ a4 ∧ a4 ≤ 2147483647) (b6 : -2147483648 ≤ a6 ∧ a6 ≤ 2147483647) (b7 : -2147483648 ≤ a7 ∧ a7 ≤ 2147483647) {k : z_M → Int → z_O} (hk : ∀ (s' : z_M) (v5 : Int), z_CI s' → z_Fr R_X12_laysLine_309 r0 s' → (-2147483648 ≤ v5 ∧ v5 ≤ 2147483647) → (a3 < s' 309 20) → (a2 ≤ a3) → (y_B s') → (y_L s' (s' 309 44)) → (y_E s' a2 a3) → (y_BP s' a2) → (y_LE s' a1 a3) → (s' 309 43 = 0 ∨ s' 309 36 = 0 ∨ (r0 309 36 ≠ 0 ∧ r0 309 43 ≠ 0)) → (r0 309 36 = 0 ∨ s' 309 36 ≠ 0) → (y_KM s') → z_T (k s' v5) (P_X12_laysLine_309K r0 a1)) : ∀ (F : Nat) (s : z_M) (a5 : Int) (a8 : Int), z_CI s → z_Fr R_X12_laysLine_309 r0 s → (-2147483648 ≤ a5 ∧ a5 ≤ 2147483647) → (0 ≤ a8 ∧ a8 ≤ 200) → (a8 ≤ a3 + 1) → (a3 < s 309 20) → (a2 ≤ a3) → (y_B s) → (y_L s (s 309 44)) → (y_E s a2 a3) → (y_BP s a2) → (y_LE s a1 a3) → (s 309 43 = 0 ∨ s 309 36 = 0 ∨ (r0 309 36 ≠ 0 ∧ r0 309 43 ≠ 0)) → (r0 309 36 = 0 ∨ s 309 36 ≠ 0) → (y_KM s) → (2147483647 - a8 < (F : Int)) → z_T (fX12_laysLine_L46 fu 309 a1 a2 a3 a4 a6 a7 F s a5 a8 k) (P_X12_laysLine_309K r0 a1) := by
  intro F
  induction F with
  | zero =>
    intro s a5 a8 c f b5 b8 i0 i1 i2 i3 i4 i5 i6 i7 i8 i9 i10 hm
    have u34 := CI_b c (k := 309) (j := 20) bd_309_20
    have u35 := CI_b c (k := 309) (j := 36) bd_309_36
    have u36 := CI_b c (k := 309) (j := 43) bd_309_43
    have u37 := CI_b c (k := 309) (j := 44) bd_309_44
    have u38 := CI_b c (k := 309) (j := 58) bd_309_58
    have u39 := CI_b c (k := 316) (j := 0) bd_316_0
    exfalso; omega
  | succ F ih =>
    intro s a5 a8 c f b5 b8 i0 i1 i2 i3 i4 i5 i6 i7 i8 i9 i10 hm
    refine T_of (fX12_laysLine_L46.eq_2 ..) ?_
    have u1 := CI_b c (k := 309) (j := 20) bd_309_20
    have u2 := CI_b c (k := 309) (j := 36) bd_309_36
    have u3 := CI_b c (k := 309) (j := 43) bd_309_43
    have u4 := CI_b c (k := 309) (j := 44) bd_309_44
    have u5 := CI_b c (k := 309) (j := 58) bd_309_58
    have u6 := CI_b c (k := 316) (j := 0) bd_316_0
    have t7 : s 309 20 = r0 309 20 := f 309 20 (by decide)
    have t8 : s 309 44 = r0 309 44 := f 309 44 (by decide)
    have t9 : s 316 0 = r0 316 0 := f 316 0 (by decide)
    refine T_ite (fun h10 => ?_) (fun h10 => ?_)
    · exact hk s a5 c f (by omega) (by omega) (by omega) i3 (by first | exact y_L.cg i4 (by omega)) (by first | exact y_E.cg i5 (by omega) (by omega)) (by first | exact y_BP.cg i6 (by omega)) (by first | exact y_LE.cg i7 (by omega) (by omega)) (by omega) (by omega) (by first | exact i10 | exact y_KM.z (by omega))
    · refine T_if1 (by decide +kernel) ?_
      refine T_useI (sf_X12_isGap_309K hfu s c a8 a3 (by omega) (by omega) i3 (by omega) (by omega) (by first | exact i10 | exact y_KM.z (by omega))) (fun v16 s11 hq => ?_)
      obtain ⟨c12, f13, o17, o18, o19, ⟨x15, rfl, b20, b21⟩⟩ := hq
      refine T_vI ?_
      have f14 := z_Fr.tr (R := R_X12_laysLine_309) f f13 rs_X12_isGap_309__X12_laysLine_309
      have t22 : s11 309 20 = s 309 20 := f13 309 20 (by decide)
      have t23 : s11 309 44 = s 309 44 := f13 309 44 (by decide)
      have t24 : s11 309 58 = s 309 58 := f13 309 58 (by decide)
      have t25 : s11 316 0 = s 316 0 := f13 316 0 (by decide)
      have u26 := CI_b c12 (k := 309) (j := 36) bd_309_36
      have u27 := CI_b c12 (k := 309) (j := 43) bd_309_43
      have r28 := y_B.fr i3 (f13 309 20 (by decide)) (f13 316 0 (by decide)) (fun b => f13 3220 b (nr_X12_isGap_309__3220 b)) (fun b => f13 3221 b (nr_X12_isGap_309__3221 b)) (fun b => f13 3222 b (nr_X12_isGap_309__3222 b)) (fun b => f13 361 b (nr_X12_isGap_309__361 b))
      have r29 := y_L.fr i4 (f13 309 20 (by decide)) (fun b => f13 3438 b (nr_X12_isGap_309__3438 b))
      have r30 := y_E.fr i5 (fun b => f13 3229 b (nr_X12_isGap_309__3229 b)) (fun b => f13 3220 b (nr_X12_isGap_309__3220 b))
      have r31 := y_BP.fr i6 (by omega) (f13 309 58 (by decide)) (fun b => f13 3220 b (nr_X12_isGap_309__3220 b)) (fun a b h => f13 a b (nz_X12_isGap_309__3452_3651 a b h))
      have r32 := y_LE.fr i7 (fun b => f13 3438 b (nr_X12_isGap_309__3438 b))
      refine T_ite (fun h33 => ?_) (fun h33 => ?_)
      · exact sj_X12_laysLine_309K_J69 hfu r0 s11 c12 f14 a1 a2 a3 a4 a6 a7 a8 a5 0 (by omega) (by omega) (by omega) (by omega) (by omega) (by omega) (by omega) (by omega) (by omega) (by omega) (by omega) (by omega) r28 (by first | exact y_L.cg r29 (by omega)) (by first | exact y_E.cg r30 (by omega) (by omega)) (by first | exact y_BP.cg r31 (by omega)) (by first | exact y_LE.cg r32 (by omega) (by omega)) (by omega) (by omega) (by first | exact o19 | exact y_KM.z (by omega)) (2147483647 - a8) (by omega) (fun s' v5 v8 c' f' w5 w8 z0 z1 z2 z3 z4 z5 z6 z7 z8 z9 z10 pg => ih s' v5 v8 c' f' w5 w8 z0 z1 z2 z3 z4 z5 z6 z7 z8 z9 z10 (by omega)) hk
      · exact sj_X12_laysLine_309K_J69 hfu r0 s11 c12 f14 a1 a2 a3 a4 a6 a7 a8 a5 1 (by omega) (by omega) (by omega) (by omega) (by omega) (by omega) (by omega) (by omega) (by omega) (by omega) (by omega) (by omega) r28 (by first | exact y_L.cg r29 (by omega)) (by first | exact y_E.cg r30 (by omega) (by omega)) (by first | exact y_BP.cg r31 (by omega)) (by first | exact y_LE.cg r32 (by omega) (by omega)) (by omega) (by omega) (by first | exact o19 | exact y_KM.z (by omega)) (2147483647 - a8) (by omega) (fun s' v5 v8 c' f' w5 w8 z0 z1 z2 z3 z4 z5 z6 z7 z8 z9 z10 pg => ih s' v5 v8 c' f' w5 w8 z0 z1 z2 z3 z4 z5 z6 z7 z8 z9 z10 (by omega)) hk
theorem sj_X12_laysLine_309K_J328 {fu : Nat} (hfu : 8589934592 ≤ fu) (r0 s : z_M) (c : z_CI s) (f : z_Fr R_X12_laysLine_309 r0 s) (a1 : Int) (a3 : Int) (a5 : Int) (a6 : Int) (a7 : Int) (a8 : Int) (a9 : Int) (a10 : Int) (a12 : Int) (t0 : Int) (t1 : Int) (b1 : 0 ≤ a1 ∧ a1 ≤ 199) (b3 : 0 ≤ a3 ∧ a3 ≤ 199) (b5 : -2147483648 ≤ a5 ∧ a5 ≤ 2147483647) (b6 : -2147483648 ≤ a6 ∧ a6 ≤ 2147483647) (b7 : -2147483648 ≤ a7 ∧ a7 ≤ 2147483647) (b8 : 0 ≤ a8 ∧ a8 ≤ 1) (b9 : -2147483648 ≤ a9 ∧ a9 ≤ 2147483647) (b10 : 0 ≤ a10 ∧ a10 ≤ 199) (b12 : 0 ≤ a12 ∧ a12 ≤ 199) (d0 : -2147483648 ≤ t0 ∧ t0 ≤ 2147483647) (d1 : -2147483648 ≤ t1 ∧ t1 ≤ 2147483647) (p0 : a10 ≤ a3) (p1 : y_BX s (a10 + 1) a3) (p2 : a3 < s 309 20) (p3 : y_B s) (p4 : y_L s (s 309 44)) (p5 : y_E s a10 a3) (p6 : y_LE s a1 a3) (p7 : s 309 43 = 0 ∨ s 309 36 = 0 ∨ (r0 309 36 ≠ 0 ∧ r0 309 43 ≠ 0)) (p8 : r0 309 36 = 0 ∨ s 309 36 ≠ 0) (p9 : y_KM s) (M : Int) (pm : 2147483647 - a12 ≤ M) {r : z_M → Int → Int → z_O} {k : z_M → z_O} (hr : ∀ (s' : z_M) (v11 : Int) (v12 : Int), z_CI s' → z_Fr R_X12_laysLine_309 r0 s' → (-2147483648 ≤ v11 ∧ v11 ≤ 2147483647) → (0 ≤ v12 ∧ v12 ≤ 200) → (a10 ≤ a3) → (y_BX s' (a10 + 1) a3) → (a3 < s' 309 20) → (y_B s') → (y_L s' (s' 309 44)) → (y_E s' a10 a3) → (y_LE s' a1 a3) → (s' 309 43 = 0 ∨ s' 309 36 = 0 ∨ (r0 309 36 ≠ 0 ∧ r0 309 43 ≠ 0)) → (r0 309 36 = 0 ∨ s' 309 36 ≠ 0) → (y_KM s') → (2147483647 - v12 < M) → z_T (r s' v11 v12) (P_X12_laysLine_309K r0 a1)) (hk : ∀ (s' : z_M), z_CI s' → z_Fr R_X12_laysLine_309 r0 s' → (y_BX s' (a10 + 1) a3) → (a3 < s' 309 20) → (y_B s') → (y_L s' (s' 309 44)) → (y_E s' a10 a3) → (y_LE s' a1 a3) → (s' 309 43 = 0 ∨ s' 309 36 = 0 ∨ (r0 309 36 ≠ 0 ∧ r0 309 43 ≠ 0)) → (r0 309 36 = 0 ∨ s' 309 36 ≠ 0) → (y_KM s') → z_T (k s') (P_X12_laysLine_309K r0 a1)) : z_T (fX12_laysLine_J328 fu s 309 a1 a3 a5 a6 a7 a8 a9 a10 a12 t0 t1 r k) (P_X12_laysLine_309K r0 a1) := by
  refine T_of (fX12_laysLine_J328.eq_1 ..) ?_
  have u1 := CI_b c (k := 309) (j := 20) bd_309_20
  have u2 := CI_b c (k := 309) (j := 36) bd_309_36
  have u3 := CI_b c (k := 309) (j := 43) bd_309_43
  have u4 := CI_b c (k := 309) (j := 44) bd_309_44
  have u5 := CI_b c (k := 309) (j := 58) bd_309_58
  have u6 := CI_b c (k := 316) (j := 0) bd_316_0
  have t7 : s 309 20 = r0 309 20 := f 309 20 (by decide)
  have t8 : s 309 44 = r0 309 44 := f 309 44 (by decide)
  have t9 : s 316 0 = r0 316 0 := f 316 0 (by decide)
  refine T_leq (fun x10 e11 => ?_)
  first | (have w12 := z_wx e11 (by omega)) | (have w12 := z_wr e11)
  refine T_leq (fun x13 e14 => ?_)
  first | (have w15 := z_wx e14 (by omega)) | (have w15 := z_wr e14)
  exact hr s x10 x13 c f (by omega) (by omega) (by omega) (by first | exact y_BX.cg p1 (by omega) (by omega)) (by omega) p3 (by first | exact y_L.cg p4 (by omega)) (by first | exact y_E.cg p5 (by omega) (by omega)) (by first | exact y_LE.cg p6 (by omega) (by omega)) (by omega) (by omega) (by first | exact p9 | exact y_KM.z (by omega)) (by omega)
