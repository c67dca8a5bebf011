/-! the reference's layout stays right, where its units are what they should be -/
def y_OKy (s : z_M) : Prop := y_OKm s ∧ y_FM s ∧ (∀ u : Int, 0 ≤ u → u < s 309 20 → 1 ≤ y_dm s 1 u) ∧ (0 ≤ s 312 0 ∧ s 312 0 ≤ 10000)
def y_YM (s : z_M) : Prop := y_OKy s → s 309 36 ≠ 0 → s 309 43 ≠ 0 → y_LBm (y_dm s) s
theorem y_OKy.fr {s s' : z_M} (h : y_OKy s) (e : s' 309 20 = s 309 20) (f : ∀ a b : Int, y_uc a → s' a b = s a b) (g : ∀ j : Int, s' 312 j = s 312 j) : y_OKy s' ∧ y_dm s' = y_dm s := by
  obtain ⟨h1, h2, h3, h4⟩ := h
  obtain ⟨o, d⟩ := h1.fr e f g
  refine ⟨⟨o, fun v u p q r => ?_, fun u p q => ?_, by rw [g 0]; exact h4⟩, d⟩
  · rw [f 3221 v (by omega), f 3222 v (by omega), f 3221 u (by omega)]
    exact h2 v u p q (by omega)
  · rw [d]; exact h3 u p (by omega)
theorem y_YM.b0 {s : z_M} (e : s 309 43 = 0) : y_YM s := fun _ _ q => absurd e q
theorem y_YM.k0 {s : z_M} (e : s 309 36 = 0) : y_YM s := fun _ p _ => absurd e p
theorem y_YM.bk {s : z_M} (e : s 309 43 = 0 ∨ s 309 36 = 0) : y_YM s := by
  rcases e with e | e
  · exact y_YM.b0 e
  · exact y_YM.k0 e
theorem y_ucf {s s' : z_M} (c1 : ∀ b, s' 331 b = s 331 b) (c2 : ∀ b, s' 346 b = s 346 b) (c3 : ∀ b, s' 361 b = s 361 b) (c4 : ∀ b, s' 391 b = s 391 b) (c5 : ∀ a b : Int, 407 ≤ a ∧ a ≤ 606 → s' a b = s a b) (c6 : ∀ a b : Int, 3220 ≤ a ∧ a ≤ 3223 → s' a b = s a b) : ∀ a b : Int, y_uc a → s' a b = s a b := fun a b q => by
  rcases q with rfl | rfl | rfl | rfl | q | q
  · exact c1 b
  · exact c2 b
  · exact c3 b
  · exact c4 b
  · exact c5 a b q
  · exact c6 a b q
theorem y_YM.fr {s s' : z_M} (h : y_YM s) (kk : s' 309 43 = 0 ∨ s' 309 36 = 0 ∨ (s 309 36 ≠ 0 ∧ s 309 43 ≠ 0)) (e44 : s' 309 44 = s 309 44) (e20 : s' 309 20 = s 309 20) (e58 : s' 309 58 = s 309 58) (g : ∀ b, s' 312 b = s 312 b) (c1 : ∀ b, s' 331 b = s 331 b) (c2 : ∀ b, s' 346 b = s 346 b) (c3 : ∀ b, s' 361 b = s 361 b) (c4 : ∀ b, s' 391 b = s 391 b) (c5 : ∀ a b : Int, 407 ≤ a ∧ a ≤ 606 → s' a b = s a b) (c6 : ∀ a b : Int, 3220 ≤ a ∧ a ≤ 3223 → s' a b = s a b) (c7 : ∀ b, s' 3438 b = s 3438 b) (c8 : ∀ a b : Int, 3441 ≤ a ∧ a ≤ 3450 → s' a b = s a b) (c9 : ∀ a b : Int, 3452 ≤ a ∧ a ≤ 3651 → s' a b = s a b) : y_YM s' := fun ok p q => by
  have f := y_ucf c1 c2 c3 c4 c5 c6
  obtain ⟨k1, k2⟩ := (kk.resolve_left q).resolve_left p
  obtain ⟨ok0, d⟩ := ok.fr (s' := s) e20.symm (fun a b w => (f a b w).symm) (fun j => (g j).symm)
  rw [← d]
  refine (h ok0 k1 k2).fr e20 e44 e58 (fun x y w => ?_) ok0.1.1.1.2
  rcases w with w | rfl | w | w
  · rcases w with rfl | rfl | rfl | w | w | w | w
    · exact g y
    · exact c1 y
    · exact c2 y
    · exact c6 x y (by omega)
    · exact c6 x y (by omega)
    · exact c6 x y (by omega)
    · exact c6 x y (by omega)
  · exact c7 y
  · exact c8 x y w
  · exact c9 x y w
def y_YQ (s : z_M) (t : Int) : Prop := t = 0 ∨ y_YM s
theorem y_YQ.m {s : z_M} {t : Int} (h : y_YQ s t) (n : t ≠ 0) : y_YM s := h.resolve_left n
theorem y_YQ.cg {s : z_M} {t t' : Int} (h : y_YQ s t) (e : t' = t) : y_YQ s t' := by rw [e]; exact h
theorem y_YQ.fr {s s' : z_M} {t : Int} (h : y_YQ s t) (kk : s' 309 43 = 0 ∨ s' 309 36 = 0 ∨ (s 309 36 ≠ 0 ∧ s 309 43 ≠ 0)) (e44 : s' 309 44 = s 309 44) (e20 : s' 309 20 = s 309 20) (e58 : s' 309 58 = s 309 58) (g : ∀ b, s' 312 b = s 312 b) (c1 : ∀ b, s' 331 b = s 331 b) (c2 : ∀ b, s' 346 b = s 346 b) (c3 : ∀ b, s' 361 b = s 361 b) (c4 : ∀ b, s' 391 b = s 391 b) (c5 : ∀ a b : Int, 407 ≤ a ∧ a ≤ 606 → s' a b = s a b) (c6 : ∀ a b : Int, 3220 ≤ a ∧ a ≤ 3223 → s' a b = s a b) (c7 : ∀ b, s' 3438 b = s 3438 b) (c8 : ∀ a b : Int, 3441 ≤ a ∧ a ≤ 3450 → s' a b = s a b) (c9 : ∀ a b : Int, 3452 ≤ a ∧ a ≤ 3651 → s' a b = s a b) : y_YQ s' t :=
  h.imp id (fun k => k.fr kk e44 e20 e58 g c1 c2 c3 c4 c5 c6 c7 c8 c9)
/-- laid out: the layout is right -/
theorem ym_laysAll {fu : Nat} (hfu : 8589934592 ≤ fu) {s : z_M} (ci : z_CI s) (yB : y_B s) (km : y_KM s) (h : y_YM s) (E : z_T (fX12_laysAll fu s 309) (fun _ s' => ∀ x y : Int, (x ≤ 3223 ∧ x ≠ 309) ∨ (x = 309 ∧ y = 20) → s' x y = s x y)) : z_T (fX12_laysAll fu s 309) (fun _ s' => y_YM s') := by
  have back : ∀ s' : z_M, (∀ x y : Int, (x ≤ 3223 ∧ x ≠ 309) ∨ (x = 309 ∧ y = 20) → s' x y = s x y) → y_OKy s' → y_OKy s ∧ y_dm s = y_dm s' := fun s' f ok => ok.fr (s' := s) (f _ _ (by omega)).symm (fun a b w => (f a b (by omega)).symm) (fun j => (f _ _ (by omega)).symm)
  by_cases ok : y_OKy s
  · have k := km ok.1
    have mk : y_Mk (y_dm s) s s := ⟨ok.1.MU, k, ok.1.2.2, fun _ _ _ _ _ => rfl⟩
    have lb : s 309 36 = 0 ∨ s 309 43 = 0 ∨ y_LBm (y_dm s) s := by
      by_cases z : s 309 36 = 0
      · exact Or.inl z
      · by_cases z2 : s 309 43 = 0
        · exact Or.inr (Or.inl z2)
        · exact Or.inr (Or.inr (h ok z z2))
    refine T_mono (T_and E (em_laysAll hfu ci yB mk ok.2.1 ok.2.2.1 ok.2.2.2 lb)) (fun v s' hq => ?_)
    obtain ⟨f, rfl, lbm, _, _, _⟩ := hq
    intro ok' _ _
    rw [← (back s' f ok').2]
    exact lbm
  · refine T_mono E (fun v s' f => ?_)
    intro ok' _ _
    exact absurd (back s' f ok').1 ok
