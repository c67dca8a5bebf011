/-! the reference's layout of a line -/
/-- units, what is kept: fresh -/
def y_MP (D s : z_M) : Prop := y_MU2 D s ∧ s 309 36 ≠ 0 ∧ y_KF D s ∧ (0 ≤ s 312 7 ∧ s 312 7 ≤ 1000) ∧ 0 ≤ s 312 2 ∧ s 312 2 ≤ 6
theorem y_MP.fr {D s s' : z_M} (h : y_MP D s) (f : ∀ x y : Int, (x ≤ 3223 ∨ (3234 ≤ x ∧ x ≤ 3437)) → ¬ (x = 309 ∧ (y = 35 ∨ y = 43 ∨ y = 44 ∨ y = 58)) → s' x y = s x y) : y_MP D s' := by
  obtain ⟨h1, h2, h3, h4, h5⟩ := h
  have e20 := f 309 20 (by decide) (by decide)
  have e12 : ∀ j : Int, s' 312 j = s 312 j := fun j => f 312 j (by decide) (by omega)
  refine ⟨h1.fr e20 (fun a b p q => f a b (by omega) (by omega)) (fun j _ => e12 j), by rw [f 309 36 (by decide) (by decide)]; exact h2, h3.fr h1.1.1.2 e20 (e12 2) (e12 7) (fun x b p => f x b (by omega) (by omega)) (fun b => ⟨f _ _ (by decide) (by omega), f _ _ (by decide) (by omega)⟩) (f _ _ (by decide) (by decide)) (f _ _ (by decide) (by decide)), by rw [e12 7]; exact h4, by rw [e12 2]; exact h5⟩
theorem em_mayP {fu : Nat} (hfu : 8589934592 ≤ fu) {D s : z_M} (h : y_MP D s) {u : Int} (hu : 0 ≤ u ∧ u < s 309 20) : fX12_mayEnd fu s 309 u = some (vI (y_me D (s 312 7) (s 309 20) u), s) :=
  T_eq (T_mono (em_mayEnd hfu h.1 h.2.2.2.1 (Or.inr h.2.2.1) hu) (fun _ _ q => ⟨q.1, q.2.2.2.1 h.2.1⟩))
theorem y_me3 {D : z_M} {T n u : Int} (h : y_me D T n u = 1) : u + 1 < n ∧ D 0 (u + 1) ≠ 3 := by
  unfold y_me at h
  by_cases q : u + 1 < n ∧ D 0 u ≠ 4 ∧ D 0 (u + 1) ≠ 3 ∧ D 0 (u + 1) ≠ 5 ∧ y_tg (D 0) (D 1) T n.toNat u = 0
  · exact ⟨q.1, q.2.2.1⟩
  · rw [if_neg q] at h; omega
theorem y_hg3 {D : z_M} {a b : Int} (h : y_hg D a b = 1) : D 0 (y_to D a b) = 3 := by
  unfold y_hg at h
  by_cases q : D 5 0 = 1 ∧ y_fr D a b ≤ b ∧ D 0 (y_to D a b) = 3
  · exact q.2.2
  · rw [if_neg q] at h; omega
/-- where units have a width -/
theorem y_w_iff {D : z_M} {a b u : Int} (hw : 1 ≤ D 1 u) : (0 < y_w D a b u ∧ (y_fr D a b ≤ u ∧ u ≤ y_to D a b) ∧ (y_hg D a b = 0 ∨ u ≠ y_to D a b)) ∨ (y_w D a b u = 0 ∧ (u < y_fr D a b ∨ y_to D a b < u ∨ (y_hg D a b = 1 ∧ u = y_to D a b))) := by
  have g := y_hg_01 (D := D) (a := a) (b := b)
  unfold y_w
  by_cases q1 : u < y_fr D a b ∨ y_to D a b < u
  · rw [if_pos q1]; exact Or.inr ⟨rfl, by omega⟩
  · rw [if_neg q1]
    by_cases q2 : y_hg D a b = 1 ∧ u = y_to D a b
    · rw [if_pos q2]; exact Or.inr ⟨rfl, Or.inr (Or.inr q2)⟩
    · rw [if_neg q2]; exact Or.inl ⟨by omega, by omega, by omega⟩
theorem em_isGap {fu : Nat} (hfu : 8589934592 ≤ fu) {D s : z_M} {T n : Int} (h : y_MP D s) (eT : s 312 7 = T) (en : s 309 20 = n) (hw : ∀ u : Int, 0 ≤ u → u < n → 1 ≤ D 1 u) {a b u : Int} (ha : 0 ≤ a) (hb : b < n) (hu : a ≤ u ∧ u ≤ b) (hr : ∀ v : Int, a ≤ v → v ≤ b → s 3224 v = y_w D a b v) : fX12_isGap fu s 309 u b = some (vI (y_gq D (y_me D T n) a b u), s) := by
  have n2 := h.1.1.1
  have ft := y_ft (D := D) (show a ≤ b + 1 by omega)
  have hg3 := y_hg3 (D := D) (a := a) (b := b)
  have e3 := y_me3 (D := D) (T := T) (n := n) (u := u)
  have m01 := y_me_01 (D := D) (T := T) (n := n) (u := u)
  have ec : u + 1 = y_to D a b → D 0 (u + 1) = D 0 (y_to D a b) := fun q => by rw [q]
  have w0 := y_w_iff (D := D) (a := a) (b := b) (hw u (by omega) (by omega))
  have dn := (h.1.2.2.2 u (by omega) (by omega)).2.2.2.1
  refine T_eq ?_
  refine T_of (fX12_isGap.eq_1 ..) ?_
  refine T_ite (fun h1 => ?_) (fun h1 => ?_)
  · refine T_of (fX12_isGap_J63.eq_1 ..) ?_
    refine T_of (fX12_isGap_J64.eq_1 ..) ?_
    refine T_if1 bl0 ?_
    exact T_ret ⟨congrArg vI (y_gq0 (by omega)), rfl⟩
  · have w1 := y_w_iff (D := D) (a := a) (b := b) (hw (u + 1) (by omega) (by omega))
    refine T_if1 v_ob309 ?_
    refine T_bI (T_of (em_mayP hfu h (u := u) ⟨by omega, by omega⟩) (T_rI ?_))
    rw [eT, en]
    refine T_ite (fun h2 => ?_) (fun h2 => ?_)
    · refine T_of (fX12_isGap_J63.eq_1 ..) ?_
      refine T_of (fX12_isGap_J64.eq_1 ..) ?_
      refine T_if1 bl0 ?_
      exact T_ret ⟨congrArg vI (y_gq0 (by omega)), rfl⟩
    · refine T_if1 v_ob309 ?_
      refine T_let 3224 v_gm25 ?_
      refine T_if1 (v_x3224 (by omega)) ?_
      refine T_let (y_w D a b u) (hr _ (by omega) (by omega)) ?_
      refine T_ite (fun h3 => ?_) (fun h3 => ?_)
      · refine T_of (fX12_isGap_J63.eq_1 ..) ?_
        refine T_of (fX12_isGap_J64.eq_1 ..) ?_
        refine T_if1 bl0 ?_
        exact T_ret ⟨congrArg vI (y_gq0 (by omega)), rfl⟩
      · refine T_if1 v_ob309 ?_
        refine T_let 3224 v_gm25 ?_
        refine T_let (u + 1) (v_wid (by omega)) ?_
        refine T_if1 (v_x3224 (by omega)) ?_
        refine T_let (y_w D a b (u + 1)) (hr _ (by omega) (by omega)) ?_
        refine T_ite (fun h4 => ?_) (fun h4 => ?_)
        · refine T_of (fX12_isGap_J63.eq_1 ..) ?_
          refine T_of (fX12_isGap_J64.eq_1 ..) ?_
          refine T_if1 bl0 ?_
          exact T_ret ⟨congrArg vI (y_gq0 (by omega)), rfl⟩
        · refine T_if1 v_ob309 ?_
          refine T_let 3220 v_gm21 ?_
          refine T_if1 (v_x3220 (by omega)) ?_
          refine T_let (D 0 u) ((h.1.2.2.1 _ (by omega) (by omega)).1) ?_
          refine T_ite (fun h5 => ?_) (fun h5 => ?_)
          · refine T_of (fX12_isGap_J59.eq_1 ..) ?_
            refine T_of (fX12_isGap_J64.eq_1 ..) ?_
            refine T_if1 bl1 ?_
            exact T_ret ⟨congrArg vI (y_gq1 (by omega)), rfl⟩
          · refine T_if1 v_ob309 ?_
            refine T_bI (T_of (em_group h.1.1 (u := u) ⟨by omega, by omega⟩) (T_rI ?_))
            refine T_let (u + 1) (v_wid (by omega)) ?_
            refine T_if1 v_ob309 ?_
            refine T_bI (T_of (em_group h.1.1 (u := u + 1) ⟨by omega, by omega⟩) (T_rI ?_))
            refine T_ite (fun h6 => ?_) (fun h6 => ?_)
            · have k0 := (h.1.2.2.1 u (by omega) (by omega))
              have k1 := (h.1.2.2.1 (u + 1) (by omega) (by omega))
              have g0 := (k0.2.2 (by omega)).1
              have g1 : (D 0 (u + 1) = 7 ∧ y_gm s (u + 1) = D 2 (u + 1)) ∨ (D 0 (u + 1) ≠ 7 ∧ y_gm s (u + 1) = -1) := by
                by_cases z7 : D 0 (u + 1) = 7
                · exact Or.inl ⟨z7, (k1.2.2 z7).1⟩
                · refine Or.inr ⟨z7, ?_⟩
                  unfold y_gm; rw [if_neg (by rw [k1.1]; exact z7)]
              refine T_of (fX12_isGap_J63.eq_1 ..) ?_
              refine T_of (fX12_isGap_J64.eq_1 ..) ?_
              refine T_if1 bl0 ?_
              exact T_ret ⟨congrArg vI (y_gq0 (by omega)), rfl⟩
            · have k0 := (h.1.2.2.1 u (by omega) (by omega))
              have k1 := (h.1.2.2.1 (u + 1) (by omega) (by omega))
              have g0 := (k0.2.2 (by omega)).1
              have g1 : (D 0 (u + 1) = 7 ∧ y_gm s (u + 1) = D 2 (u + 1)) ∨ (D 0 (u + 1) ≠ 7 ∧ y_gm s (u + 1) = -1) := by
                by_cases z7 : D 0 (u + 1) = 7
                · exact Or.inl ⟨z7, (k1.2.2 z7).1⟩
                · refine Or.inr ⟨z7, ?_⟩
                  unfold y_gm; rw [if_neg (by rw [k1.1]; exact z7)]
              refine T_of (fX12_isGap_J59.eq_1 ..) ?_
              refine T_of (fX12_isGap_J64.eq_1 ..) ?_
              refine T_if1 bl1 ?_
              exact T_ret ⟨congrArg vI (y_gq1 (by omega)), rfl⟩
theorem em_gapsL {fu : Nat} (hfu : 8589934592 ≤ fu) {D s : z_M} {T n : Int} (h : y_MP D s) (eT : s 312 7 = T) (en : s 309 20 = n) (hw : ∀ u : Int, 0 ≤ u → u < n → 1 ≤ D 1 u) {l a b a4 a6 a7 : Int} (ha : 0 ≤ a) (hb : b < n) (hr : ∀ v : Int, a ≤ v → v ≤ b → s 3224 v = y_w D a b v) {k : z_M → Int → z_O} : ∀ (m F : Nat) (c u : Int), (m : Int) = b + 1 - u → m < F → a ≤ u → c = y_gn D (y_me D T n) a b u → fX12_laysLine_L46 fu 309 l a b a4 a6 a7 F s c u k = k s (y_gn D (y_me D T n) a b (b + 1)) := by
  have n2 := h.1.1.1
  intro m
  induction m with
  | zero =>
    intro F c u h1 hF h3 h4
    obtain ⟨F, rfl⟩ : ∃ F2, F = F2 + 1 := ⟨F - 1, by omega⟩
    rw [fX12_laysLine_L46.eq_2, if_pos (show b < u by omega), h4, show u = b + 1 by omega]
  | succ m ih =>
    intro F c u h1 hF h3 h4
    obtain ⟨F, rfl⟩ : ∃ F2, F = F2 + 1 := ⟨F - 1, by omega⟩
    have gb := y_gn_b (D := D) (E := y_me D T n) (a := a) (b := b) (u := u) h3
    have gs := y_suS (f := y_gq D (y_me D T n) a b) h3
    rw [fX12_laysLine_L46.eq_2, if_neg (show ¬ b < u by omega), if_pos v_ob309, em_isGap hfu h eT en hw ha hb ⟨h3, by omega⟩ hr]
    simp only [zb_I]
    unfold fX12_laysLine_J69
    simp only [z_let]
    rcases y_gq01 (D := D) (E := y_me D T n) (a := a) (b := b) (u := u) with g | g
    · rw [if_pos g, v_wid (by omega), v_wid (by omega)]
      exact ih F _ _ (by omega) (by omega) (by omega) (by unfold y_gn at h4 ⊢; omega)
    · rw [if_neg (by omega), v_wid (by omega), v_wid (by omega)]
      exact ih F _ _ (by omega) (by omega) (by omega) (by unfold y_gn at h4 ⊢; omega)
/-- a sign's place in its unit, the reference's -/
def y_sm2 (s : z_M) (u i : Int) : Int := if y_am s u = 0 then y_su (y_lm s) (s 3221 u) i else 0
/-- cells that a unit's signs are told by, the reference's -/
abbrev y_u6 (x : Int) : Prop := x = 312 ∨ x = 331 ∨ x = 346 ∨ x = 3220 ∨ x = 3221 ∨ x = 3222 ∨ x = 3223
theorem y_am_fr {s s' : z_M} (f : ∀ x y : Int, y_u6 x → s' x y = s x y) : y_am s' = y_am s := funext fun u => by
  unfold y_am; rw [f 3220 u (by decide), f 312 5 (by decide), f 3222 u (by decide), f 312 1 (by decide)]
theorem y_lm_fr {s s' : z_M} (f : ∀ x y : Int, y_u6 x → s' x y = s x y) : y_lm s' = y_lm s := funext fun i => by
  unfold y_lm; rw [f 346 i (by decide), f 331 i (by decide), y_am_fr f, f 3223 i (by decide)]
theorem y_sm2_fr {s s' : z_M} (f : ∀ x y : Int, y_u6 x → s' x y = s x y) : y_sm2 s' = y_sm2 s := funext fun u => funext fun i => by
  unfold y_sm2; rw [y_am_fr f, y_lm_fr f, f 3221 u (by decide)]
/-- the signs of a unit are placed -/
theorem em_sgL {fu : Nat} {s0 : z_M} {l b a5 a6 x a8 a9 u n : Int} {k : z_M → z_O} {P : z_V → z_M → Prop} (hr : y_Rw s0) (en : s0 309 20 = n) (hu : 0 ≤ u ∧ u < n) (hx : 0 ≤ x ∧ x ≤ 20000000)
    (hk : ∀ s' : z_M, (∀ i : Int, s0 3221 u ≤ i → i < s0 3221 u + s0 3222 u → s' 3443 i = x + y_sm2 s0 u i) → (∀ p q : Int, ¬ (p = 3443 ∧ s0 3221 u ≤ q ∧ q < s0 3221 u + s0 3222 u) → s' p q = s0 p q) → z_T (k s') P) :
    ∀ (m F : Nat) (s : z_M) (y i : Int), (m : Int) = s0 3221 u + s0 3222 u - i → m < F → s0 3221 u ≤ i → y = x + y_sm2 s0 u i → (∀ j : Int, s0 3221 u ≤ j → j < i → s 3443 j = x + y_sm2 s0 u j) → (∀ p q : Int, ¬ (p = 3443 ∧ s0 3221 u ≤ q ∧ q < s0 3221 u + s0 3222 u) → s p q = s0 p q) → z_T (fX12_laysLine_L278 fu 309 l b a5 a6 x a8 a9 u F s y i k) P := by
  have n2 := hr.1
  have z := hr.2.1 u hu.1 (by omega)
  intro m
  induction m with
  | zero =>
    intro F s y i h1 hF h3 hy g f
    obtain ⟨F, rfl⟩ : ∃ F2, F = F2 + 1 := ⟨F - 1, by omega⟩
    refine T_of (fX12_laysLine_L278.eq_2 ..) ?_
    refine T_if1 v_ob309 ?_
    refine T_let 3221 v_gm22 ?_
    refine T_if1 (v_x3221 (by omega)) ?_
    refine T_let (s0 3221 u) (f 3221 u (by omega)) ?_
    refine T_if1 v_ob309 ?_
    refine T_let 3222 v_gm23 ?_
    refine T_if1 (v_x3222 (by omega)) ?_
    refine T_let (s0 3222 u) (f 3222 u (by omega)) ?_
    refine T_let ((s0 3221 u) + (s0 3222 u)) (v_wid (by omega)) ?_
    refine T_if1 (by omega) ?_
    exact hk s (fun j p q => g j p (by omega)) f
  | succ m ih =>
    intro F s y i h1 hF h3 hy g f
    obtain ⟨F, rfl⟩ : ∃ F2, F = F2 + 1 := ⟨F - 1, by omega⟩
    have sb := y_su_r (f := y_lm s0) (a := s0 3221 u) (u := i) (m := 12) (by decide) (fun j p q => y_lm_b) h3 (by omega)
    have ss := y_suS (f := y_lm s0) h3
    have lb := y_lm_b (s := s0) (i := i)
    have yb : -100 ≤ y ∧ y ≤ 20010000 := by
      rw [hy]; unfold y_sm2; split <;> omega
    have i2 : 0 ≤ i ∧ i < 200 := by omega
    have u2 : 0 ≤ u ∧ u < 200 := by omega
    refine T_of (fX12_laysLine_L278.eq_2 ..) ?_
    refine T_if1 v_ob309 ?_
    refine T_let 3221 v_gm22 ?_
    refine T_if1 (v_x3221 (by omega)) ?_
    refine T_let (s0 3221 u) (f 3221 u (by omega)) ?_
    refine T_if1 v_ob309 ?_
    refine T_let 3222 v_gm23 ?_
    refine T_if1 (v_x3222 (by omega)) ?_
    refine T_let (s0 3222 u) (f 3222 u (by omega)) ?_
    refine T_let ((s0 3221 u) + (s0 3222 u)) (v_wid (by omega)) ?_
    refine T_if0 (by omega) ?_
    refine T_if1 v_ob309 ?_
    refine T_let 3443 v_gm50 ?_
    refine T_if1 (v_x3443 (by omega)) ?_
    refine T_upG (fun sx7 a8 f9 => ?_)
    have fr10 : ∀ p q : Int, ¬ (p = 3443 ∧ s0 3221 u ≤ q ∧ q < s0 3221 u + s0 3222 u) → sx7 p q = s0 p q := fun p q w => (f9 p q (by omega)).trans (f p q w)
    have fl11 := f9
    refine T_if1 v_ob309 ?_
    have fa : ∀ p q : Int, y_u6 p → sx7 p q = s0 p q := fun p q w => fr10 p q (by omega)
    refine T_bI (T_of (em_isAcross u2) (T_rI ?_))
    rw [y_am_fr fa]
    refine T_ite (fun ha => ?_) (fun ha => ?_)
    · refine T_if1 v_ob309 ?_
      refine T_bI (T_of (em_signLong i2 (by rw [fr10 3223 i (by omega)]; exact hr.2.2.1 i)) (T_rI ?_))
      rw [y_lm_fr fa]
      refine T_of (fX12_laysLine_J328.eq_1 ..) ?_
      refine T_let (y + (y_lm s0 i)) (v_wid (by omega)) ?_
      refine T_let (i + 1) (v_wid (by omega)) ?_
      have ey : y_sm2 s0 u (i + 1) = y_sm2 s0 u i + y_lm s0 i := by
        unfold y_sm2; rw [if_pos ha, if_pos ha]; exact ss
      refine ih F _ _ _ (by omega) (by omega) (by omega) (by omega) (fun j p q => ?_) fr10
      by_cases zz : j = i
      · rw [zz, a8, hy]
      · rw [fl11 3443 j (by omega)]; exact g j p (by omega)
    · refine T_of (fX12_laysLine_J328.eq_1 ..) ?_
      refine T_let (y + 0) (v_wid (by omega)) ?_
      refine T_let (i + 1) (v_wid (by omega)) ?_
      have ey : y_sm2 s0 u (i + 1) = y_sm2 s0 u i + 0 := by
        unfold y_sm2; rw [if_neg ha, if_neg ha]; rfl
      refine ih F _ _ _ (by omega) (by omega) (by omega) (by omega) (fun j p q => ?_) fr10
      by_cases zz : j = i
      · rw [zz, a8, hy]
      · rw [fl11 3443 j (by omega)]; exact g j p (by omega)
/-- the row of block k, which begins at u in the line from a to b -/
def y_BW (D s : z_M) (k a b ln u : Int) : Prop := s (3452 + k) 0 = u ∧ s (3452 + k) 1 = y_e D a b u - u + 1 ∧ s (3452 + k) 2 = y_sum (D 1) u (y_e D a b u - u + 1).toNat ∧ s (3452 + k) 3 = y_ov D a b u ∧ s (3452 + k) 4 = y_wa D a b u - y_pA D a b ln u ∧ s (3452 + k) 5 = y_wb D a b (y_e D a b u) - y_pB D a b ln (y_e D a b u) ∧ s (3452 + k) 6 = y_pA D a b ln u ∧ s (3452 + k) 7 = y_pB D a b ln (y_e D a b u)
theorem y_BW.fr {D s s' : z_M} {k a b ln u : Int} (h : y_BW D s k a b ln u) (f : ∀ j : Int, s' (3452 + k) j = s (3452 + k) j) : y_BW D s' k a b ln u := by
  unfold y_BW at h ⊢
  rw [f, f, f, f, f, f, f, f]; exact h
theorem em_addsBlock {fu : Nat} {D s : z_M} {n a b ln u l k c : Int} (d : y_DF D n) (hA : 0 ≤ a) (hB : b < n) (hn : n ≤ 200) (hu : a ≤ u ∧ u ≤ b) (hl : 0 ≤ l ∧ l < 200) (hln : 0 ≤ ln ∧ ln ≤ 6) (lnr : y_LN D s a b ln) (sa : y_sa D a u) (ek : s 309 58 = k) (hk : 0 ≤ k ∧ k < 200) (ec : s 3448 l = c) (hc : 0 ≤ c ∧ c < 1000) :
    z_T (fX12_addsBlock fu s 309 u l) (fun v s' => v = vN ∧ y_BW D s' k a b ln u ∧ s' 309 58 = k + 1 ∧ s' 3448 l = c + 1 ∧ ∀ x y : Int, ¬ (x = 3452 + k ∨ (x = 309 ∧ y = 58) ∨ (x = 3448 ∧ y = l)) → s' x y = s x y) := by
  have bl := y_Bl.of hu.1 hu.2 sa
  have z1 := bl.2.1
  have z2 := bl.2.2.1
  have p1 := y_pAB_r (ln := ln) d hA hB hn hu hln
  have p2 := y_pAB_r (ln := ln) d hA hB hn (u := y_e D a b u) ⟨by omega, z2⟩ hln
  have w1 := y_wab_b d hA hB hn hu
  have w2 := y_wab_b d hA hB hn (u := y_e D a b u) ⟨by omega, z2⟩
  obtain ⟨_, ru2, ru3, ru4, ru5, ru6, ru7⟩ := lnr.1 u hu.1 hu.2
  obtain ⟨_, rz2, rz3, rz4, rz5, rz6, rz7⟩ := lnr.1 (y_e D a b u) (by omega) z2
  rw [if_pos sa] at ru4
  have ru8 := ru7 sa
  clear ru7 rz7 rz4
  refine T_of (fX12_addsBlock.eq_1 ..) ?_
  refine T_if1 v_ob309 ?_
  refine T_let 3451 v_gm59 ?_
  refine T_if1 v_ob309 ?_
  refine T_let k ek ?_
  refine T_if1 (v_x3451 (by omega)) ?_
  refine T_let (3452 + k) (gr_3451 _) ?_
  refine T_if1 v_ob309 ?_
  refine T_let 3229 v_gm30 ?_
  refine T_if1 (v_x3229 (by omega)) ?_
  refine T_let (y_e D a b u - u + 1) ru4 ?_
  refine T_let (y_e D a b u + 1) (by rw [v_wid (by omega)]; omega) ?_
  refine T_let (y_e D a b u) (by rw [v_wid (by omega)]; omega) ?_
  refine T_if1 (v_xb (by omega) (by omega)) ?_
  refine T_upG (fun sx12 a13 f14 => ?_)
  have fr15 : ∀ x y : Int, ¬ (x = 3452 + k ∨ (x = 309 ∧ y = 58) ∨ (x = 3448 ∧ y = l)) → sx12 x y = s x y := fun x y q => f14 x y (by omega)
  have rb0_16 : sx12 (3452 + k) 0 = u := a13
  have k5817 : sx12 309 58 = k := (f14 309 58 (by omega)).trans ek
  have k4818 : sx12 3448 l = c := (f14 3448 l (by omega)).trans ec
  refine T_if1 v_ob309 ?_
  refine T_let 3229 v_gm30 ?_
  refine T_if1 (v_x3229 (by omega)) ?_
  refine T_let (y_e D a b u - u + 1) ((fr15 3229 u (by omega)).trans ru4) ?_
  refine T_if1 (v_xb (by omega) (by omega)) ?_
  refine T_upG (fun sx19 a20 f21 => ?_)
  have fr22 : ∀ x y : Int, ¬ (x = 3452 + k ∨ (x = 309 ∧ y = 58) ∨ (x = 3448 ∧ y = l)) → sx19 x y = s x y := fun x y q => (f21 x y (by omega)).trans (fr15 x y q)
  have rb0_23 : sx19 (3452 + k) 0 = u := (f21 (3452 + k) 0 (by omega)).trans rb0_16
  have rb1_24 : sx19 (3452 + k) 1 = y_e D a b u - u + 1 := a20
  have k5825 : sx19 309 58 = k := (f21 309 58 (by omega)).trans k5817
  have k4826 : sx19 3448 l = c := (f21 3448 l (by omega)).trans k4818
  refine T_if1 v_ob309 ?_
  refine T_let 3233 v_gm34 ?_
  refine T_if1 (v_x3233 (by omega)) ?_
  refine T_let (y_sum (D 1) u (y_e D a b u - u + 1).toNat) ((fr22 3233 u (by omega)).trans ru8.2) ?_
  refine T_if1 (v_xb (by omega) (by omega)) ?_
  refine T_upG (fun sx27 a28 f29 => ?_)
  have fr30 : ∀ x y : Int, ¬ (x = 3452 + k ∨ (x = 309 ∧ y = 58) ∨ (x = 3448 ∧ y = l)) → sx27 x y = s x y := fun x y q => (f29 x y (by omega)).trans (fr22 x y q)
  have rb0_31 : sx27 (3452 + k) 0 = u := (f29 (3452 + k) 0 (by omega)).trans rb0_23
  have rb1_32 : sx27 (3452 + k) 1 = y_e D a b u - u + 1 := (f29 (3452 + k) 1 (by omega)).trans rb1_24
  have rb2_33 : sx27 (3452 + k) 2 = y_sum (D 1) u (y_e D a b u - u + 1).toNat := a28
  have k5834 : sx27 309 58 = k := (f29 309 58 (by omega)).trans k5825
  have k4835 : sx27 3448 l = c := (f29 3448 l (by omega)).trans k4826
  refine T_if1 v_ob309 ?_
  refine T_let 3232 v_gm33 ?_
  refine T_if1 (v_x3232 (by omega)) ?_
  refine T_let (y_ov D a b u) ((fr30 3232 u (by omega)).trans ru8.1) ?_
  refine T_if1 (v_xb (by omega) (by omega)) ?_
  refine T_upG (fun sx36 a37 f38 => ?_)
  have fr39 : ∀ x y : Int, ¬ (x = 3452 + k ∨ (x = 309 ∧ y = 58) ∨ (x = 3448 ∧ y = l)) → sx36 x y = s x y := fun x y q => (f38 x y (by omega)).trans (fr30 x y q)
  have rb0_40 : sx36 (3452 + k) 0 = u := (f38 (3452 + k) 0 (by omega)).trans rb0_31
  have rb1_41 : sx36 (3452 + k) 1 = y_e D a b u - u + 1 := (f38 (3452 + k) 1 (by omega)).trans rb1_32
  have rb2_42 : sx36 (3452 + k) 2 = y_sum (D 1) u (y_e D a b u - u + 1).toNat := (f38 (3452 + k) 2 (by omega)).trans rb2_33
  have rb3_43 : sx36 (3452 + k) 3 = y_ov D a b u := a37
  have k5844 : sx36 309 58 = k := (f38 309 58 (by omega)).trans k5834
  have k4845 : sx36 3448 l = c := (f38 3448 l (by omega)).trans k4835
  refine T_if1 v_ob309 ?_
  refine T_let 3230 v_gm31 ?_
  refine T_if1 (v_x3230 (by omega)) ?_
  refine T_let (y_wa D a b u) ((fr39 3230 u (by omega)).trans ru5) ?_
  refine T_if1 v_ob309 ?_
  refine T_let 3227 v_gm28 ?_
  refine T_if1 (v_x3227 (by omega)) ?_
  refine T_let (y_pA D a b ln u) ((fr39 3227 u (by omega)).trans ru2) ?_
  refine T_let ((y_wa D a b u) - (y_pA D a b ln u)) (v_wid (by omega)) ?_
  refine T_if1 (v_xb (by omega) (by omega)) ?_
  refine T_upG (fun sx46 a47 f48 => ?_)
  have fr49 : ∀ x y : Int, ¬ (x = 3452 + k ∨ (x = 309 ∧ y = 58) ∨ (x = 3448 ∧ y = l)) → sx46 x y = s x y := fun x y q => (f48 x y (by omega)).trans (fr39 x y q)
  have rb0_50 : sx46 (3452 + k) 0 = u := (f48 (3452 + k) 0 (by omega)).trans rb0_40
  have rb1_51 : sx46 (3452 + k) 1 = y_e D a b u - u + 1 := (f48 (3452 + k) 1 (by omega)).trans rb1_41
  have rb2_52 : sx46 (3452 + k) 2 = y_sum (D 1) u (y_e D a b u - u + 1).toNat := (f48 (3452 + k) 2 (by omega)).trans rb2_42
  have rb3_53 : sx46 (3452 + k) 3 = y_ov D a b u := (f48 (3452 + k) 3 (by omega)).trans rb3_43
  have rb4_54 : sx46 (3452 + k) 4 = y_wa D a b u - y_pA D a b ln u := a47
  have k5855 : sx46 309 58 = k := (f48 309 58 (by omega)).trans k5844
  have k4856 : sx46 3448 l = c := (f48 3448 l (by omega)).trans k4845
  refine T_if1 v_ob309 ?_
  refine T_let 3231 v_gm32 ?_
  refine T_if1 (v_x3231 (by omega)) ?_
  refine T_let (y_wb D a b (y_e D a b u)) ((fr49 3231 (y_e D a b u) (by omega)).trans rz6) ?_
  refine T_if1 v_ob309 ?_
  refine T_let 3228 v_gm29 ?_
  refine T_if1 (v_x3228 (by omega)) ?_
  refine T_let (y_pB D a b ln (y_e D a b u)) ((fr49 3228 (y_e D a b u) (by omega)).trans rz3) ?_
  refine T_let ((y_wb D a b (y_e D a b u)) - (y_pB D a b ln (y_e D a b u))) (v_wid (by omega)) ?_
  refine T_if1 (v_xb (by omega) (by omega)) ?_
  refine T_upG (fun sx57 a58 f59 => ?_)
  have fr60 : ∀ x y : Int, ¬ (x = 3452 + k ∨ (x = 309 ∧ y = 58) ∨ (x = 3448 ∧ y = l)) → sx57 x y = s x y := fun x y q => (f59 x y (by omega)).trans (fr49 x y q)
  have rb0_61 : sx57 (3452 + k) 0 = u := (f59 (3452 + k) 0 (by omega)).trans rb0_50
  have rb1_62 : sx57 (3452 + k) 1 = y_e D a b u - u + 1 := (f59 (3452 + k) 1 (by omega)).trans rb1_51
  have rb2_63 : sx57 (3452 + k) 2 = y_sum (D 1) u (y_e D a b u - u + 1).toNat := (f59 (3452 + k) 2 (by omega)).trans rb2_52
  have rb3_64 : sx57 (3452 + k) 3 = y_ov D a b u := (f59 (3452 + k) 3 (by omega)).trans rb3_53
  have rb4_65 : sx57 (3452 + k) 4 = y_wa D a b u - y_pA D a b ln u := (f59 (3452 + k) 4 (by omega)).trans rb4_54
  have rb5_66 : sx57 (3452 + k) 5 = y_wb D a b (y_e D a b u) - y_pB D a b ln (y_e D a b u) := a58
  have k5867 : sx57 309 58 = k := (f59 309 58 (by omega)).trans k5855
  have k4868 : sx57 3448 l = c := (f59 3448 l (by omega)).trans k4856
  refine T_if1 v_ob309 ?_
  refine T_let 3227 v_gm28 ?_
  refine T_if1 (v_x3227 (by omega)) ?_
  refine T_let (y_pA D a b ln u) ((fr60 3227 u (by omega)).trans ru2) ?_
  refine T_if1 (v_xb (by omega) (by omega)) ?_
  refine T_upG (fun sx69 a70 f71 => ?_)
  have fr72 : ∀ x y : Int, ¬ (x = 3452 + k ∨ (x = 309 ∧ y = 58) ∨ (x = 3448 ∧ y = l)) → sx69 x y = s x y := fun x y q => (f71 x y (by omega)).trans (fr60 x y q)
  have rb0_73 : sx69 (3452 + k) 0 = u := (f71 (3452 + k) 0 (by omega)).trans rb0_61
  have rb1_74 : sx69 (3452 + k) 1 = y_e D a b u - u + 1 := (f71 (3452 + k) 1 (by omega)).trans rb1_62
  have rb2_75 : sx69 (3452 + k) 2 = y_sum (D 1) u (y_e D a b u - u + 1).toNat := (f71 (3452 + k) 2 (by omega)).trans rb2_63
  have rb3_76 : sx69 (3452 + k) 3 = y_ov D a b u := (f71 (3452 + k) 3 (by omega)).trans rb3_64
  have rb4_77 : sx69 (3452 + k) 4 = y_wa D a b u - y_pA D a b ln u := (f71 (3452 + k) 4 (by omega)).trans rb4_65
  have rb5_78 : sx69 (3452 + k) 5 = y_wb D a b (y_e D a b u) - y_pB D a b ln (y_e D a b u) := (f71 (3452 + k) 5 (by omega)).trans rb5_66
  have rb6_79 : sx69 (3452 + k) 6 = y_pA D a b ln u := a70
  have k5880 : sx69 309 58 = k := (f71 309 58 (by omega)).trans k5867
  have k4881 : sx69 3448 l = c := (f71 3448 l (by omega)).trans k4868
  refine T_if1 v_ob309 ?_
  refine T_let 3228 v_gm29 ?_
  refine T_if1 (v_x3228 (by omega)) ?_
  refine T_let (y_pB D a b ln (y_e D a b u)) ((fr72 3228 (y_e D a b u) (by omega)).trans rz3) ?_
  refine T_if1 (v_xb (by omega) (by omega)) ?_
  refine T_upG (fun sx82 a83 f84 => ?_)
  have fr85 : ∀ x y : Int, ¬ (x = 3452 + k ∨ (x = 309 ∧ y = 58) ∨ (x = 3448 ∧ y = l)) → sx82 x y = s x y := fun x y q => (f84 x y (by omega)).trans (fr72 x y q)
  have rb0_86 : sx82 (3452 + k) 0 = u := (f84 (3452 + k) 0 (by omega)).trans rb0_73
  have rb1_87 : sx82 (3452 + k) 1 = y_e D a b u - u + 1 := (f84 (3452 + k) 1 (by omega)).trans rb1_74
  have rb2_88 : sx82 (3452 + k) 2 = y_sum (D 1) u (y_e D a b u - u + 1).toNat := (f84 (3452 + k) 2 (by omega)).trans rb2_75
  have rb3_89 : sx82 (3452 + k) 3 = y_ov D a b u := (f84 (3452 + k) 3 (by omega)).trans rb3_76
  have rb4_90 : sx82 (3452 + k) 4 = y_wa D a b u - y_pA D a b ln u := (f84 (3452 + k) 4 (by omega)).trans rb4_77
  have rb5_91 : sx82 (3452 + k) 5 = y_wb D a b (y_e D a b u) - y_pB D a b ln (y_e D a b u) := (f84 (3452 + k) 5 (by omega)).trans rb5_78
  have rb6_92 : sx82 (3452 + k) 6 = y_pA D a b ln u := (f84 (3452 + k) 6 (by omega)).trans rb6_79
  have rb7_93 : sx82 (3452 + k) 7 = y_pB D a b ln (y_e D a b u) := a83
  have k5894 : sx82 309 58 = k := (f84 309 58 (by omega)).trans k5880
  have k4895 : sx82 3448 l = c := (f84 3448 l (by omega)).trans k4881
  refine T_if1 v_ob309 ?_
  refine T_let k k5894 ?_
  refine T_let (k + 1) (v_wid (by omega)) ?_
  refine T_if1 v_ob309 ?_
  refine T_upG (fun sx96 a97 f98 => ?_)
  have fr99 : ∀ x y : Int, ¬ (x = 3452 + k ∨ (x = 309 ∧ y = 58) ∨ (x = 3448 ∧ y = l)) → sx96 x y = s x y := fun x y q => (f98 x y (by omega)).trans (fr85 x y q)
  have rb0_100 : sx96 (3452 + k) 0 = u := (f98 (3452 + k) 0 (by omega)).trans rb0_86
  have rb1_101 : sx96 (3452 + k) 1 = y_e D a b u - u + 1 := (f98 (3452 + k) 1 (by omega)).trans rb1_87
  have rb2_102 : sx96 (3452 + k) 2 = y_sum (D 1) u (y_e D a b u - u + 1).toNat := (f98 (3452 + k) 2 (by omega)).trans rb2_88
  have rb3_103 : sx96 (3452 + k) 3 = y_ov D a b u := (f98 (3452 + k) 3 (by omega)).trans rb3_89
  have rb4_104 : sx96 (3452 + k) 4 = y_wa D a b u - y_pA D a b ln u := (f98 (3452 + k) 4 (by omega)).trans rb4_90
  have rb5_105 : sx96 (3452 + k) 5 = y_wb D a b (y_e D a b u) - y_pB D a b ln (y_e D a b u) := (f98 (3452 + k) 5 (by omega)).trans rb5_91
  have rb6_106 : sx96 (3452 + k) 6 = y_pA D a b ln u := (f98 (3452 + k) 6 (by omega)).trans rb6_92
  have rb7_107 : sx96 (3452 + k) 7 = y_pB D a b ln (y_e D a b u) := (f98 (3452 + k) 7 (by omega)).trans rb7_93
  have k58108 : sx96 309 58 = k + 1 := a97
  have k48109 : sx96 3448 l = c := (f98 3448 l (by omega)).trans k4895
  refine T_if1 v_ob309 ?_
  refine T_let 3448 v_gm55 ?_
  refine T_if1 (v_x3448 (by omega)) ?_
  refine T_let c k48109 ?_
  refine T_let (c + 1) (v_wid (by omega)) ?_
  refine T_if1 (v_x3448 (by omega)) ?_
  refine T_upG (fun sx110 a111 f112 => ?_)
  have fr113 : ∀ x y : Int, ¬ (x = 3452 + k ∨ (x = 309 ∧ y = 58) ∨ (x = 3448 ∧ y = l)) → sx110 x y = s x y := fun x y q => (f112 x y (by omega)).trans (fr99 x y q)
  have rb0_114 : sx110 (3452 + k) 0 = u := (f112 (3452 + k) 0 (by omega)).trans rb0_100
  have rb1_115 : sx110 (3452 + k) 1 = y_e D a b u - u + 1 := (f112 (3452 + k) 1 (by omega)).trans rb1_101
  have rb2_116 : sx110 (3452 + k) 2 = y_sum (D 1) u (y_e D a b u - u + 1).toNat := (f112 (3452 + k) 2 (by omega)).trans rb2_102
  have rb3_117 : sx110 (3452 + k) 3 = y_ov D a b u := (f112 (3452 + k) 3 (by omega)).trans rb3_103
  have rb4_118 : sx110 (3452 + k) 4 = y_wa D a b u - y_pA D a b ln u := (f112 (3452 + k) 4 (by omega)).trans rb4_104
  have rb5_119 : sx110 (3452 + k) 5 = y_wb D a b (y_e D a b u) - y_pB D a b ln (y_e D a b u) := (f112 (3452 + k) 5 (by omega)).trans rb5_105
  have rb6_120 : sx110 (3452 + k) 6 = y_pA D a b ln u := (f112 (3452 + k) 6 (by omega)).trans rb6_106
  have rb7_121 : sx110 (3452 + k) 7 = y_pB D a b ln (y_e D a b u) := (f112 (3452 + k) 7 (by omega)).trans rb7_107
  have k58122 : sx110 309 58 = k + 1 := (f112 309 58 (by omega)).trans k58108
  have k48123 : sx110 3448 l = c + 1 := a111
  exact T_ret ⟨rfl, ⟨rb0_114, rb1_115, rb2_116, rb3_117, rb4_118, rb5_119, rb6_120, rb7_121⟩, k58122, k48123, fr113⟩
