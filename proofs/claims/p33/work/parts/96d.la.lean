/-! the reference's layout: all lines -/
theorem y_UMs.fr {D : z_M} {E Q : Int → Int} {s s' : z_M} {l a b c0 u : Int} (h : y_UMs D E Q s l a b c0 u) (f : ∀ x y : Int, y_u6 x → s' x y = s x y) (g : ∀ x v : Int, (x = 3441 ∨ x = 3442 ∨ x = 3444 ∨ x = 3445) → a ≤ v → v < u → s' x v = s x v) (k : ∀ v i : Int, a ≤ v → v < u → s 3221 v ≤ i → i < s 3221 v + s 3222 v → s' 3443 i = s 3443 i) (kb : ∀ n j : Int, c0 ≤ n → n < c0 + y_ns D a u → s' (3452 + n) j = s (3452 + n) j) : y_UMs D E Q s' l a b c0 u := fun v p q => by
  obtain ⟨h1, h2⟩ := h v p q
  refine ⟨h1.fr f (fun x w => g x v w p q) (fun i w w2 => k v i p q w w2), fun sa => (h2 sa).fr (fun j => ?_)⟩
  have n1 := y_ns_b (D := D) (a := a) (u := v) p
  have n2 : y_ns D a (v + 1) = y_ns D a v + y_sdd D a v := y_suS p
  have n3 := y_ns_le (D := D) (a := a) (u := v + 1) (v := u) (by omega) (by omega)
  have sd : y_sdd D a v = 1 := by unfold y_sdd; rw [if_pos sa]
  exact kb _ j (by omega) (by omega)
theorem y_LMl.fr {D : z_M} {E Q : Int → Int} {s s' : z_M} {l a b c0 : Int} (h : y_LMl D E Q s l a b c0) (r : ∀ x : Int, (3446 ≤ x ∧ x ≤ 3450) → s' x l = s x l) (f : ∀ x y : Int, y_u6 x → s' x y = s x y) (g : ∀ x v : Int, (x = 3441 ∨ x = 3442 ∨ x = 3444 ∨ x = 3445) → a ≤ v → v ≤ b → s' x v = s x v) (k : ∀ v i : Int, a ≤ v → v ≤ b → s 3221 v ≤ i → i < s 3221 v + s 3222 v → s' 3443 i = s 3443 i) (kb : ∀ n j : Int, c0 ≤ n → n < c0 + y_ns D a (b + 1) → s' (3452 + n) j = s (3452 + n) j) : y_LMl D E Q s' l a b c0 := by
  obtain ⟨⟨h1, h2, h3, h4, h5⟩, h6⟩ := h
  exact ⟨⟨(r _ (by decide)).trans h1, (r _ (by decide)).trans h2, (r _ (by decide)).trans h3, (r _ (by decide)).trans h4, (r _ (by decide)).trans h5⟩, h6.fr f (fun x v w p q => g x v w p (by omega)) (fun v i p q => k v i p (by omega)) kb⟩
/-- all lines are laid out -/
def y_LYm (D : z_M) (E Q : Int → Int) (s : z_M) : Prop := (∀ l : Int, 0 ≤ l → l < s 309 44 → y_LMl D E Q s l (s 3438 l) (s 3438 (l + 1) - 1) (y_bn D (s 3438) l)) ∧ s 309 58 = y_bn D (s 3438) (s 309 44)
/-- units, LEND, LENGTH, ALIGN -/
def y_qm (s : z_M) (j : Int) : Int := if j = 0 then s 309 20 else if j = 1 then s 312 2 else if j = 2 then s 312 0 else s 312 4
theorem y_qm0 {s : z_M} : y_qm s 0 = s 309 20 := by unfold y_qm; rw [if_pos rfl]
theorem y_qm1 {s : z_M} : y_qm s 1 = s 312 2 := by unfold y_qm; rw [if_neg (by decide), if_pos rfl]
theorem y_qm2 {s : z_M} : y_qm s 2 = s 312 0 := by unfold y_qm; rw [if_neg (by decide), if_neg (by decide), if_pos rfl]
theorem y_qm3 {s : z_M} : y_qm s 3 = s 312 4 := by unfold y_qm; rw [if_neg (by decide), if_neg (by decide), if_neg (by decide)]
/-- lines as they should be -/
def y_LSm (D s : z_M) (nx : Int → Int) (c : Nat) : Prop := y_NX (fun a b => y_LG D a b (s 312 2)) (y_cl2 (y_me D (s 312 7) (s 309 20)) (s 309 20)) (s 309 20) (s 312 0) (s 312 3) nx ∧ (c : Int) ≤ s 309 20 ∧ s 309 44 = c ∧ y_LR nx (s 3438) (s 309 20) c
/-- and laid out -/
def y_LBm (D s : z_M) : Prop := ∃ (nx : Int → Int) (c : Nat), y_LSm D s nx c ∧ y_LYm D (y_me D (s 312 7) (s 309 20)) (y_qm s) s
theorem y_LSm.at {D s : z_M} {nx : Int → Int} {c : Nat} (h : y_LSm D s nx c) {i : Int} (p : 0 ≤ i) (q : i < c) : 0 ≤ s 3438 i ∧ s 3438 i < s 3438 (i + 1) ∧ s 3438 (i + 1) ≤ s 309 20 := h.2.2.2.SV h.1.b p q
theorem y_LSm.le {D s : z_M} {nx : Int → Int} {c : Nat} (h : y_LSm D s nx c) : ∀ i : Int, 0 ≤ i → i < c → s 3438 i ≤ s 3438 (i + 1) := fun i p q => by have w := h.at p q; omega
/-- blocks are fewer than units -/
theorem y_bi_r {D : z_M} {r : Int → Int} {c n : Int} (hr : ∀ i : Int, 0 ≤ i → i < c → 0 ≤ r i ∧ r i < r (i + 1) ∧ r (i + 1) ≤ n) : ∀ (m : Nat) (l : Int), (m : Int) = l → l ≤ c → 0 ≤ y_bn D r l ∧ (0 < l → y_bn D r l ≤ r l) := by
  intro m
  induction m with
  | zero => intro l e _; have e0 : l = 0 := by omega
            subst e0; unfold y_bn; rw [y_su0]; exact ⟨Int.le_refl 0, fun w => by omega⟩
  | succ m ih =>
    intro l e h1
    have w := ih (l - 1) (by omega) (by omega)
    have h2 := hr (l - 1) (by omega) (by omega)
    have h3 := y_bi_s (D := D) (r := r) (l := l - 1) (by omega)
    rw [show l - 1 + 1 = l by omega] at h2 h3
    have h4 := y_ns_b (D := D) (a := r (l - 1)) (u := r l) (by omega)
    refine ⟨by omega, fun _ => ?_⟩
    by_cases z : 0 < l - 1
    · have := w.2 z; omega
    · have e0 : l - 1 = 0 := by omega
      have b0 : y_bn D r (l - 1) = 0 := by rw [e0]; exact y_su0
      omega
theorem y_LBm.fr {D s s' : z_M} (h : y_LBm D s) (e20 : s' 309 20 = s 309 20) (e44 : s' 309 44 = s 309 44) (e58 : s' 309 58 = s 309 58) (f : ∀ x y : Int, (y_u6 x ∨ x = 3438 ∨ (3441 ≤ x ∧ x ≤ 3450) ∨ (3452 ≤ x ∧ x ≤ 3651)) → s' x y = s x y) (n2 : s 309 20 ≤ 200) : y_LBm D s' := by
  obtain ⟨nx, c, hs, h5, h6⟩ := h
  have hat := fun i p q => hs.at (i := i) p q
  obtain ⟨h1, h2, h3, h4⟩ := hs
  have e12 : ∀ j : Int, s' 312 j = s 312 j := fun j => f 312 j (by omega)
  have e38 : s' 3438 = s 3438 := funext fun j => f 3438 j (by omega)
  have eq : y_qm s' = y_qm s := funext fun j => by unfold y_qm; rw [e20, e12, e12, e12]
  refine ⟨nx, c, ⟨by rw [e20, e12, e12, e12, e12]; exact h1, by rw [e20]; exact h2, e44.trans h3, by rw [e38, e20]; exact h4⟩, fun l p q => ?_, by rw [e58, e38, e44]; exact h6⟩
  rw [e44] at q
  rw [e12, e20, eq, e38]
  have ql : l < (c : Int) := by omega
  have r1 := hat l p ql
  refine (h5 l p q).fr (fun x w => f x l (by omega)) (fun x y w => f x y (by omega)) (fun x v w _ _ => f x v (by omega)) (fun v i _ _ _ _ => f 3443 i (by omega)) (fun n j w w2 => ?_)
  have b0 := (y_bi_r (D := D) hat l.toNat l (by omega) (by omega)).1
  have b1 := (y_bi_r (D := D) hat (l + 1).toNat (l + 1) (by omega) (by omega)).2 (by omega)
  have bs := y_bi_s (D := D) (r := s 3438) p
  rw [show s 3438 (l + 1) - 1 + 1 = s 3438 (l + 1) by omega] at w2
  exact f (3452 + n) j (by omega)
/-- cells that laying out all lines writes on -/
abbrev y_law (x y : Int) : Prop := (3441 ≤ x ∧ x ≤ 3450) ∨ (3452 ≤ x ∧ x ≤ 3651) ∨ (x = 309 ∧ (y = 58 ∨ y = 35)) ∨ (3224 ≤ x ∧ x ≤ 3233)
theorem em_laL {fu : Nat} (hfu : 8589934592 ≤ fu) {D s0 : z_M} {Q r : Int → Int} {tt n c : Int} (mp0 : y_MP D s0) (fm : y_FM s0) (eT : s0 312 7 = tt) (en : s0 309 20 = n) (hw : ∀ u : Int, 0 ≤ u → u < n → 1 ≤ D 1 u) (q1 : 0 ≤ Q 1 ∧ Q 1 ≤ 6) (q2 : 0 ≤ Q 2 ∧ Q 2 ≤ 10000) (eQ0 : Q 0 = n) (eQ1 : s0 312 2 = Q 1) (eQ2 : s0 312 0 = Q 2) (eQ3 : s0 312 4 = Q 3) (ec : s0 309 44 = c) (hc : 0 ≤ c ∧ c ≤ 200) (er : s0 3438 = r)
    (hr : ∀ i : Int, 0 ≤ i → i < c → 0 ≤ r i ∧ r i < r (i + 1) ∧ r (i + 1) ≤ n) {k : z_M → z_O} {P : z_V → z_M → Prop}
    (hk : ∀ s' : z_M, (∀ l : Int, 0 ≤ l → l < c → y_LMl D (y_me D tt n) Q s' l (r l) (r (l + 1) - 1) (y_bn D r l)) → s' 309 58 = y_bn D r c → y_MP D s' → (∀ x y : Int, ¬ y_law x y → s' x y = s0 x y) → z_T (k s') P) :
    ∀ (m F : Nat) (s : z_M) (l : Int), (m : Int) = c - l → m < F → 0 ≤ l → (∀ j : Int, 0 ≤ j → j < l → y_LMl D (y_me D tt n) Q s j (r j) (r (j + 1) - 1) (y_bn D r j)) → s 309 58 = y_bn D r l → (∀ x y : Int, ¬ y_law x y → s x y = s0 x y) → z_T (fX12_laysAll_L39 fu 309 F s l k) P := by
  have n2 : 0 ≤ n ∧ n ≤ 200 := by rw [← en]; exact mp0.1.1.1
  have hr1 : ∀ i : Int, 0 ≤ i → i < c → r i ≤ r (i + 1) := fun i p q => by have := hr i p q; omega
  intro m
  induction m with
  | zero =>
    intro F s l h1 hF h3 g e58 f
    obtain ⟨F, rfl⟩ : ∃ F2, F = F2 + 1 := ⟨F - 1, by omega⟩
    have el : l = c := by omega
    subst el
    refine T_of (fX12_laysAll_L39.eq_2 ..) ?_
    refine T_if1 v_ob309 ?_
    refine T_let l ((f 309 44 (by omega)).trans ec) ?_
    refine T_if1 (Int.le_refl _) ?_
    exact hk s g e58 (mp0.fr (fun p q w w2 => f p q (by omega))) f
  | succ m ih =>
    intro F s l h1 hF h3 g e58 f
    obtain ⟨F, rfl⟩ : ∃ F2, F = F2 + 1 := ⟨F - 1, by omega⟩
    have lc : l < c := by omega
    have rl := hr l h3 lc
    have mp := mp0.fr (fun p q w w2 => f p q (by omega))
    have e1 : s 3221 = s0 3221 := funext fun v => f 3221 v (by omega)
    have e2 : s 3222 = s0 3222 := funext fun v => f 3222 v (by omega)
    have e20 : s 309 20 = s0 309 20 := f 309 20 (by omega)
    have es : s 3438 = r := (funext fun v => f 3438 v (by omega)).trans er
    have b0 := y_bi_r (D := D) hr l.toNat l (by omega) (by omega)
    have bl : y_bn D r l ≤ r l := by
      by_cases z : 0 < l
      · exact b0.2 z
      · have e0 : l = 0 := by omega
        have w : y_bn D r l = 0 := by rw [e0]; exact y_su0
        omega
    have bs := y_bi_s (D := D) (r := r) h3
    have nsb := y_ns_b (D := D) (a := r l) (u := r (l + 1)) (by omega)
    refine T_of (fX12_laysAll_L39.eq_2 ..) ?_
    refine T_if1 v_ob309 ?_
    refine T_let c ((f 309 44 (by omega)).trans ec) ?_
    refine T_if0 (by omega) ?_
    refine T_if1 v_ob309 ?_
    refine T_useN (em_laysLine hfu mp (fun v u p q w => by rw [e1, e2]; exact fm v u p q (by rw [← e20]; exact w)) ((f 312 7 (by omega)).trans eT) (e20.trans en) hw (l := l) (a := r l) (b := r (l + 1) - 1) (c0 := y_bn D r l) (by rw [es]) (by rw [es]; omega) rl.1 (by omega) (by omega) ⟨h3, by omega⟩ q1 q2 eQ0 ((f 312 2 (by omega)).trans eQ1) ((f 312 0 (by omega)).trans eQ2) ((f 312 4 (by omega)).trans eQ3) ⟨b0.1, bl⟩ e58) (fun v9 s2 hq => ?_)
    obtain ⟨rfl, lm, c9, mp2, f2⟩ := hq
    refine T_vN ?_
    rw [e1] at f2
    rw [show r (l + 1) - 1 + 1 = r (l + 1) by omega, ← bs] at c9
    refine T_let (l + 1) (v_wid (by omega)) ?_
    refine ih F s2 (l + 1) (by omega) (by omega) (by omega) (fun j p q => ?_) c9 (fun x y w => (f2 x y (by omega)).trans (f x y w))
    by_cases zz : j = l
    · subst zz
      exact lm
    · have jb := y_bi_le hr1 (l - (j + 1)).toNat (j + 1) l (by omega) (by omega) (by omega) (D := D)
      have rj := y_r_le hr1 (l - (j + 1)).toNat (j + 1) l (by omega) (by omega) (by omega)
      have r0 := hr j p (by omega)
      have bj := y_bi_s (D := D) (r := r) p
      have b0j := (y_bi_r (D := D) hr j.toNat j (by omega) (by omega)).1
      refine (g j p (by omega)).fr (fun x w => f2 x j (by omega)) (fun x y w => f2 x y (by omega)) (fun x v w p q => f2 x v (by omega)) (fun v i p q w w2 => f2 3443 i ?_) (fun n2 j2 w w2 => f2 _ j2 ?_)
      · rw [e1] at w w2
        rw [e2] at w2
        have d := fm v (r l) (by omega) (by omega) (by omega)
        omega
      · rw [show r (j + 1) - 1 + 1 = r (j + 1) by omega] at w2
        omega
/-- cells that laysAll writes on -/
abbrev y_law2 (x y : Int) : Prop := y_fw x y ∨ y_law x y ∨ (3438 ≤ x ∧ x ≤ 3440) ∨ (x = 309 ∧ (y = 43 ∨ y = 44))
theorem em_laysAll {fu : Nat} (hfu : 8589934592 ≤ fu) {D s : z_M} (ci : z_CI s) (yB : y_B s) (mk : y_Mk D s s) (fm : y_FM s) (hw : ∀ u : Int, 0 ≤ u → u < s 309 20 → 1 ≤ D 1 u) (q2 : 0 ≤ s 312 0 ∧ s 312 0 ≤ 10000) (lb : s 309 36 = 0 ∨ s 309 43 = 0 ∨ y_LBm D s) :
    z_T (fX12_laysAll fu s 309) (fun v s' => v = vN ∧ y_LBm D s' ∧ y_MP D s' ∧ s' 309 43 ≠ 0 ∧ ∀ x y : Int, ¬ y_law2 x y → s' x y = s x y) := by
  have nn := mk.1.1.1
  obtain ⟨mT, mL⟩ := mk.2.2.1
  refine T_of (fX12_laysAll.eq_1 ..) ?_
  refine T_if1 v_ob309 ?_
  refine T_useN (T_and (sf_X12_freshens_309 hfu s ci yB) (em_freshens hfu mk.1 mT mk.2.1)) (fun v9 s1 hq => ?_)
  obtain ⟨⟨ci1, _⟩, rfl, k36, kf, same, ke, f1⟩ := hq
  refine T_vN ?_
  have e12 : ∀ j : Int, s1 312 j = s 312 j := fun j => f1 312 j (by omega)
  have e20 : s1 309 20 = s 309 20 := f1 309 20 (by omega)
  have mu1 : y_MU2 D s1 := mk.1.fr e20 (fun a b p q => f1 a b (by omega)) (fun j _ => e12 j)
  have mk1 : y_Mk D s1 s1 := ⟨mu1, Or.inr kf, ⟨by rw [e12]; exact mT, by rw [e12]; exact mL⟩, fun _ _ _ _ _ => rfl⟩
  have yB1 : y_B s1 := yB.fr e20 (f1 316 0 (by omega)) (fun b => f1 3220 b (by omega)) (fun b => f1 3221 b (by omega)) (fun b => f1 3222 b (by omega)) (fun b => f1 361 b (by omega))
  refine T_if1 v_ob309 ?_
  refine T_let (s1 309 43) rfl ?_
  refine T_ite (fun q43 => ?_) (fun q43 => ?_)
  · refine T_if1 v_ob309 ?_
    refine T_let 312 v_gm9 ?_
    refine T_if1 (v_x312 (by omega)) ?_
    refine T_let (s1 312 0) rfl ?_
    refine T_if1 v_ob309 ?_
    refine T_let 312 v_gm9 ?_
    refine T_if1 (v_x312 (by omega)) ?_
    refine T_let (s1 312 3) rfl ?_
    refine T_if1 v_ob309 ?_
    refine T_useI (T_and (sf_X12_breaks_309 hfu s1 ci1 (s1 312 0) (s1 312 3) (by have w := CI_b ci1 (k := 312) (j := 0) (bdr_312 0); omega) (by have w := CI_b ci1 (k := 312) (j := 3) (bdr_312 3); omega) yB1) (em_breaks hfu mk1 rfl (by rw [e12]; exact q2) (md := s1 312 3))) (fun v9 s2 hq => ?_)
    obtain ⟨⟨_, _, _, g36, _⟩, nx, c, rfl, nxd, hc, lr, mk2, f2⟩ := hq
    refine T_vI ?_
    have k36b : s2 309 36 ≠ 0 := g36.resolve_left k36
    have kf2 := mk2.2.1.resolve_left k36b
    have mp2 : y_MP D s2 := ⟨mk2.1, k36b, kf2, mk2.2.2.1⟩
    have d12 : ∀ j : Int, s2 312 j = s 312 j := fun j => (f2 312 j (by omega) (by omega) (by omega) (by omega)).trans (e12 j)
    have d20 : s2 309 20 = s 309 20 := (f2 309 20 (by omega) (by omega) (by omega) (by omega)).trans e20
    have fr0 : ∀ x y : Int, ¬ y_law2 x y → s2 x y = s x y := fun x y w => (f2 x y (by omega) (by omega) (by omega) (by omega)).trans (f1 x y (by omega))
    clear f1 f2 mk1 mu1 kf kf2 mk2 yB1 ci1 same ke
    refine T_if1 v_ob309 ?_
    refine T_upG (fun sx1 a2 f3 => ?_)
    have fr4 : ∀ x y : Int, ¬ y_law2 x y → sx1 x y = s x y := fun x y w => (f3 x y (by omega)).trans (fr0 x y w)
    have mp5 := mp2.fr (fun p q w w2 => f3 p q (by omega))
    have k446 : sx1 309 44 = c := a2
    have fz7 : ∀ x y : Int, x ≠ 309 → sx1 x y = s2 x y := fun x y w => f3 x y (by omega)
    refine T_if1 v_ob309 ?_
    refine T_upG (fun sx8 a9 f10 => ?_)
    have fr11 : ∀ x y : Int, ¬ y_law2 x y → sx8 x y = s x y := fun x y w => (f10 x y (by omega)).trans (fr4 x y w)
    have mp12 := mp5.fr (fun p q w w2 => f10 p q (by omega))
    have k4413 : sx8 309 44 = c := (f10 309 44 (by omega)).trans k446
    have k5814 : sx8 309 58 = 0 := a9
    have fz15 : ∀ x y : Int, x ≠ 309 → sx8 x y = s2 x y := fun x y w => (f10 x y (by omega)).trans (fz7 x y w)
    have at0 : ∀ i : Int, 0 ≤ i → i < (c : Int) → 0 ≤ s2 3438 i ∧ s2 3438 i < s2 3438 (i + 1) ∧ s2 3438 (i + 1) ≤ s1 309 20 := fun i p q => lr.SV nxd.b p q
    rw [e20] at at0 hc
    have z38 : sx8 3438 = s2 3438 := funext fun i => fz15 3438 i (by omega)
    have z21 : sx8 3221 = s 3221 := funext fun i => fr11 3221 i (by omega)
    have z22 : sx8 3222 = s 3222 := funext fun i => fr11 3222 i (by omega)
    refine em_laL (D := D) (Q := y_qm s) (r := s2 3438) (c := (c : Int)) (tt := s 312 7) (n := s 309 20) (s0 := sx8) hfu mp12 (fun v u p q w => by rw [z21, z22]; exact fm v u p q (by rw [← fr11 309 20 (by omega)]; exact w)) (fr11 312 7 (by omega)) (fr11 309 20 (by omega)) hw (by rw [y_qm1]; exact mL) (by rw [y_qm2]; exact q2) y_qm0 (by rw [y_qm1]; exact fr11 312 2 (by omega)) (by rw [y_qm2]; exact fr11 312 0 (by omega)) (by rw [y_qm3]; exact fr11 312 4 (by omega)) k4413 ⟨by omega, by omega⟩ z38 at0 (fun s5 g5 g58 mp5 f5 => ?_) c fu sx8 0 (by omega) (by omega) (Int.le_refl 0) (fun j p q => by omega) (by rw [k5814]; exact y_su0.symm) (fun _ _ _ => rfl)
    have fr5 : ∀ x y : Int, ¬ y_law2 x y → s5 x y = s x y := fun x y w => (f5 x y (by omega)).trans (fr11 x y w)
    have m44 : s5 309 44 = c := (f5 309 44 (by omega)).trans k4413
    have m38 : s5 3438 = s2 3438 := funext fun i => (f5 3438 i (by omega)).trans (fz15 3438 i (by omega))
    refine T_if1 ⟨v_ob309, bl1⟩ ?_
    refine T_upG (fun sx16 a17 f18 => ?_)
    have f919 := f18
    have m12 : ∀ j : Int, sx16 312 j = s 312 j := fun j => (f919 312 j (by omega)).trans (fr5 312 j (by omega))
    have m20 : sx16 309 20 = s 309 20 := (f919 309 20 (by omega)).trans (fr5 309 20 (by omega))
    have m38b : sx16 3438 = s2 3438 := (funext fun i => f919 3438 i (by omega)).trans m38
    have m44b : sx16 309 44 = c := (f919 309 44 (by omega)).trans m44
    have mq : y_qm sx16 = y_qm s := funext fun j => by unfold y_qm; rw [m20, m12, m12, m12]
    rw [e12, e12, e12, e12, e20] at nxd
    rw [e20] at lr
    refine T_ret ⟨rfl, ⟨nx, c, ⟨by rw [m12, m12, m12, m12, m20]; exact nxd, by rw [m20]; exact hc, m44b, by rw [m38b, m20]; exact lr⟩, fun l p q => ?_, ?_⟩, mp5.fr (fun p q w w2 => f919 p q (by omega)), ?_, fun x y w => (f919 x y (by omega)).trans (fr5 x y w)⟩
    · rw [m44b] at q
      rw [m12, m20, mq, m38b]
      refine (g5 l p q).fr (fun x w => f919 x l (by omega)) (fun x y w => f919 x y (by omega)) (fun x v w _ _ => f919 x v (by omega)) (fun v i _ _ _ _ => f919 3443 i (by omega)) (fun n j w w2 => f919 _ j ?_)
      have b0 := (y_bi_r (D := D) at0 l.toNat l (by omega) (by omega)).1
      omega
    · rw [m44b, m38b]; exact (f919 309 58 (by omega)).trans g58
    · rw [a17]; decide
  · have n36 : s 309 36 ≠ 0 := fun w => q43 (ke w)
    have es := same n36
    subst es
    exact T_ret ⟨rfl, (lb.resolve_left n36).resolve_left q43, ⟨mk.1, k36, kf, mT, mL⟩, q43, fun _ _ _ => rfl⟩
