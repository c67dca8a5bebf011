/-! moves, the reference's side -/
theorem em_movC {fu : Nat} {s0 : z_M} {n : Int} (en : s0 309 20 = n) (hn : 0 ≤ n ∧ n ≤ 200) {k : z_M → z_O} {P : z_V → z_M → Prop} (hk : ∀ s' : z_M, z_CI s' → (∀ j : Int, 0 ≤ j → j < n → s' 7656 j = s0 3441 j) → (∀ a b : Int, a ≠ 7656 → s' a b = s0 a b) → z_T (k s') P) : ∀ (m F : Nat) (s : z_M) (u : Int), (m : Int) = n - u → m < F → 0 ≤ u → z_CI s → (∀ j : Int, 0 ≤ j → j < u → s 7656 j = s0 3441 j) → (∀ a b : Int, a ≠ 7656 → s a b = s0 a b) → z_T (fX12_moves_L11 fu 309 F s u k) P := by
  intro m
  induction m with
  | zero =>
    intro F s u h1 hF h2 c g f
    obtain ⟨F, rfl⟩ : ∃ F2, F = F2 + 1 := ⟨F - 1, by omega⟩
    refine T_of (fX12_moves_L11.eq_2 ..) ?_
    refine T_if1 v_ob309 ?_
    refine T_let n ((f 309 20 (by decide)).trans en) ?_
    refine T_if1 (by omega) ?_
    exact hk s c (fun j p q => g j p (by omega)) f
  | succ m ih =>
    intro F s u h1 hF h2 c g f
    obtain ⟨F, rfl⟩ : ∃ F2, F = F2 + 1 := ⟨F - 1, by omega⟩
    refine T_of (fX12_moves_L11.eq_2 ..) ?_
    refine T_if1 v_ob309 ?_
    refine T_let n ((f 309 20 (by decide)).trans en) ?_
    refine T_if0 (by omega) ?_
    refine T_if1 v_ob309 ?_
    refine T_let 7656 v_gm65 ?_
    refine T_if1 v_ob309 ?_
    refine T_let 3441 v_gm48 ?_
    refine T_if1 (v_x3441 (by omega)) ?_
    refine T_let (s 3441 u) rfl ?_
    refine T_if1 (v_x7656 (by omega)) ?_
    have b1 := CI_b c (bdr_3441 u)
    refine T_upg c (bdr_7656 u) (by omega) (fun s2 c2 g2 g3 e2 => ?_)
    refine T_let (u + 1) (v_wid (by omega)) ?_
    refine ih F s2 (u + 1) (by omega) (by omega) (by omega) c2 (fun j p q => ?_) (fun a b q => (g2 a b q).trans (f a b q))
    by_cases z : j = u
    · rw [z, e2]; exact f 3441 u (by decide)
    · rw [g3 j z]; exact g j p (by omega)
/-- turned over, and laid out anew -/
def y_TO (s s' : z_M) : Prop := z_CI s' ∧ (∀ x y : Int, (x ≤ 3223 ∧ x ≠ 309 ∧ ¬ (x = 312 ∧ y = 5)) ∨ (x = 309 ∧ (y = 0 ∨ y = 20)) ∨ x = 7656 → s' x y = s x y) ∧ s' 312 5 = 1 - s 312 5 ∧ y_LBm (y_dm s') s' ∧ y_OKy s'
theorem em_turns {fu : Nat} (hfu : 8589934592 ≤ fu) {s : z_M} (c : z_CI s) (yB : y_B s) (h5 : s 312 5 = 0 ∨ s 312 5 = 1) (hf : ∀ sx : z_M, z_CI sx → (∀ x y : Int, (x ≤ 3223 ∧ x ≠ 309 ∧ ¬ (x = 312 ∧ y = 5)) ∨ (x = 309 ∧ y = 20) → sx x y = s x y) → sx 312 5 = 1 - s 312 5 → y_OKy sx) : z_T (fX12_turnsOver fu s 309) (fun v s' => v = vN ∧ y_TO s s') := by
  refine T_of (fX12_turnsOver.eq_1 ..) ?_
  refine T_if1 v_ob309 ?_
  refine T_let 312 v_gm9 ?_
  refine T_if1 v_ob309 ?_
  refine T_let 312 v_gm9 ?_
  refine T_if1 (v_x312 (by decide)) ?_
  refine T_let (s 312 5) rfl ?_
  refine T_let (1 - s 312 5) (v_wid (by omega)) ?_
  refine T_if1 (v_x312 (by decide)) ?_
  refine T_upg c (bdr_312 5) (by omega) (fun s2 c2 g2 g3 e2 => ?_)
  refine T_if1 ⟨v_ob309, bl0⟩ ?_
  refine T_upg c2 bd_309_36 (by decide) (fun s3 c3 g4 g5 e3 => ?_)
  refine T_if1 v_ob309 ?_
  have k : ∀ x y : Int, (x ≠ 309 ∨ y ≠ 36) → ¬ (x = 312 ∧ y = 5) → s3 x y = s x y := fun x y p q => by
    have a1 : s3 x y = s2 x y := by
      by_cases z : x = 309
      · rw [z]; exact g5 y (by omega)
      · exact g4 x y z
    rw [a1]
    by_cases z : x = 312
    · rw [z]; exact g3 y (by omega)
    · exact g2 x y z
  have k5 : s3 312 5 = 1 - s 312 5 := (g4 312 5 (by decide)).trans e2
  have ok := hf s3 c3 (fun x y q => k x y (by omega) (by omega)) k5
  have gy : y_GY s3 := ⟨c3, yB.fr (k _ _ (by decide) (by decide)) (k _ _ (by decide) (by decide)) (fun b => k _ _ (by omega) (by omega)) (fun b => k _ _ (by omega) (by omega)) (fun b => k _ _ (by omega) (by omega)) (fun b => k _ _ (by omega) (by omega)), y_K.k0 e3, y_KM.z e3, y_YM.k0 e3, ok⟩
  refine T_useN (em_lay hfu gy) (fun v sl hq => ?_)
  obtain ⟨rfl, rl⟩ := hq
  refine T_vN ?_
  refine T_ret ⟨rfl, rl.1, fun x y q => ?_, ?_, rl.2.2.1, rl.2.2.2.1⟩
  · rw [rl.2.1 x y (by unfold R_X12_laysAll_309; omega)]
    exact k x y (by omega) (by omega)
  · rw [rl.2.1 312 5 (by unfold R_X12_laysAll_309; omega)]
    exact k5
theorem em_movU {fu : Nat} {s : z_M} {n : Int} (en : s 309 20 = n) (hn : 0 ≤ n ∧ n ≤ 200) (hC : ∀ u : Int, 0 ≤ u → u < n → 0 ≤ s 3222 u ∧ s 3222 u ≤ 200) {k : z_M → Int → z_O} {P : z_V → z_M → Prop} (hk : z_T (k s (y_su (y_mF (s 7656) (s 3441) (s 3222)) 0 n)) P) : ∀ (m F : Nat) (u : Int), (m : Int) = n - u → m < F → 0 ≤ u → z_T (fX12_moves_L45 fu 309 F s (y_su (y_mF (s 7656) (s 3441) (s 3222)) 0 u) u k) P := by
  intro m
  induction m with
  | zero =>
    intro F u h1 hF h2
    obtain ⟨F, rfl⟩ : ∃ F2, F = F2 + 1 := ⟨F - 1, by omega⟩
    have eu : u = n := by omega
    refine T_of (fX12_moves_L45.eq_2 ..) ?_
    refine T_if1 v_ob309 ?_
    refine T_let n en ?_
    refine T_if1 (by omega) ?_
    rw [eu]
    exact hk
  | succ m ih =>
    intro F u h1 hF h2
    obtain ⟨F, rfl⟩ : ∃ F2, F = F2 + 1 := ⟨F - 1, by omega⟩
    have b1 := y_mF_b (a := s 7656) (b := s 3441) hC (u := u) (by omega) (by omega)
    have cu := hC u (by omega) (by omega)
    have es := y_suS (f := y_mF (s 7656) (s 3441) (s 3222)) (a := 0) (u := u) (by omega)
    have fin : ∀ z : Int, z = y_mF (s 7656) (s 3441) (s 3222) u → 0 ≤ z ∧ z ≤ 200 → z_T (fX12_moves_J79 fu s 309 u (y_su (y_mF (s 7656) (s 3441) (s 3222)) 0 u) z (fun w v1 v2 => fX12_moves_L45 fu 309 F w v1 v2 k) k) P := fun z e zb => by
      refine T_of (fX12_moves_J79.eq_1 ..) ?_
      refine T_let (y_su (y_mF (s 7656) (s 3441) (s 3222)) 0 (u + 1)) (by rw [es, ← e]; exact v_wid (by omega)) ?_
      refine T_let (u + 1) (v_wid (by omega)) ?_
      exact ih F (u + 1) (by omega) (by omega) (by omega)
    refine T_of (fX12_moves_L45.eq_2 ..) ?_
    refine T_if1 v_ob309 ?_
    refine T_let n en ?_
    refine T_if0 (by omega) ?_
    refine T_if1 v_ob309 ?_
    refine T_let 3441 v_gm48 ?_
    refine T_if1 (v_x3441 (by omega)) ?_
    refine T_let (s 3441 u) rfl ?_
    refine T_if1 v_ob309 ?_
    refine T_let 7656 v_gm65 ?_
    refine T_if1 (v_x7656 (by omega)) ?_
    refine T_let (s 7656 u) rfl ?_
    refine T_ite (fun hd => ?_) (fun hd => ?_)
    · refine T_if1 v_ob309 ?_
      refine T_let 3222 v_gm23 ?_
      refine T_if1 (v_x3222 (by omega)) ?_
      refine T_let (s 3222 u) rfl ?_
      exact fin (s 3222 u) (by unfold y_mF; rw [if_pos (fun q => hd q.symm)]) cu
    · exact fin 0 (by unfold y_mF; rw [if_neg (fun q => hd (fun w => q w.symm))]) ⟨by decide, by decide⟩
/-- the reference's answer -/
def y_QMm (s : z_M) (y : Int) : Prop := ∃ sl sf : z_M, y_RM s sl ∧ (z_CI sf ∧ (∀ a b : Int, (a ≤ 3223 ∧ a ≠ 309 ∧ ¬ (a = 312 ∧ b = 5)) ∨ (a = 309 ∧ b = 20) → sf a b = s a b) ∧ sf 312 5 = 1 - s 312 5 ∧ y_LBm (y_dm sf) sf ∧ y_OKy sf) ∧ y = y_su (y_mF (sl 3441) (sf 3441) (sf 3222)) 0 (sf 309 20)
theorem em_moves {fu : Nat} (hfu : 8589934592 ≤ fu) {s : z_M} (h : y_GY s) (h5 : s 312 5 = 0 ∨ s 312 5 = 1) (hf : ∀ sx : z_M, z_CI sx → (∀ x y : Int, (x ≤ 3223 ∧ x ≠ 309 ∧ ¬ (x = 312 ∧ y = 5)) ∨ (x = 309 ∧ y = 20) → sx x y = s x y) → sx 312 5 = 1 - s 312 5 → y_OKy sx) : z_T (fX12_moves fu s 309) (fun v _ => ∃ y, v = vI y ∧ y_QMm s y) := by
  refine T_of (fX12_moves.eq_1 ..) ?_
  refine T_if1 v_ob309 ?_
  refine T_upg h.1 bd_309_0 (by decide) (fun s1 c1 g g2 e0 => ?_)
  have h1 := h.z c1 g g2
  refine T_if1 v_ob309 ?_
  refine T_useN (em_lay hfu h1) (fun v sl hq => ?_)
  obtain ⟨rfl, rl⟩ := hq
  refine T_vN ?_
  have rm := rl.m g g2
  have nn := rl.2.2.2.1.1.1.1
  refine em_movC (s0 := sl) (n := sl 309 20) rfl nn (fun s4 c4 a4 f4 => ?_) (sl 309 20).toNat fu sl 0 (by omega) (by omega) (Int.le_refl 0) rl.1 (fun j p q => by omega) (fun _ _ _ => rfl)
  have ks : ∀ x y : Int, (x ≤ 3223 ∧ x ≠ 309) ∨ (x = 309 ∧ y = 20) → s4 x y = s x y := fun x y q => (f4 x y (by omega)).trans (rm.2.1 x y (by omega))
  have e5 : s4 312 5 = s 312 5 := ks 312 5 (by omega)
  have yB4 : y_B s4 := h.2.1.fr (ks _ _ (by omega)) (ks _ _ (by omega)) (fun b => ks _ _ (by omega)) (fun b => ks _ _ (by omega)) (fun b => ks _ _ (by omega)) (fun b => ks _ _ (by omega))
  refine T_if1 v_ob309 ?_
  refine T_useN (em_turns hfu c4 yB4 (by rw [e5]; exact h5) (fun sx cx fx ex => hf sx cx (fun x y q => (fx x y q).trans (ks x y (by omega))) (by rw [ex, e5]))) (fun v sf hq => ?_)
  obtain ⟨rfl, cf, ff, ef, lf, okf⟩ := hq
  refine T_vN ?_
  have n20 : sf 309 20 = sl 309 20 := (ff 309 20 (by omega)).trans (f4 309 20 (by decide))
  have nf := okf.1.1.1
  have uf := okf.1.1.2.1
  refine em_movU (n := sf 309 20) rfl nf (fun u p q => by have z := uf u p q; omega) ?_ (sf 309 20).toNat fu 0 (by omega) (by omega) (Int.le_refl 0)
  have yBf : y_B sf := yB4.fr (ff _ _ (by omega)) (ff _ _ (by omega)) (fun b => ff _ _ (by omega)) (fun b => ff _ _ (by omega)) (fun b => ff _ _ (by omega)) (fun b => ff _ _ (by omega))
  have okl := rl.2.2.2.1
  refine T_if1 v_ob309 ?_
  refine T_useN (em_turns hfu cf yBf (by rw [ef, e5]; omega) (fun sx cx fx ex => ?_)) (fun v sz hq => ?_)
  · have kx : ∀ x y : Int, (x ≤ 3223 ∧ x ≠ 309) ∨ (x = 309 ∧ y = 20) → sx x y = sl x y := fun x y q => by
      have z4 := f4 x y (by omega)
      by_cases z : x = 312 ∧ y = 5
      · obtain ⟨rfl, rfl⟩ := z
        rw [ex, ef, ← z4]
        omega
      · rw [fx x y (by omega), ff x y (by omega), z4]
    exact (okl.fr (s' := sx) (kx _ _ (by omega)) (fun a b q => kx a b (by omega)) (fun j => kx _ _ (by omega))).1
  · obtain ⟨rfl, _⟩ := hq
    refine T_vN ?_
    refine T_ret ⟨_, rfl, sl, sf, rm, ⟨cf, fun a b q => (ff a b (by omega)).trans (ks a b (by omega)), ef.trans (by rw [e5]), lf, okf⟩, ?_⟩
    refine y_su_cg (fun u p q => ?_)
    unfold y_mF
    rw [ff 7656 u (by omega), a4 u p (by omega)]
