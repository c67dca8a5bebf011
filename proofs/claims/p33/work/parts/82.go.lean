/-! breaking into lines: both sides, by what follows a unit -/
/-- cells that breaking writes on, the class's -/
abbrev y_gwo (o x b : Int) : Prop := y_mw x b ∨ x = 222 ∨ x = o + 8 ∨ (x = o ∧ b = 6)
theorem y_CM.self {D : z_M} {E : Int → Int} {s0 s s' : z_M} (h : y_CM D E s0 s) (f : ∀ x y : Int, x ≤ 239 → s' x y = s x y) : y_CM D E s' s' := by
  obtain ⟨h1, h2, h3, h4, h5, h6⟩ := h
  refine ⟨h1.fr (f _ _ (by decide)) (f _ _ (by decide)) (fun a b p q => f a b (by omega)), h2.fr (f _ _ (by decide)) (f _ _ (by decide)) (fun b => f _ _ (by decide)), by rw [f 3 2 (by decide)]; exact h3, fun u p q => ?_, fun v p q => ?_, fun x y p q => rfl⟩
  · rw [f 209 u (by decide)]; rw [f 191 16 (by decide)] at q; exact h4 u p q
  · rw [f 213 v (by decide)]; rw [f 191 16 (by decide)] at q; exact h5 v p q
theorem e_goL {fu : Nat} (hfu : 8589934592 ≤ fu) {D : z_M} {E : Int → Int} {s0 : z_M} {o len md n : Int} {nx : Int → Int} (ho : y_ob4 o) (en : s0 191 16 = n) (hn : n ≤ 200) (hl : len ≤ 100000)
    (hm : (md ≠ 1 ∧ ∀ a : Int, nx a = y_cm (fun x y => y_LG D x y (s0 3 2)) (y_cl2 E n) n len a + 1) ∨ (md = 1 ∧ ∀ a : Int, 0 ≤ a → a < n → s0 (o + 2) a = nx a - a)) (hb : ∀ a : Int, 0 ≤ a → a < n → a < nx a ∧ nx a ≤ n)
    {k : z_M → z_O} {P : z_V → z_M → Prop} (hk : ∀ (s' : z_M) (c : Nat), y_CM D E s' s' → (c : Int) ≤ n → s' o 6 = c → (∀ j : Nat, j < c → s' (o + 8) j = y_it nx j ∧ y_it nx j < n) → y_it nx c = n → (∀ x y : Int, ¬ y_gwo o x y → s' x y = s0 x y) → z_T (k s') P) :
    ∀ (m F : Nat) (s : z_M) (c : Nat) (a : Int), n - a ≤ (m : Int) → m < F → 0 ≤ a → a ≤ n → (c : Int) ≤ a → a = y_it nx c → y_CM D E s s → s o 6 = c → (∀ j : Nat, j < c → s (o + 8) j = y_it nx j ∧ y_it nx j < n) → (∀ x y : Int, ¬ y_gwo o x y → s x y = s0 x y) → z_T (fX1_go_L17 fu o len md F s a k) P := by
  have br := v_br ho
  have oo : o = 240 ∨ o = 249 := ho
  intro m
  induction m with
  | zero =>
    intro F s c a h1 hF h0 h2 hc ea cm e6 g f
    obtain ⟨F, rfl⟩ : ∃ F2, F = F2 + 1 := ⟨F - 1, by omega⟩
    refine T_of (fX1_go_L17.eq_2 ..) ?_
    refine T_if1 br.1 ?_
    refine T_let 191 br.2.1 ?_
    refine T_if1 v_ob191 ?_
    refine T_let n ((f _ _ (by omega)).trans en) ?_
    refine T_if1 (show n ≤ a by omega) ?_
    exact hk s c cm (by omega) e6 g (by omega) f
  | succ m ih =>
    intro F s c a h1 hF h0 h2 hc ea cm e6 g f
    obtain ⟨F, rfl⟩ : ∃ F2, F = F2 + 1 := ⟨F - 1, by omega⟩
    have e16 : s 191 16 = n := (f _ _ (by omega)).trans en
    refine T_of (fX1_go_L17.eq_2 ..) ?_
    refine T_if1 br.1 ?_
    refine T_let 191 br.2.1 ?_
    refine T_if1 v_ob191 ?_
    refine T_let n e16 ?_
    refine T_ite (fun q => hk s c cm (by omega) e6 g (by omega) f) (fun q => ?_)
    have lt : a < n := by omega
    have hbn := hb a h0 lt
    refine T_if1 br.1 ?_
    refine T_let (o + 7) br.2.2.2.2.2.2 ?_
    refine T_if1 br.1 ?_
    refine T_let (c : Int) e6 ?_
    refine T_if1 (v_br7 ho).1.1 ?_
    refine T_putX (v_br7 ho) ⟨by omega, by omega⟩ ?_
    refine T_if1 br.1 ?_
    refine T_let (c : Int) ((z_up_k (by omega)).trans e6) ?_
    refine T_let ((c + 1 : Nat) : Int) (by rw [v_wid (by omega)]; omega) ?_
    refine T_if1 br.1 ?_
    refine T_up ?_
    have f1 : ∀ x y : Int, ¬ (x = o + 8 ∧ y = c) → ¬ (x = o ∧ y = 6) → z_up (z_up s (o + 8) c a) o 6 ((c + 1 : Nat) : Int) x y = s x y := fun x y p r => (z_up_k2 r).trans (z_up_k2 p)
    have g8 : z_up (z_up s (o + 8) c a) o 6 ((c + 1 : Nat) : Int) (o + 8) c = a := (z_up_k (by omega)).trans z_up_s
    have g6 : z_up (z_up s (o + 8) c a) o 6 ((c + 1 : Nat) : Int) o 6 = ((c + 1 : Nat) : Int) := z_up_s
    generalize z_up (z_up s (o + 8) c a) o 6 ((c + 1 : Nat) : Int) = s1 at f1 g8 g6
    have cm1 : y_CM D E s1 s1 := cm.self (fun x y p => f1 x y (by omega) (by omega))
    have fs : ∀ x y : Int, ¬ y_gwo o x y → s1 x y = s0 x y := fun x y p => (f1 x y (fun w => p (Or.inr (Or.inr (Or.inl w.1)))) (fun w => p (Or.inr (Or.inr (Or.inr w))))).trans (f x y p)
    have rows : ∀ j : Nat, j < c + 1 → s1 (o + 8) j = y_it nx j ∧ y_it nx j < n := fun j p => by
      by_cases z : j = c
      · subst z
        rw [g8, ← ea]; exact ⟨rfl, lt⟩
      · rw [f1 (o + 8) j (by omega) (by omega)]
        exact g j (by omega)
    have go : ∀ s2 : z_M, y_CM D E s2 s2 → s2 o 6 = ((c + 1 : Nat) : Int) → (∀ y : Int, s2 (o + 8) y = s1 (o + 8) y) → (∀ x y : Int, ¬ y_gwo o x y → s2 x y = s0 x y) → z_T (fX1_go_J74 fu s2 o len md a 1 (nx a - a) (fun w v3 => fX1_go_L17 fu o len md F w v3 k) k) P := fun s2 cm2 e62 r2 f2 => by
      have mx := z_maxb 1 (nx a - a)
      have em : z_max 1 (nx a - a) = nx a - a := by omega
      refine T_of (fX1_go_J74.eq_1 ..) ?_
      refine T_let (nx a - a) em ?_
      refine T_let (nx a) (by rw [v_wid (by omega)]; omega) ?_
      exact ih F s2 (c + 1) (nx a) (by omega) (by omega) (by omega) hbn.2 (by omega) (by rw [y_it_s, ← ea]) cm2 e62 (fun j p => by rw [r2]; exact rows j p) f2
    refine T_ite (fun md1 => ?_) (fun md1 => ?_)
    · rcases hm with ⟨_, hx⟩ | ⟨w, _⟩
      · refine T_if1 br.1 ?_
        have e16' : s1 191 16 = n := (fs _ _ (by omega)).trans en
        have e32 : s1 3 2 = s0 3 2 := fs _ _ (by omega)
        refine T_useI (e_asMany (len := len) (a := a) hfu ho cm1 ⟨h0, by omega⟩ hl) (fun v s2 hq => ?_)
        obtain ⟨rfl, cm2⟩ := hq
        refine T_vI ?_
        rw [e16', e32, show y_cm (fun x y => y_LG D x y (s0 3 2)) (y_cl2 E n) n len a - a + 1 = nx a - a by rw [hx]; omega]
        exact go s2 cm2.at ((cm2.2.2.2.2.2 _ _ (by omega) (by omega)).trans g6) (fun y => cm2.2.2.2.2.2 _ _ (by omega) (by omega)) (fun x y p => (cm2.2.2.2.2.2 x y (fun w => p (Or.inl w)) (fun w => p (Or.inr (Or.inl w)))).trans (fs x y p))
      · exact absurd w md1
    · rcases hm with ⟨w, _⟩ | ⟨_, hx⟩
      · exact absurd w md1
      · refine T_if1 br.1 ?_
        refine T_let (o + 1) br.2.2.2.1 ?_
        refine T_if1 (v_br1 ho).1.1 ?_
        refine T_getX (v_br1 ho) ⟨by omega, by omega⟩ ?_
        rw [fs (o + 2) a (by omega), hx a h0 lt]
        exact go s1 cm1 g6 (fun _ => rfl) fs
/-- the class's lines -/
theorem e_goJ {fu : Nat} (hfu : 8589934592 ≤ fu) {D : z_M} {E : Int → Int} {s : z_M} {o len md n : Int} {nx : Int → Int} (ho : y_ob4 o) (cm : y_CM D E s s) (en : s 191 16 = n) (hl : len ≤ 100000)
    (hm : (md ≠ 1 ∧ ∀ a : Int, nx a = y_cm (fun x y => y_LG D x y (s 3 2)) (y_cl2 E n) n len a + 1) ∨ (md = 1 ∧ ∀ a : Int, 0 ≤ a → a < n → s (o + 2) a = nx a - a)) (hb : ∀ a : Int, 0 ≤ a → a < n → a < nx a ∧ nx a ≤ n) :
    z_T (fX1_go_J10 fu s o len md) (fun v s' => v = vN ∧ (∃ c : Nat, (c : Int) ≤ n ∧ s' o 6 = c ∧ y_LR nx (s' (o + 8)) n c) ∧ y_CM D E s' s' ∧ ∀ x y : Int, ¬ y_gwo o x y → s' x y = s x y) := by
  have br := v_br ho
  have oo : o = 240 ∨ o = 249 := ho
  have nn := cm.1.1
  refine T_of (fX1_go_J10.eq_1 ..) ?_
  refine T_if1 br.1 ?_
  refine T_up ?_
  have f0 : ∀ x y : Int, ¬ (x = o ∧ y = 6) → z_up s o 6 0 x y = s x y := fun x y p => z_up_k2 p
  have g0 : z_up s o 6 0 o 6 = 0 := z_up_s
  generalize z_up s o 6 0 = s1 at f0 g0
  have cm1 : y_CM D E s1 s1 := cm.self (fun x y p => f0 x y (by omega))
  refine e_goL (nx := nx) (n := n) hfu ho ((f0 _ _ (by omega)).trans en) (by omega) hl (by rw [f0 3 2 (by omega)]; exact hm.imp id (fun w => ⟨w.1, fun a p q => by rw [f0 (o + 2) a (by omega)]; exact w.2 a p q⟩)) hb (fun s2 c cm2 hc e6 g ei f => ?_) n.toNat fu s1 0 0 (by omega) (by omega) (Int.le_refl 0) (by omega) (by omega) rfl cm1 g0 (fun j p => absurd p (Nat.not_lt_zero j)) (fun _ _ _ => rfl)
  refine T_if1 br.1 ?_
  refine T_let (o + 7) br.2.2.2.2.2.2 ?_
  refine T_if1 br.1 ?_
  refine T_let (c : Int) e6 ?_
  refine T_if1 br.1 ?_
  refine T_let 191 br.2.1 ?_
  refine T_if1 v_ob191 ?_
  refine T_let n ((f _ _ (by omega)).trans ((f0 _ _ (by omega)).trans en)) ?_
  refine T_if1 (v_br7 ho).1.1 ?_
  refine T_putX (v_br7 ho) ⟨by omega, by omega⟩ ?_
  refine T_ret ⟨rfl, ⟨c, hc, (z_up_k (by omega)).trans e6, fun j p => ?_, fun j p => (g j p).2, ei⟩, cm2.self (fun x y p => z_up_k (by omega)), fun x y p => ?_⟩
  · by_cases z : j = c
    · subst z
      rw [z_up_s, ei]
    · rw [z_up_j (by omega)]
      exact (g j (by omega)).1
  · rw [z_up_k (fun w => p (Or.inr (Or.inr (Or.inl w)))), f x y p]
    exact f0 x y (fun w => p (Or.inr (Or.inr (Or.inr w))))
theorem y_Mk.self {D s0 s s' : z_M} (h : y_Mk D s0 s) (f : ∀ x y : Int, (x < 3438 ∨ 7657 < x) → s' x y = s x y) : y_Mk D s' s' := by
  obtain ⟨h1, h2, h3, h4⟩ := h
  refine ⟨h1.fr (f _ _ (by omega)) (fun a b p q => f a b (by omega)) (fun j _ => f _ _ (by omega)), ?_, by rw [f 312 7 (by omega), f 312 2 (by omega)]; exact h3, fun x y p q r => rfl⟩
  rcases h2 with w | w
  · exact Or.inl ((f _ _ (by omega)).trans w)
  · exact Or.inr (w.fr h1.1.1.2 (f _ _ (by omega)) (f _ _ (by omega)) (f _ _ (by omega)) (fun x b q => f x b (by omega)) (fun b => ⟨f _ _ (by omega), f _ _ (by omega)⟩) (f _ _ (by omega)) (f _ _ (by omega)))
/-- the reference's lines -/
theorem em_brL {fu : Nat} (hfu : 8589934592 ≤ fu) {D s0 : z_M} {len md n : Int} {nx : Int → Int} (en : s0 309 20 = n) (hn : n ≤ 200)
    (hm : (md ≠ 1 ∧ ∀ a : Int, nx a = y_cm (fun x y => y_LG D x y (s0 312 2)) (y_cl2 (y_me D (s0 312 7) n) n) n len a + 1) ∨ (md = 1 ∧ ∀ a : Int, 0 ≤ a → a < n → s0 3440 a = nx a - 1)) (hb : ∀ a : Int, 0 ≤ a → a < n → a < nx a ∧ nx a ≤ n)
    {k : z_M → Int → z_O} {P : z_V → z_M → Prop} (hk : ∀ (s' : z_M) (c : Nat), y_Mk D s' s' → (c : Int) ≤ n → (∀ j : Nat, j < c → s' 3438 j = y_it nx j ∧ y_it nx j < n) → y_it nx c = n → (∀ x y : Int, ¬ y_fw x y → ¬ (3224 ≤ x ∧ x ≤ 3233) → ¬ (x = 309 ∧ y = 35) → x ≠ 3438 → s' x y = s0 x y) → z_T (k s' c) P) :
    ∀ (m F : Nat) (s : z_M) (c : Nat) (a : Int), n - a ≤ (m : Int) → m < F → 0 ≤ a → a ≤ n → (c : Int) ≤ a → a = y_it nx c → y_Mk D s s → (∀ j : Nat, j < c → s 3438 j = y_it nx j ∧ y_it nx j < n) → (∀ x y : Int, ¬ y_fw x y → ¬ (3224 ≤ x ∧ x ≤ 3233) → ¬ (x = 309 ∧ y = 35) → x ≠ 3438 → s x y = s0 x y) → z_T (fX12_breaks_L15 fu 309 len md F s (c : Int) a k) P := by
  intro m
  induction m with
  | zero =>
    intro F s c a h1 hF h0 h2 hc ea mk g f
    obtain ⟨F, rfl⟩ : ∃ F2, F = F2 + 1 := ⟨F - 1, by omega⟩
    refine T_of (fX12_breaks_L15.eq_2 ..) ?_
    refine T_if1 v_ob309 ?_
    refine T_let n ((f _ _ (by omega) (by omega) (by omega) (by omega)).trans en) ?_
    refine T_if1 (show n ≤ a by omega) ?_
    exact hk s c mk (by omega) g (by omega) f
  | succ m ih =>
    intro F s c a h1 hF h0 h2 hc ea mk g f
    obtain ⟨F, rfl⟩ : ∃ F2, F = F2 + 1 := ⟨F - 1, by omega⟩
    have e20 : s 309 20 = n := (f _ _ (by omega) (by omega) (by omega) (by omega)).trans en
    refine T_of (fX12_breaks_L15.eq_2 ..) ?_
    refine T_if1 v_ob309 ?_
    refine T_let n e20 ?_
    refine T_ite (fun q => hk s c mk (by omega) g (by omega) f) (fun q => ?_)
    have lt : a < n := by omega
    have hbn := hb a h0 lt
    refine T_if1 v_ob309 ?_
    refine T_let 3438 v_gm45 ?_
    refine T_if1 (v_x3438 ⟨by omega, by omega⟩) ?_
    refine T_up ?_
    have f1 : ∀ x y : Int, ¬ (x = 3438 ∧ y = c) → z_up s 3438 c a x y = s x y := fun x y p => z_up_k2 p
    have g8 : z_up s 3438 c a 3438 c = a := z_up_s
    generalize z_up s 3438 c a = s1 at f1 g8
    have mk1 : y_Mk D s1 s1 := mk.self (fun x y p => f1 x y (by omega))
    have fs : ∀ x y : Int, ¬ y_fw x y → ¬ (3224 ≤ x ∧ x ≤ 3233) → ¬ (x = 309 ∧ y = 35) → x ≠ 3438 → s1 x y = s0 x y := fun x y p q r t => (f1 x y (fun w => t w.1)).trans (f x y p q r t)
    have rows : ∀ j : Nat, j < c + 1 → s1 3438 j = y_it nx j ∧ y_it nx j < n := fun j p => by
      by_cases z : j = c
      · subst z
        rw [g8, ← ea]; exact ⟨rfl, lt⟩
      · rw [f1 3438 j (by omega)]
        exact g j (by omega)
    refine T_let ((c + 1 : Nat) : Int) (by rw [v_wid (by omega)]; omega) ?_
    have go : ∀ s2 : z_M, y_Mk D s2 s2 → (∀ y : Int, s2 3438 y = s1 3438 y) → (∀ x y : Int, ¬ y_fw x y → ¬ (3224 ≤ x ∧ x ≤ 3233) → ¬ (x = 309 ∧ y = 35) → x ≠ 3438 → s2 x y = s0 x y) → z_T (fX12_breaks_J57 fu s2 309 len md ((c + 1 : Nat) : Int) (nx a - 1) (fun w v3 v4 => fX12_breaks_L15 fu 309 len md F w v3 v4 k) k) P := fun s2 mk2 r2 f2 => by
      refine T_of (fX12_breaks_J57.eq_1 ..) ?_
      refine T_let (nx a) (by rw [v_wid (by omega)]; omega) ?_
      exact ih F s2 (c + 1) (nx a) (by omega) (by omega) (by omega) hbn.2 (by omega) (by rw [y_it_s, ← ea]) mk2 (fun j p => by rw [r2]; exact rows j p) f2
    refine T_ite (fun md1 => ?_) (fun md1 => ?_)
    · rcases hm with ⟨_, hx⟩ | ⟨w, _⟩
      · refine T_if1 v_ob309 ?_
        have e20' : s1 309 20 = n := (fs _ _ (by omega) (by omega) (by omega) (by omega)).trans en
        have e2 : s1 312 2 = s0 312 2 := fs _ _ (by omega) (by omega) (by omega) (by omega)
        have e7 : s1 312 7 = s0 312 7 := fs _ _ (by omega) (by omega) (by omega) (by omega)
        refine T_useI (em_comes (len := len) (a := a) hfu mk1 ⟨h0, by omega⟩) (fun v s2 hq => ?_)
        obtain ⟨rfl, mk2⟩ := hq
        refine T_vI ?_
        rw [e20', e2, e7, show y_cm (fun x y => y_LG D x y (s0 312 2)) (y_cl2 (y_me D (s0 312 7) n) n) n len a = nx a - 1 by rw [hx]; omega]
        exact go s2 mk2.at (fun y => mk2.2.2.2 _ _ (by omega) (by omega) (by omega)) (fun x y p q r t => (mk2.2.2.2 x y p q r).trans (fs x y p q r t))
      · exact absurd w md1
    · rcases hm with ⟨w, _⟩ | ⟨_, hx⟩
      · exact absurd w md1
      · refine T_if1 v_ob309 ?_
        refine T_let 3440 v_gm47 ?_
        refine T_if1 (v_x3440 ⟨by omega, by omega⟩) ?_
        refine T_let (nx a - 1) ((fs 3440 a (by omega) (by omega) (by omega) (by omega)).trans (hx a h0 lt)) ?_
        exact go s1 mk1 (fun _ => rfl) fs
theorem em_brJ {fu : Nat} (hfu : 8589934592 ≤ fu) {D s : z_M} {len md n : Int} {nx : Int → Int} (mk : y_Mk D s s) (en : s 309 20 = n)
    (hm : (md ≠ 1 ∧ ∀ a : Int, nx a = y_cm (fun x y => y_LG D x y (s 312 2)) (y_cl2 (y_me D (s 312 7) n) n) n len a + 1) ∨ (md = 1 ∧ ∀ a : Int, 0 ≤ a → a < n → s 3440 a = nx a - 1)) (hb : ∀ a : Int, 0 ≤ a → a < n → a < nx a ∧ nx a ≤ n) {k : z_M → Int → z_O} {P : z_V → z_M → Prop}
    (hk : ∀ (s' : z_M) (c : Nat), y_Mk D s' s' → (c : Int) ≤ n → (∀ j : Nat, j < c → s' 3438 j = y_it nx j ∧ y_it nx j < n) → y_it nx c = n → (∀ x y : Int, ¬ y_fw x y → ¬ (3224 ≤ x ∧ x ≤ 3233) → ¬ (x = 309 ∧ y = 35) → x ≠ 3438 → s' x y = s x y) → z_T (k s' c) P) :
    z_T (fX12_breaks_L15 fu 309 len md fu s 0 0 k) P := by
  have nn := mk.1.1.1
  exact em_brL (nx := nx) (n := n) hfu en (by omega) hm hb hk n.toNat fu s 0 0 (by omega) (by omega) (Int.le_refl 0) (by omega) (by omega) rfl mk (fun j p => absurd p (Nat.not_lt_zero j)) (fun _ _ _ _ _ _ => rfl)
