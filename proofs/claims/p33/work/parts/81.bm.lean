/-! lines as they come: the reference's side; lines one behind the other -/
/-- units, what is kept, as D tells them; nothing but what LONG needs has changed since s0 -/
def y_Mk (D s0 s : z_M) : Prop := y_MU2 D s ∧ (s 309 36 = 0 ∨ y_KF D s) ∧ ((0 ≤ s 312 7 ∧ s 312 7 ≤ 1000) ∧ 0 ≤ s 312 2 ∧ s 312 2 ≤ 6) ∧ ∀ x y : Int, ¬ y_fw x y → ¬ (3224 ≤ x ∧ x ≤ 3233) → ¬ (x = 309 ∧ y = 35) → s x y = s0 x y
theorem y_Mk.e20 {D s0 s : z_M} (h : y_Mk D s0 s) : s 309 20 = s0 309 20 := h.2.2.2 _ _ (by omega) (by decide) (by decide)
theorem y_Mk.e12 {D s0 s : z_M} (h : y_Mk D s0 s) (j : Int) : s 312 j = s0 312 j := h.2.2.2 _ _ (by omega) (by decide) (by omega)
theorem y_Mk.at {D s0 s : z_M} (h : y_Mk D s0 s) : y_Mk D s s := ⟨h.1, h.2.1, h.2.2.1, fun _ _ _ _ _ => rfl⟩
theorem y_Mk.tr {D s0 s1 s : z_M} (h : y_Mk D s1 s) (k : ∀ x y : Int, ¬ y_fw x y → ¬ (3224 ≤ x ∧ x ≤ 3233) → ¬ (x = 309 ∧ y = 35) → s1 x y = s0 x y) : y_Mk D s0 s := ⟨h.1, h.2.1, h.2.2.1, fun x y p q r => (h.2.2.2 x y p q r).trans (k x y p q r)⟩
/-- cells that LONG doesn't need have changed -/
theorem y_Mk.up {D s0 s s' : z_M} (h : y_Mk D s0 s) (f : ∀ x y : Int, (x < 3438 ∨ 7657 < x) → s' x y = s x y) (g : ∀ x y : Int, 3438 ≤ x → x ≤ 7657 → s' x y = s0 x y) : y_Mk D s0 s' := by
  obtain ⟨h1, h2, h3, h4⟩ := h
  refine ⟨h1.fr (f _ _ (by omega)) (fun a b p q => f a b (by omega)) (fun j _ => f _ _ (by omega)), ?_, by rw [f 312 7 (by omega), f 312 2 (by omega)]; exact h3, fun x y p q r => ?_⟩
  · rcases h2 with w | w
    · exact Or.inl ((f _ _ (by omega)).trans w)
    · exact Or.inr (w.fr h1.1.1.2 (f _ _ (by omega)) (f _ _ (by omega)) (f _ _ (by omega)) (fun x b q => f x b (by omega)) (fun b => ⟨f _ _ (by omega), f _ _ (by omega)⟩) (f _ _ (by omega)) (f _ _ (by omega)))
  · by_cases z : x < 3438 ∨ 7657 < x
    · rw [f x y z]; exact h4 x y p q r
    · exact g x y (by omega) (by omega)
theorem em_MKlen {fu : Nat} (hfu : 8589934592 ≤ fu) {D s0 s : z_M} (h : y_Mk D s0 s) {a b : Int} (h0 : 0 ≤ a ∧ a ≤ b) (h1 : b < s0 309 20) : z_T (fX12_longAs fu s 309 a b) (fun v s' => v = vI (y_LG D a b (s0 312 2)) ∧ y_Mk D s0 s') := by
  have e20 := h.e20
  have e2 := h.e12 2
  obtain ⟨m1, m2, m3, m4⟩ := h
  refine T_mono (em_longAs hfu m1 m3.1 m3.2 m2 h0 (by omega)) (fun v s' hq => ?_)
  obtain ⟨q1, q2, q3, _, _, q6⟩ := hq
  refine ⟨by rw [q1, e2], m1.fr (q6 _ _ (by omega) (by decide) (by decide)) (fun x y p q => q6 x y (by omega) (by omega) (by omega)) (fun j _ => q6 _ _ (by omega) (by decide) (by omega)), Or.inr q3, ?_, fun x y p q r => (q6 x y p q r).trans (m4 x y p q r)⟩
  rw [q6 312 7 (by omega) (by decide) (by decide), q6 312 2 (by omega) (by decide) (by decide)]
  exact m3
theorem em_MKend {fu : Nat} (hfu : 8589934592 ≤ fu) {D s0 s : z_M} (h : y_Mk D s0 s) {u : Int} (hu : 0 ≤ u ∧ u < s0 309 20) : z_T (fX12_mayEnd fu s 309 u) (fun v s' => v = vI (y_me D (s0 312 7) (s0 309 20) u) ∧ y_Mk D s0 s') := by
  have e20 := h.e20
  have e7 := h.e12 7
  obtain ⟨m1, m2, m3, m4⟩ := h
  refine T_mono (em_mayEnd hfu m1 m3.1 m2 (by omega)) (fun v s' hq => ?_)
  obtain ⟨q1, q2, q3, _, _, q6⟩ := hq
  refine ⟨by rw [q1, e7, e20], m1.fr (q6 _ _ (by omega)) (fun x y p q => q6 x y (by omega)) (fun j _ => q6 _ _ (by omega)), Or.inr q3, ?_, fun x y p q r => (q6 x y p).trans (m4 x y p q r)⟩
  rw [q6 312 7 (by omega), q6 312 2 (by omega)]
  exact m3
theorem em_comesL {fu : Nat} (hfu : 8589934592 ≤ fu) {D s0 : z_M} {a len n : Int} {L : Int → Int → Int} {C : Int → Int} (hL : ∀ x y : Int, L x y = y_LG D x y (s0 312 2)) (hC : ∀ u : Int, C u = y_cl2 (y_me D (s0 312 7) n) n u) (en : s0 309 20 = n) (ha : 0 ≤ a ∧ a < n) (hn : n ≤ 200)
    {k : z_M → Int → Int → z_O} {P : z_V → z_M → Prop} (hk : ∀ s' : z_M, y_Mk D s0 s' → z_T (k s' (y_la (y_f2 L C len a) a (n - a).toNat) (y_la (y_f1 L len a) a (n - a).toNat)) P) :
    ∀ (m F : Nat) (s : z_M) (x y b : Int), (m : Int) = n - b → m < F → a ≤ b → y_Mk D s0 s → x = y_la (y_f2 L C len a) a (b - a).toNat → y = y_la (y_f1 L len a) a (b - a).toNat → z_T (fX12_comes_L8 fu 309 a len F s x y b k) P := by
  intro m
  induction m with
  | zero =>
    intro F s x y b h1 hF h3 mk ex ey
    obtain ⟨F, rfl⟩ : ∃ F2, F = F2 + 1 := ⟨F - 1, by omega⟩
    refine T_of (fX12_comes_L8.eq_2 ..) ?_
    refine T_if1 v_ob309 ?_
    refine T_let n (mk.e20.trans en) ?_
    refine T_if1 (show n ≤ b by omega) ?_
    rw [ex, ey, show b = n by omega]
    exact hk s mk
  | succ m ih =>
    intro F s x y b h1 hF h3 mk ex ey
    obtain ⟨F, rfl⟩ : ∃ F2, F = F2 + 1 := ⟨F - 1, by omega⟩
    have st : ∀ p : Int → Int, y_la p a (b + 1 - a).toNat = if p b = 1 then b else y_la p a (b - a).toNat := fun p => by
      rw [show (b + 1 - a).toNat = (b - a).toNat + 1 by omega, y_la_s, show a + (((b - a).toNat : Nat) : Int) = b by omega]
    refine T_of (fX12_comes_L8.eq_2 ..) ?_
    refine T_if1 v_ob309 ?_
    refine T_let n (mk.e20.trans en) ?_
    refine T_if0 (show ¬ n ≤ b by omega) ?_
    refine T_if1 v_ob309 ?_
    refine T_useI (em_MKlen hfu mk ⟨ha.1, h3⟩ (by omega)) (fun v s1 hq => ?_)
    obtain ⟨rfl, mk1⟩ := hq
    refine T_vI ?_
    refine T_ite (fun q => ?_) (fun q => ?_)
    · have y1 : y_f1 L len a b = 1 := by unfold y_f1; rw [hL, if_pos q]
      have go : ∀ s2 : z_M, y_Mk D s0 s2 → C b = 1 → z_T (fX12_comes_J55 fu s2 309 a len b b (fun w v3 v4 v5 => fX12_comes_L8 fu 309 a len F w v3 v4 v5 k) k) P := fun s2 mk2 c => by
        have n2 : y_f2 L C len a b = 1 := by unfold y_f2; rw [hL, if_pos ⟨q, c⟩]
        refine T_of (fX12_comes_J55.eq_1 ..) ?_
        refine T_of (fX12_comes_J58.eq_1 ..) ?_
        refine T_let (b + 1) (v_wid (by omega)) ?_
        exact ih F s2 b b (b + 1) (by omega) (by omega) (by omega) mk2 (by rw [st, if_pos n2]) (by rw [st, if_pos y1])
      refine T_if1 v_ob309 ?_
      refine T_let n (mk1.e20.trans en) ?_
      refine T_let (n - 1) (v_wid (by omega)) ?_
      refine T_ite (fun q2 => ?_) (fun q2 => ?_)
      · refine go s1 mk1 ?_
        rw [hC]; unfold y_cl2; rw [if_pos (Or.inl q2)]
      · refine T_if1 v_ob309 ?_
        refine T_useI (em_MKend hfu mk1 ⟨by omega, by omega⟩) (fun v s2 hq => ?_)
        obtain ⟨rfl, mk2⟩ := hq
        refine T_vI ?_
        rw [en]
        have me01 := y_me_01 (D := D) (T := s0 312 7) (n := n) (u := b)
        refine T_ite (fun q3 => ?_) (fun q3 => ?_)
        · have n2 : ¬ y_f2 L C len a b = 1 := by
            unfold y_f2
            rw [if_neg (fun w => by
              have c := w.2
              rw [hC] at c
              unfold y_cl2 at c
              rw [if_neg (show ¬ (b = n - 1 ∨ y_me D (s0 312 7) n b = 1) by omega)] at c
              exact absurd c (by decide))]
            decide
          refine T_of (fX12_comes_J58.eq_1 ..) ?_
          refine T_let (b + 1) (v_wid (by omega)) ?_
          exact ih F s2 x b (b + 1) (by omega) (by omega) (by omega) mk2 (by rw [st, if_neg n2]; exact ex) (by rw [st, if_pos y1])
        · refine go s2 mk2 ?_
          rw [hC]; unfold y_cl2; rw [if_pos (show b = n - 1 ∨ y_me D (s0 312 7) n b = 1 by omega)]
    · have n1 : ¬ y_f1 L len a b = 1 := by unfold y_f1; rw [hL, if_neg q]; decide
      have n2 : ¬ y_f2 L C len a b = 1 := by unfold y_f2; rw [hL, if_neg (fun w => q w.1)]; decide
      refine T_of (fX12_comes_J58.eq_1 ..) ?_
      refine T_let (b + 1) (v_wid (by omega)) ?_
      exact ih F s1 x y (b + 1) (by omega) (by omega) (by omega) mk1 (by rw [st, if_neg n2]; exact ex) (by rw [st, if_neg n1]; exact ey)
theorem em_comes {fu : Nat} (hfu : 8589934592 ≤ fu) {D s0 s : z_M} {a len : Int} (mk : y_Mk D s0 s) (ha : 0 ≤ a ∧ a < s0 309 20) :
    z_T (fX12_comes fu s 309 a len) (fun v s' => v = vI (y_cm (fun x y => y_LG D x y (s0 312 2)) (y_cl2 (y_me D (s0 312 7) (s0 309 20)) (s0 309 20)) (s0 309 20) len a) ∧ y_Mk D s0 s') := by
  have e20 := mk.e20
  have nn := mk.1.1.1
  refine T_of (fX12_comes.eq_1 ..) ?_
  refine em_comesL hfu (L := fun x y => y_LG D x y (s0 312 2)) (C := y_cl2 (y_me D (s0 312 7) (s0 309 20)) (s0 309 20)) (n := s0 309 20) (fun _ _ => rfl) (fun _ => rfl) rfl ha (by omega) (fun s' mk' => ?_) (s0 309 20 - a).toNat fu s (-1) (-1) a (by omega) (by omega) (Int.le_refl _) mk (by rw [show (a - a).toNat = 0 by omega]; rfl) (by rw [show (a - a).toNat = 0 by omega]; rfl)
  unfold y_cm
  generalize y_la (y_f2 (fun x y => y_LG D x y (s0 312 2)) (y_cl2 (y_me D (s0 312 7) (s0 309 20)) (s0 309 20)) len a) a (s0 309 20 - a).toNat = f2
  generalize y_la (y_f1 (fun x y => y_LG D x y (s0 312 2)) len a) a (s0 309 20 - a).toNat = f1
  by_cases z : f2 = -1
  · rw [if_neg (show ¬ f2 ≠ -1 from fun x => x z)]
    refine T_if1 z ?_
    by_cases z1 : f1 = -1
    · rw [if_neg (show ¬ f1 ≠ -1 from fun x => x z1)]
      refine T_if1 z1 ?_
      refine T_of (fX12_comes_J85.eq_1 ..) ?_
      exact T_ret ⟨rfl, mk'⟩
    · rw [if_pos (show f1 ≠ -1 from z1)]
      refine T_if0 z1 ?_
      refine T_of (fX12_comes_J85.eq_1 ..) ?_
      exact T_ret ⟨rfl, mk'⟩
  · rw [if_pos (show f2 ≠ -1 from z)]
    refine T_if0 z ?_
    refine T_of (fX12_comes_J85.eq_1 ..) ?_
    exact T_ret ⟨rfl, mk'⟩
/-- lines one behind the other: the k-th begins where -/
def y_it (nx : Int → Int) : Nat → Int
  | 0 => 0
  | k + 1 => nx (y_it nx k)
theorem y_it_s {nx : Int → Int} {k : Nat} : y_it nx (k + 1) = nx (y_it nx k) := rfl
/-- rows r hold c lines of n units -/
def y_LR (nx r : Int → Int) (n : Int) (c : Nat) : Prop := (∀ k : Nat, k ≤ c → r k = y_it nx k) ∧ (∀ k : Nat, k < c → y_it nx k < n) ∧ y_it nx c = n
theorem y_LR.un {nx nx' r r' : Int → Int} {n : Int} {c c' : Nat} (h : y_LR nx r n c) (h' : y_LR nx' r' n c') (e : ∀ a : Int, 0 ≤ a → a < n → nx a = nx' a) (hb : ∀ a : Int, 0 ≤ a → a < n → a < nx a) : c = c' ∧ ∀ k : Nat, k ≤ c → r k = r' k := by
  have it : ∀ k : Nat, k ≤ c → k ≤ c' → y_it nx k = y_it nx' k ∧ 0 ≤ y_it nx k := by
    intro k
    induction k with
    | zero => intro _ _; exact ⟨rfl, Int.le_refl 0⟩
    | succ k ih =>
      intro p q
      have i := ih (by omega) (by omega)
      have lt := h.2.1 k (by omega)
      rw [y_it_s, y_it_s, ← i.1]
      exact ⟨e _ i.2 lt, by have := hb _ i.2 lt; omega⟩
  have ec : c = c' := by
    by_cases z : c < c'
    · have := (it c (Nat.le_refl _) (by omega)).1
      have w := h'.2.1 c z
      have := h.2.2
      omega
    · by_cases z2 : c' < c
      · have := (it c' (by omega) (Nat.le_refl _)).1
        have w := h.2.1 c' z2
        have := h'.2.2
        omega
      · omega
  subst ec
  exact ⟨rfl, fun k p => by rw [h.1 k p, h'.1 k p]; exact (it k p p).1⟩
