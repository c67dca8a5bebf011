/-! the reference's blocks of a line -/
theorem em_max {fu : Nat} {s : z_M} {a b : Int} : fX12_more fu s a b = some (vI (z_max a b), s) := by
  unfold fX12_more fX12_more_J10 z_max
  by_cases h : a ≤ b
  · rw [if_pos h]
    by_cases g : a < b
    · rw [if_pos g]
    · rw [if_neg g, show a = b by omega]
  · rw [if_neg h, if_neg (show ¬ a < b by omega)]
/-- rows of blocks at u: none yet -/
def y_B00 (s : z_M) (u : Int) : Prop := s 3227 u = 0 ∧ s 3228 u = 0 ∧ s 3229 u = 0 ∧ s 3230 u = 0 ∧ s 3231 u = 0
/-- rows of blocks at u -/
def y_BB (D s : z_M) (a b u : Int) : Prop := s 3227 u = 0 ∧ s 3228 u = 0 ∧ s 3229 u = (if y_sa D a u then y_e D a b u - u + 1 else 0) ∧ s 3230 u = y_wa D a b u ∧ s 3231 u = y_wb D a b u ∧ (y_sa D a u → s 3232 u = y_ov D a b u ∧ s 3233 u = y_sum (D 1) u (y_e D a b u - u + 1).toNat)
theorem em_bl0 {fu : Nat} {a b : Int} {s0 : z_M} {k : z_M → z_O} {P : z_V → z_M → Prop} (hb : b < 200) (ha : 0 ≤ a) (hk : ∀ s' : z_M, (∀ v : Int, a ≤ v → v ≤ b → y_B00 s' v) → (∀ x y : Int, ¬ (3227 ≤ x ∧ x ≤ 3231) → s' x y = s0 x y) → z_T (k s') P) :
    ∀ (m F : Nat) (s : z_M) (u : Int), (m : Int) = b + 1 - u → m < F → a ≤ u → (∀ v : Int, a ≤ v → v < u → y_B00 s v) → (∀ x y : Int, ¬ (3227 ≤ x ∧ x ≤ 3231) → s x y = s0 x y) → z_T (fX12_laysBlocks_L2 fu 309 a b F s u k) P := by
  intro m
  induction m with
  | zero =>
    intro F s u h1 hF h3 g f
    obtain ⟨F, rfl⟩ : ∃ F2, F = F2 + 1 := ⟨F - 1, by omega⟩
    refine T_of (fX12_laysBlocks_L2.eq_2 ..) ?_
    refine T_if1 (show b < u by omega) ?_
    exact hk s (fun v p q => g v p (by omega)) f
  | succ m ih =>
    intro F s u h1 hF h3 g f
    obtain ⟨F, rfl⟩ : ∃ F2, F = F2 + 1 := ⟨F - 1, by omega⟩
    have u2 : 0 ≤ u ∧ u < 200 := by omega
    refine T_of (fX12_laysBlocks_L2.eq_2 ..) ?_
    refine T_if0 (show ¬ b < u by omega) ?_
    refine T_if1 v_ob309 ?_
    refine T_let 3229 v_gm30 ?_
    refine T_if1 (v_x3229 u2) ?_
    refine T_up ?_
    refine T_if1 v_ob309 ?_
    refine T_let 3230 v_gm31 ?_
    refine T_if1 (v_x3230 u2) ?_
    refine T_up ?_
    refine T_if1 v_ob309 ?_
    refine T_let 3231 v_gm32 ?_
    refine T_if1 (v_x3231 u2) ?_
    refine T_up ?_
    refine T_if1 v_ob309 ?_
    refine T_let 3227 v_gm28 ?_
    refine T_if1 (v_x3227 u2) ?_
    refine T_up ?_
    refine T_if1 v_ob309 ?_
    refine T_let 3228 v_gm29 ?_
    refine T_if1 (v_x3228 u2) ?_
    refine T_up ?_
    refine T_let (u + 1) (v_wid (by omega)) ?_
    refine ih F _ (u + 1) (by omega) (by omega) (by omega) (fun v p q => ?_) (fun x y q => ?_)
    · by_cases z : v = u
      · subst z
        refine ⟨?_, ?_, ?_, ?_, ?_⟩
        · rw [z_up_k (by decide), z_up_s]
        · rw [z_up_s]
        · rw [z_up_k (by decide), z_up_k (by decide), z_up_k (by decide), z_up_k (by decide), z_up_s]
        · rw [z_up_k (by decide), z_up_k (by decide), z_up_k (by decide), z_up_s]
        · rw [z_up_k (by decide), z_up_k (by decide), z_up_s]
      · have w : ∀ (S : z_M) (x v2 c : Int), z_up S x u v2 c v = S c v := fun S x v2 c => z_up_k2 (fun y => z y.2)
        have g1 := g v p (by omega)
        unfold y_B00 at g1 ⊢
        rw [w, w, w, w, w, w, w, w, w, w, w, w, w, w, w, w, w, w, w, w, w, w, w, w, w]
        exact g1
    · rw [z_up_k (by omega), z_up_k (by omega), z_up_k (by omega), z_up_k (by omega), z_up_k (by omega)]
      exact f x y q
/-- the run of bases of one group from u on -/
theorem em_bl84 {fu : Nat} {D s : z_M} (h : y_MU2 D s) {a b u : Int} (hb : b < s 309 20) (ha : 0 ≤ a) (hu : a ≤ u ∧ u ≤ b) (k7 : D 0 u = 7) (hw : ∀ v : Int, a ≤ v → v ≤ b → D 0 v = 7 → s 3224 v = D 1 v) {k : z_M → Int → Int → Int → Int → z_O} : ∀ (m F : Nat) (n r l w : Int), (m : Int) = b + 1 - (u + n) → m < F → 1 ≤ n → (∀ i : Int, u < i → i < u + n → y_ct D a i) → r = y_sum (D 3) u n.toNat → l = y_sum (D 4) u n.toNat → w = y_sum (D 1) u n.toNat → u + n - 1 ≤ b →
    fX12_laysBlocks_L84 fu 309 b u F s n r l w k = k s (y_Ee D a b m (u + n - 1) - u + 1) (y_sum (D 3) u (y_Ee D a b m (u + n - 1) - u + 1).toNat) (y_sum (D 4) u (y_Ee D a b m (u + n - 1) - u + 1).toNat) (y_sum (D 1) u (y_Ee D a b m (u + n - 1) - u + 1).toNat) := by
  intro m
  induction m with
  | zero =>
    intro F n r l w h1 hF h0 hc er el ew hn
    obtain ⟨F, rfl⟩ : ∃ F2, F = F2 + 1 := ⟨F - 1, by omega⟩
    have nn := h.1.1
    rw [fX12_laysBlocks_L84.eq_2]
    simp only [z_let]
    rw [v_wid (by omega), if_pos (show b < u + n by omega)]
    show _ = k s (u + n - 1 - u + 1) (y_sum (D 3) u (u + n - 1 - u + 1).toNat) (y_sum (D 4) u (u + n - 1 - u + 1).toNat) (y_sum (D 1) u (u + n - 1 - u + 1).toNat)
    rw [show u + n - 1 - u + 1 = n by omega, er, el, ew]
  | succ m ih =>
    intro F n r l w h1 hF h0 hc er el ew hn
    obtain ⟨F, rfl⟩ : ∃ F2, F = F2 + 1 := ⟨F - 1, by omega⟩
    have nn := h.1.1
    have i2 : 0 ≤ u + n ∧ u + n < s 309 20 := by omega
    have x1 := h.2.2.1 (u + n) i2.1 i2.2
    have x0 := h.2.2.1 u (by omega) (by omega)
    have dd : ∀ i : Int, u ≤ i → i < u + (n.toNat : Nat) → 0 ≤ i ∧ i < s 309 20 := fun i p q => ⟨by omega, by omega⟩
    have s3 := y_sum_r (f := D 3) (a := u) (m := 15) n.toNat (fun j p q => (h.2.2.2 j (dd j p q).1 (dd j p q).2).2.2.2.2.1)
    have s4 := y_sum_r (f := D 4) (a := u) (m := 15) n.toNat (fun j p q => (h.2.2.2 j (dd j p q).1 (dd j p q).2).2.2.2.2.2)
    have s1 := y_sum_r (f := D 1) (a := u) (m := 2400) n.toNat (fun j p q => (h.2.2.2 j (dd j p q).1 (dd j p q).2).2.1)
    have nb : (n.toNat : Int) = n := by omega
    have d1 := h.2.2.2 (u + n) i2.1 i2.2
    have last : D 0 (u + n - 1) = 7 ∧ D 2 (u + n - 1) = D 2 u := by
      have m2 : ∀ j : Nat, (j : Int) < n → D 0 (u + j) = 7 ∧ D 2 (u + j) = D 2 u := by
        intro j
        induction j with
        | zero => intro _; rw [show u + ((0 : Nat) : Int) = u by omega]; exact ⟨k7, rfl⟩
        | succ j ij =>
          intro q
          have c := hc (u + ((j + 1 : Nat) : Int)) (by omega) (by omega)
          have i := ij (by omega)
          refine ⟨c.2.1, ?_⟩
          have c4 := c.2.2.2
          rw [show u + ((j + 1 : Nat) : Int) - 1 = u + j by omega, i.2] at c4
          exact c4.symm
      have := m2 (n - 1).toNat (by omega)
      rw [show u + (((n - 1).toNat : Nat) : Int) = u + n - 1 by omega] at this
      exact this
    rw [fX12_laysBlocks_L84.eq_2]
    simp only [z_let]
    rw [v_wid (show -2147483648 ≤ u + n ∧ u + n ≤ 2147483647 by omega), if_neg (show ¬ b < u + n by omega), if_pos v_ob309, em_group h.1 i2]
    simp only [zb_I]
    rw [if_pos v_ob309, em_group h.1 (show 0 ≤ u ∧ u < s 309 20 by omega)]
    simp only [zb_I]
    have gu : y_gm s u = D 2 u := (x0.2.2 k7).1
    rw [gu, y_E_e, show u + n - 1 + 1 = u + n by omega]
    by_cases c : y_ct D a (u + n)
    · have k8 := c.2.1
      have y3 := x1.2.2 k8
      have cg := c.2.2.2
      rw [last.2] at cg
      rw [if_neg (show ¬ y_gm s (u + n) ≠ D 2 u from fun x => x (y3.1.trans cg.symm)), if_pos (show u + n - 1 < b ∧ y_ct D a (u + n) from ⟨by omega, c⟩), if_pos v_ob309, em_lettersOf h.1 i2 (x1.1.trans k8) (Or.inl rfl)]
      simp only [zb_I]
      rw [y3.2.1, v_wid (show -2147483648 ≤ r + D 3 (u + n) ∧ r + D 3 (u + n) ≤ 2147483647 by omega), if_pos v_ob309, em_lettersOf h.1 i2 (x1.1.trans k8) (Or.inr rfl)]
      simp only [zb_I, if_pos v_ob309, v_gm25, if_pos (v_x3224 (show 0 ≤ u + n ∧ u + n < 200 by omega))]
      rw [y3.2.2, v_wid (show -2147483648 ≤ l + D 4 (u + n) ∧ l + D 4 (u + n) ≤ 2147483647 by omega), hw (u + n) (by omega) (by omega) k8, v_wid (show -2147483648 ≤ w + D 1 (u + n) ∧ w + D 1 (u + n) ≤ 2147483647 by omega), v_wid (show -2147483648 ≤ n + 1 ∧ n + 1 ≤ 2147483647 by omega)]
      have more : ∀ f : Int → Int, y_sum f u n.toNat + f (u + n) = y_sum f u (n + 1).toNat := fun f => by
        rw [show (n + 1).toNat = n.toNat + 1 by omega, y_sum_s, nb]
      rw [ih F (n + 1) (r + D 3 (u + n)) (l + D 4 (u + n)) (w + D 1 (u + n)) (by omega) (by omega) (by omega) (fun i p q => by
        by_cases z : i = u + n
        · rw [z]; exact c
        · exact hc i p (by omega)) (by rw [er, more]) (by rw [el, more]) (by rw [ew, more]) (by omega), show u + (n + 1) - 1 = u + n by omega]
    · have ne : y_gm s (u + n) ≠ D 2 u := fun q => by
        unfold y_gm at q
        by_cases k8 : s 3220 (u + n) = 7
        · have y3 := x1.2.2 (x1.1 ▸ k8)
          have q2 : y_gm s (u + n) = D 2 u := by unfold y_gm; exact q
          refine c ⟨by omega, x1.1 ▸ k8, last.1, ?_⟩
          rw [last.2, ← y3.1, q2]
        · rw [if_neg k8] at q
          exact (h.2.2.2 u (by omega) (by omega)).2.2.2.1 k7 |>.2 q.symm
      rw [if_pos ne, if_neg (show ¬ (u + n - 1 < b ∧ y_ct D a (u + n)) from fun x => c x.2)]
      rw [show u + n - 1 - u + 1 = n by omega, ← er, ← el, ← ew]
theorem em_bl84s {fu : Nat} {D s : z_M} (h : y_MU2 D s) {a b u : Int} (hb : b < s 309 20) (ha : 0 ≤ a) (hu : a ≤ u ∧ u ≤ b) (k7 : D 0 u = 7) (hw : ∀ v : Int, a ≤ v → v ≤ b → D 0 v = 7 → s 3224 v = D 1 v) {k : z_M → Int → Int → Int → Int → z_O} (F : Nat) (hF : b - u + 1 < F) :
    fX12_laysBlocks_L84 fu 309 b u F s 0 0 0 0 k = k s (y_e D a b u - u + 1) (y_sum (D 3) u (y_e D a b u - u + 1).toNat) (y_sum (D 4) u (y_e D a b u - u + 1).toNat) (y_sum (D 1) u (y_e D a b u - u + 1).toNat) := by
  obtain ⟨F, rfl⟩ : ∃ F2, F = F2 + 1 := ⟨F - 1, by omega⟩
  have nn := h.1.1
  have i2 : 0 ≤ u ∧ u < s 309 20 := by omega
  have x0 := h.2.2.1 u i2.1 i2.2
  have y3 := x0.2.2 k7
  have d1 := h.2.2.2 u i2.1 i2.2
  have one : ∀ f : Int → Int, 0 + f u = y_sum f u (1 : Int).toNat := fun f => by
    rw [show (1 : Int).toNat = 0 + 1 from rfl, y_sum_s, show u + ((0 : Nat) : Int) = u by omega]; rfl
  rw [fX12_laysBlocks_L84.eq_2]
  simp only [z_let, show u + 0 = u from Int.add_zero u]
  rw [v_wid (show -2147483648 ≤ u ∧ u ≤ 2147483647 by omega), if_neg (show ¬ b < u by omega), if_pos v_ob309, em_group h.1 i2]
  simp only [zb_I]
  rw [if_pos v_ob309, em_group h.1 i2]
  simp only [zb_I]
  rw [if_neg (show ¬ y_gm s u ≠ y_gm s u from fun x => x rfl), if_pos v_ob309, em_lettersOf h.1 i2 (x0.1.trans k7) (Or.inl rfl)]
  simp only [zb_I]
  rw [y3.2.1, v_wid (show -2147483648 ≤ 0 + D 3 u ∧ 0 + D 3 u ≤ 2147483647 by omega), if_pos v_ob309, em_lettersOf h.1 i2 (x0.1.trans k7) (Or.inr rfl)]
  simp only [zb_I, if_pos v_ob309, v_gm25, if_pos (v_x3224 (show 0 ≤ u ∧ u < 200 by omega))]
  rw [y3.2.2, v_wid (show -2147483648 ≤ 0 + D 4 u ∧ 0 + D 4 u ≤ 2147483647 by omega), hw u (by omega) (by omega) k7, v_wid (show -2147483648 ≤ 0 + D 1 u ∧ 0 + D 1 u ≤ 2147483647 by omega), show z_w (0 + 1) = 1 by decide +kernel]
  rw [em_bl84 h hb ha hu k7 hw (b - u).toNat F 1 (0 + D 3 u) (0 + D 4 u) (0 + D 1 u) (by omega) (by omega) (Int.le_refl 1) (fun i p q => by omega) (one _) (one _) (one _) (by omega), show u + 1 - 1 = u by omega]
  rfl
/-- from any unit on its block's end is y_e -/
theorem y_e_b {D : z_M} {a b : Int} : ∀ (m : Nat) (u : Int), (m : Int) = b - u → u ≤ y_e D a b u ∧ y_e D a b u ≤ b ∧ (∀ i : Int, u < i → i ≤ y_e D a b u → y_ct D a i) ∧ ¬ (y_e D a b u < b ∧ y_ct D a (y_e D a b u + 1)) := by
  intro m
  induction m with
  | zero =>
    intro u h
    rw [y_e_n (by omega)]
    exact ⟨Int.le_refl _, by omega, fun i p q => by omega, fun q => by omega⟩
  | succ m ih =>
    intro u h
    by_cases c : u < b ∧ y_ct D a (u + 1)
    · rw [y_e_s c]
      obtain ⟨a1, a2, a3, a4⟩ := ih (u + 1) (by omega)
      refine ⟨by omega, a2, fun i p q => ?_, a4⟩
      by_cases z : i = u + 1
      · rw [z]; exact c.2
      · exact a3 i (by omega) q
    · rw [y_e_n c]
      exact ⟨Int.le_refl _, by omega, fun i p q => by omega, c⟩
theorem y_Bl.of {D : z_M} {a b u : Int} (h0 : a ≤ u) (h1 : u ≤ b) (s : y_sa D a u) : y_Bl D a b u (y_e D a b u) := by
  obtain ⟨a1, a2, a3, a4⟩ := y_e_b (D := D) (a := a) (b := b) (b - u).toNat u (by omega)
  exact ⟨h0, a1, a2, s, a3, a4⟩
/-- a block's rows are told -/
theorem em_bl156 {fu : Nat} {D s : z_M} (hD : y_DF D (s 309 20)) (nn : s 309 20 ≤ 200) {a b u : Int} (hb : b < s 309 20) (ha : 0 ≤ a) (bl : y_Bl D a b u (y_e D a b u)) {r : z_M → Int → z_O} {k : z_M → z_O} {P : z_V → z_M → Prop}
    (hk : ∀ s' : z_M, s' 3229 u = y_e D a b u - u + 1 → s' 3232 u = y_ov D a b u → s' 3233 u = y_sum (D 1) u (y_e D a b u - u + 1).toNat → s' 3230 u = y_ov D a b u / 2 → s' 3231 (y_e D a b u) = y_ov D a b u - y_ov D a b u / 2 → (∀ x v : Int, ¬ ((x = 3229 ∨ x = 3230 ∨ x = 3232 ∨ x = 3233) ∧ v = u) → ¬ (x = 3231 ∧ v = y_e D a b u) → s' x v = s x v) → z_T (r s' (y_e D a b u + 1)) P) :
    z_T (fX12_laysBlocks_J156 fu s 309 b u (y_e D a b u - u + 1) (y_sum (D 3) u (y_e D a b u - u + 1).toNat) (y_sum (D 4) u (y_e D a b u - u + 1).toNat) (y_sum (D 1) u (y_e D a b u - u + 1).toNat) r k) P := by
  have b1 := bl.1
  have b2 := bl.2.1
  have b3 := bl.2.2.1
  have u2 : 0 ≤ u ∧ u < 200 := by omega
  have z2 : 0 ≤ y_e D a b u ∧ y_e D a b u < 200 := by omega
  have bo := y_BO_b hD bl ha hb nn
  rw [← bl.ov] at bo
  have eo : z_max 0 (6 * z_max (y_sum (D 3) u (y_e D a b u - u + 1).toNat) (y_sum (D 4) u (y_e D a b u - u + 1).toNat) - y_sum (D 1) u (y_e D a b u - u + 1).toNat) = y_ov D a b u := rfl
  have dd : ∀ i : Int, u ≤ i → i < u + ((y_e D a b u - u + 1).toNat : Nat) → 0 ≤ i ∧ i < s 309 20 := fun i p q => ⟨by omega, by omega⟩
  have s3 := y_sum_r (f := D 3) (a := u) (m := 15) (y_e D a b u - u + 1).toNat (fun j p q => (hD j (dd j p q).1 (dd j p q).2).2.2.2.2.1)
  have s4 := y_sum_r (f := D 4) (a := u) (m := 15) (y_e D a b u - u + 1).toNat (fun j p q => (hD j (dd j p q).1 (dd j p q).2).2.2.2.2.2)
  have s1 := y_sum_r (f := D 1) (a := u) (m := 2400) (y_e D a b u - u + 1).toNat (fun j p q => (hD j (dd j p q).1 (dd j p q).2).2.1)
  have nb : ((y_e D a b u - u + 1).toNat : Int) ≤ 200 := by omega
  generalize y_sum (D 3) u (y_e D a b u - u + 1).toNat = R at *
  generalize y_sum (D 4) u (y_e D a b u - u + 1).toNat = L at *
  generalize y_sum (D 1) u (y_e D a b u - u + 1).toNat = W at *
  generalize y_ov D a b u = O at *
  generalize y_e D a b u = Z at *
  have m1 := z_maxb R L
  refine T_of (fX12_laysBlocks_J156.eq_1 ..) ?_
  refine T_if1 v_ob309 ?_
  refine T_let 3229 v_gm30 ?_
  refine T_if1 (v_x3229 u2) ?_
  refine T_up ?_
  refine T_if1 v_ob309 ?_
  refine T_let 3233 v_gm34 ?_
  refine T_if1 (v_x3233 u2) ?_
  refine T_up ?_
  refine T_if1 v_ob309 ?_
  refine T_let 3232 v_gm33 ?_
  refine T_bI (T_of em_max (T_rI ?_))
  refine T_let (6 * z_max R L) (v_wid (by omega)) ?_
  refine T_let (6 * z_max R L - W) (v_wid (by omega)) ?_
  refine T_bI (T_of em_max (T_rI ?_))
  rw [eo]
  refine T_if1 (v_x3232 u2) ?_
  refine T_up ?_
  refine T_if1 v_ob309 ?_
  refine T_let 3230 v_gm31 ?_
  refine T_if1 v_ob309 ?_
  refine T_let 3232 v_gm33 ?_
  refine T_if1 (v_x3232 u2) ?_
  refine T_let O z_up_s ?_
  refine T_if1 (by decide) ?_
  refine T_let (O / 2) (by rw [v_td2 bo.2.1]; exact v_wid (by omega)) ?_
  refine T_if1 (v_x3230 u2) ?_
  refine T_up ?_
  refine T_if1 v_ob309 ?_
  refine T_let 3231 v_gm32 ?_
  refine T_let (Z + 1) (by rw [v_wid (by omega)]; omega) ?_
  refine T_let Z (by rw [v_wid (by omega)]; omega) ?_
  refine T_if1 v_ob309 ?_
  refine T_let 3232 v_gm33 ?_
  refine T_if1 (v_x3232 u2) ?_
  refine T_let O ((z_up_k (by decide)).trans z_up_s) ?_
  refine T_if1 v_ob309 ?_
  refine T_let 3232 v_gm33 ?_
  refine T_if1 (v_x3232 u2) ?_
  refine T_let O ((z_up_k (by decide)).trans z_up_s) ?_
  refine T_if1 (by decide) ?_
  refine T_let (O / 2) (by rw [v_td2 bo.2.1]; exact v_wid (by omega)) ?_
  refine T_let (O - O / 2) (v_wid (by omega)) ?_
  refine T_if1 (v_x3231 z2) ?_
  refine T_up ?_
  refine T_let (Z + 1) (by rw [v_wid (by omega)]; omega) ?_
  refine hk _ ?_ ?_ ?_ ?_ ?_ (fun x v p q => ?_)
  · rw [z_up_k (by decide), z_up_k (by decide), z_up_k (by decide), z_up_k (by decide), z_up_s]
  · rw [z_up_k (by decide), z_up_k (by decide), z_up_s]
  · rw [z_up_k (by decide), z_up_k (by decide), z_up_k (by decide), z_up_s]
  · rw [z_up_k (by decide), z_up_s]
  · rw [z_up_s]
  · rw [z_up_k2 q, z_up_k2 (by omega), z_up_k2 (by omega), z_up_k2 (by omega), z_up_k2 (by omega)]
theorem em_blL {fu : Nat} (hfu : 8589934592 ≤ fu) {D : z_M} {a b : Int} {s0 : z_M} {k : z_M → z_O} {P : z_V → z_M → Prop} (h : y_MU2 D s0) (hb : b < s0 309 20) (ha : 0 ≤ a) (hw : ∀ v : Int, a ≤ v → v ≤ b → D 0 v = 7 → s0 3224 v = D 1 v)
    (hk : ∀ s' : z_M, (∀ v : Int, a ≤ v → v ≤ b → y_BB D s' a b v) → (∀ x y : Int, ¬ (3227 ≤ x ∧ x ≤ 3233) → s' x y = s0 x y) → z_T (k s') P) :
    ∀ (m F : Nat) (s : z_M) (u : Int), b + 1 - u ≤ (m : Int) → m < F → a ≤ u → u ≤ b + 1 → (u ≤ b → ¬ y_ct D a u) → (∀ v : Int, a ≤ v → v < u → y_BB D s a b v) → (∀ v : Int, u ≤ v → v ≤ b → y_B00 s v) → (∀ x y : Int, ¬ (3227 ≤ x ∧ x ≤ 3233) → s x y = s0 x y) → z_T (fX12_laysBlocks_L50 fu 309 b F s u k) P := by
  intro m
  induction m with
  | zero =>
    intro F s u h1 hF h3 h4 nc g g0 f
    obtain ⟨F, rfl⟩ : ∃ F2, F = F2 + 1 := ⟨F - 1, by omega⟩
    refine T_of (fX12_laysBlocks_L50.eq_2 ..) ?_
    refine T_if1 (show b < u by omega) ?_
    exact hk s (fun v p q => g v p (by omega)) f
  | succ m ih =>
    intro F s u h1 hF h3 h4 nc g g0 f
    obtain ⟨F, rfl⟩ : ∃ F2, F = F2 + 1 := ⟨F - 1, by omega⟩
    refine T_of (fX12_laysBlocks_L50.eq_2 ..) ?_
    refine T_ite (fun q => hk s (fun v p q2 => g v p (by omega)) f) (fun q => ?_)
    have hs : y_MU2 D s := h.fr (f _ _ (by decide)) (fun c d p q => f c d (by omega)) (fun j q => f _ _ (by decide))
    have e20 : s 309 20 = s0 309 20 := f _ _ (by decide)
    have nn := hs.1.1
    have u2 : 0 ≤ u ∧ u < 200 := by omega
    refine T_if1 v_ob309 ?_
    refine T_let 3220 v_gm21 ?_
    refine T_if1 (v_x3220 u2) ?_
    refine T_let (D 0 u) (hs.2.2.1 u (by omega) (by omega)).1 ?_
    refine T_ite (fun k7 => ?_) (fun k7 => ?_)
    · have sa : y_sa D a u := ⟨k7, nc (by omega)⟩
      have bl := y_Bl.of (b := b) h3 (by omega) sa
      have b2 := bl.2.1
      have b3 := bl.2.2.1
      refine T_of (em_bl84s hs (by omega) ha ⟨h3, by omega⟩ k7 (fun v p q r => by rw [f 3224 v (by decide)]; exact hw v p q r) fu (by omega)) ?_
      refine em_bl156 hs.2.2.2 nn.2 (by omega) ha bl (fun s' g29 g32 g33 g30 g31 gf => ?_)
      refine ih F s' (y_e D a b u + 1) (by omega) (by omega) (by omega) (by omega) (fun w c => bl.2.2.2.2.2 ⟨by omega, c⟩) (fun v p q => ?_) (fun v p q => ?_) (fun x y w => ?_)
      · by_cases z : v < u
        · obtain ⟨c1, c2, c3, c4, c5, c6⟩ := g v p z
          unfold y_BB
          rw [gf 3227 v (by omega) (by omega), gf 3228 v (by omega) (by omega), gf 3229 v (by omega) (by omega), gf 3230 v (by omega) (by omega), gf 3231 v (by omega) (by omega), gf 3232 v (by omega) (by omega), gf 3233 v (by omega) (by omega)]
          exact ⟨c1, c2, c3, c4, c5, c6⟩
        · obtain ⟨c1, c2, c3, c4, c5⟩ := g0 v (by omega) (by omega)
          have ew := bl.wa (i := v) (by omega) (by omega)
          have eb := bl.wb (i := v) (by omega) (by omega)
          have es := bl.sa (i := v) (by omega) (by omega)
          rw [← bl.ov] at ew eb
          unfold y_BB
          rw [gf 3227 v (by omega) (by omega), gf 3228 v (by omega) (by omega), ew, eb]
          by_cases z1 : v = u
          · subst z1
            refine ⟨c1, c2, by rw [if_pos sa]; exact g29, by rw [if_pos rfl]; exact g30, ?_, fun _ => ⟨g32, g33⟩⟩
            by_cases z2 : v = y_e D a b v
            · rw [if_pos z2]
              rw [← z2] at g31
              exact g31
            · rw [if_neg z2, gf 3231 v (by omega) (fun w => z2 w.2)]; exact c5
          · refine ⟨c1, c2, ?_, ?_, ?_, fun w => absurd (es.mp w) z1⟩
            · rw [if_neg (fun w => z1 (es.mp w)), gf 3229 v (by omega) (by omega)]; exact c3
            · rw [if_neg z1, gf 3230 v (by omega) (by omega)]; exact c4
            · by_cases z2 : v = y_e D a b u
              · rw [if_pos z2, z2]; exact g31
              · rw [if_neg z2, gf 3231 v (by omega) (fun w => z2 w.2)]; exact c5
      · obtain ⟨c1, c2, c3, c4, c5⟩ := g0 v (by omega) q
        unfold y_B00
        rw [gf 3227 v (by omega) (by omega), gf 3228 v (by omega) (by omega), gf 3229 v (by omega) (by omega), gf 3230 v (by omega) (by omega), gf 3231 v (by omega) (by omega)]
        exact ⟨c1, c2, c3, c4, c5⟩
      · rw [gf x y (by omega) (by omega)]; exact f x y w
    · refine T_let (u + 1) (v_wid (by omega)) ?_
      refine ih F s (u + 1) (by omega) (by omega) (by omega) (by omega) (fun _ c => k7 (by have := c.2.2.1; rw [show u + 1 - 1 = u by omega] at this; exact this)) (fun v p q => ?_) (fun v p q => g0 v (by omega) q) f
      by_cases z : v = u
      · subst z
        obtain ⟨c1, c2, c3, c4, c5⟩ := g0 v (Int.le_refl _) (by omega)
        refine ⟨c1, c2, by rw [if_neg (fun w => k7 w.1)]; exact c3, by rw [y_wa_n k7]; exact c4, by rw [y_wb_n k7]; exact c5, fun w => absurd w.1 k7⟩
      · exact g v p (by omega)
theorem em_laysBlocks {fu : Nat} (hfu : 8589934592 ≤ fu) {D s : z_M} (h : y_MU2 D s) {a b : Int} (ha : 0 ≤ a ∧ a ≤ b) (hb : b < s 309 20) (hw : ∀ v : Int, a ≤ v → v ≤ b → D 0 v = 7 → s 3224 v = D 1 v) :
    z_T (fX12_laysBlocks fu s 309 a b) (fun v s' => v = vN ∧ (∀ v : Int, a ≤ v → v ≤ b → y_BB D s' a b v) ∧ ∀ x y : Int, ¬ (3227 ≤ x ∧ x ≤ 3233) → s' x y = s x y) := by
  have nn := h.1.1
  refine T_of (fX12_laysBlocks.eq_1 ..) ?_
  refine em_bl0 (s0 := s) (by omega) ha.1 (fun s1 g f => ?_) (b + 1 - a).toNat fu s a (by omega) (by omega) (Int.le_refl _) (fun v p q => by omega) (fun _ _ _ => rfl)
  have h1 : y_MU2 D s1 := h.fr (f _ _ (by decide)) (fun c d p q => f c d (by omega)) (fun j q => f _ _ (by decide))
  refine em_blL hfu h1 (by rw [f 309 20 (by decide)]; exact hb) ha.1 (fun v p q r => by rw [f 3224 v (by decide)]; exact hw v p q r) (fun s2 g2 f2 => ?_) (b + 1 - a).toNat fu s1 a (by omega) (by omega) (Int.le_refl _) (by omega) (fun _ c => by have := c.1; omega) (fun v p q => by omega) (fun v p q => g v p q) (fun _ _ _ => rfl)
  exact T_ret ⟨rfl, g2, fun x y q => (f2 x y q).trans (f x y (by omega))⟩
/-! what units lend, pads, LONG -/
theorem em_lends {fu : Nat} {D s : z_M} (h : y_MU2 D s) {a b ln v ah : Int} (hv : 0 ≤ v ∧ v < s 309 20) (hl : s 312 2 = ln) (h4 : s 3224 v = y_w D a b v) (h5 : s 3225 v = y_sA D a b v) (h6 : s 3226 v = y_sB D a b v) : fX12_lends fu s 309 v ah = some (vI (if ah = 0 then y_lB D a b ln v else y_lA D a b ln v), s) := by
  have nn := h.1.1
  have v2 : 0 ≤ v ∧ v < 200 := by omega
  have ek := (h.2.2.1 v hv.1 hv.2).1
  unfold fX12_lends fX12_lends_J29 fX12_lends_J73
  simp only [z_let, if_pos v_ob309, v_gm21, v_gm9, v_gm25, v_gm26, v_gm27, if_pos (v_x3220 v2), if_pos (v_x3224 v2), if_pos (v_x3225 v2), if_pos (v_x3226 v2), if_pos (v_x312 (show (0 : Int) ≤ 2 ∧ (2 : Int) < 9 by decide)), ek, hl, h4, h5, h6]
  unfold y_lA y_lB
  by_cases k0 : D 0 v = 0
  · rw [if_pos k0, if_pos (Or.inl k0), if_pos (Or.inl k0)]
    by_cases q : ah = 0
    · rw [if_pos q]
    · rw [if_neg q]
  · rw [if_neg k0]
    by_cases k1 : D 0 v = 1
    · rw [if_pos k1, if_pos (Or.inr (Or.inl k1)), if_pos (Or.inr (Or.inl k1))]
      by_cases q : ah = 0
      · rw [if_pos q]
      · rw [if_neg q]
    · rw [if_neg k1]
      by_cases k2 : D 0 v = 2
      · rw [if_neg (show ¬ D 0 v ≠ 2 from fun x => x k2), if_pos (Or.inr (Or.inr k2)), if_pos (Or.inr (Or.inr k2))]
        by_cases q : ah = 0
        · rw [if_pos q]
        · rw [if_neg q]
      · have n3 : ¬ (D 0 v = 0 ∨ D 0 v = 1 ∨ D 0 v = 2) := by omega
        rw [if_pos (show D 0 v ≠ 2 from k2), if_neg n3, if_neg n3]
        by_cases k6 : D 0 v = 6
        · rw [if_neg (show ¬ D 0 v ≠ 6 from fun x => x k6), if_pos k6, if_pos k6]
          by_cases q : ah = 0
          · rw [if_pos q]
          · rw [if_neg q]
        · rw [if_pos (show D 0 v ≠ 6 from k6), if_neg k6, if_neg k6]
          by_cases q : ah = 0
          · rw [if_pos q, if_pos q]
          · rw [if_neg q, if_neg q]
theorem y_lA_b {D : z_M} {n a b ln v : Int} (d : y_DF D n) (hv : 0 ≤ v ∧ v < n) (hl : 0 ≤ ln ∧ ln ≤ 6) : 0 ≤ y_lA D a b ln v ∧ y_lA D a b ln v ≤ 6 := by
  unfold y_lA
  by_cases k : D 0 v = 0 ∨ D 0 v = 1 ∨ D 0 v = 2
  · rw [if_pos k]; exact hl
  · rw [if_neg k]
    by_cases k6 : D 0 v = 6
    · rw [if_pos k6]
      have := (d v hv.1 hv.2).2.2.1 k6
      unfold y_w
      split
      · decide
      · split
        · decide
        · omega
    · rw [if_neg k6]
      exact (y_sAB_b).2
theorem y_lB_b {D : z_M} {n a b ln v : Int} (d : y_DF D n) (hv : 0 ≤ v ∧ v < n) (hl : 0 ≤ ln ∧ ln ≤ 6) : 0 ≤ y_lB D a b ln v ∧ y_lB D a b ln v ≤ 6 := by
  unfold y_lB
  by_cases k : D 0 v = 0 ∨ D 0 v = 1 ∨ D 0 v = 2
  · rw [if_pos k]; exact hl
  · rw [if_neg k]
    by_cases k6 : D 0 v = 6
    · rw [if_pos k6]
      have := (d v hv.1 hv.2).2.2.1 k6
      unfold y_w
      split
      · decide
      · split
        · decide
        · omega
    · rw [if_neg k6]
      exact (y_sAB_b).1
/-- rows of spaces and of blocks stand -/
def y_LB (D s : z_M) (a b : Int) : Prop := ∀ v : Int, a ≤ v → v ≤ b → (s 3224 v = y_w D a b v ∧ s 3225 v = y_sA D a b v ∧ s 3226 v = y_sB D a b v) ∧ s 3230 v = y_wa D a b v ∧ s 3231 v = y_wb D a b v
theorem em_mayAhead {fu : Nat} {D s : z_M} (h : y_MU2 D s) {a b ln u : Int} (lb : y_LB D s a b) (ha : 0 ≤ a) (hb : b < s 309 20) (hu : a ≤ u ∧ u ≤ b) (hl : s 312 2 = ln) (hln : 0 ≤ ln ∧ ln ≤ 6) : fX12_mayAhead fu s 309 u a b = some (vI (y_mA D a b ln u), s) := by
  have nn := h.1.1
  unfold fX12_mayAhead fX12_mayAhead_J55 fX12_mayAhead_J57 y_mA
  by_cases q : u = a
  · rw [if_neg (show ¬ u ≠ a from fun x => x q), if_pos q]
  · have l1 := lb (u - 1) (by omega) (by omega)
    have u1 : 0 ≤ u - 1 ∧ u - 1 < 200 := by omega
    have bb := y_lA_b (a := a) (b := b) h.2.2.2 (show 0 ≤ u - 1 ∧ u - 1 < s 309 20 by omega) hln
    rw [if_pos (show u ≠ a from q), if_neg q]
    simp only [z_let]
    rw [v_wid (show -2147483648 ≤ u - 1 ∧ u - 1 ≤ 2147483647 by omega), v_wid (show -2147483648 ≤ u - 2 ∧ u - 2 ≤ 2147483647 by omega), if_pos v_ob309, em_lends h ⟨by omega, by omega⟩ hl l1.1.1 l1.1.2.1 l1.1.2.2]
    simp only [zb_I]
    rw [if_neg (show ¬ (1 : Int) = 0 by decide)]
    by_cases q2 : u - 2 < a
    · rw [if_pos q2, if_neg (fun x => by have := x.1; omega)]
    · rw [if_neg q2]
      have l2 := lb (u - 2) (by omega) (by omega)
      have u2 : 0 ≤ u - 2 ∧ u - 2 < 200 := by omega
      simp only [if_pos v_ob309, v_gm21, v_gm32, if_pos (v_x3220 u1), if_pos (v_x3231 u2), (h.2.2.1 (u - 1) (by omega) (by omega)).1, l2.2.2]
      by_cases k7 : D 0 (u - 1) = 7
      · rw [if_pos k7, if_neg (fun x => x.2.1 k7)]
      · rw [if_neg k7]
        by_cases q3 : y_wb D a b (u - 2) ≤ 0
        · rw [if_pos q3, if_neg (fun x => by have := x.2.2; omega)]
        · rw [if_neg q3, if_pos (by decide), if_pos ⟨by omega, k7, by omega⟩, v_td2 bb.1, v_wid (by omega)]
theorem em_mayBehind {fu : Nat} {D s : z_M} (h : y_MU2 D s) {a b ln u : Int} (lb : y_LB D s a b) (ha : 0 ≤ a) (hb : b < s 309 20) (hu : a ≤ u ∧ u ≤ b) (hl : s 312 2 = ln) (hln : 0 ≤ ln ∧ ln ≤ 6) : fX12_mayBehind fu s 309 u a b = some (vI (y_mB D a b ln u), s) := by
  have nn := h.1.1
  unfold fX12_mayBehind fX12_mayBehind_J55 fX12_mayBehind_J57 y_mB
  by_cases q : u = b
  · rw [if_neg (show ¬ u ≠ b from fun x => x q), if_pos q]
  · have l1 := lb (u + 1) (by omega) (by omega)
    have u1 : 0 ≤ u + 1 ∧ u + 1 < 200 := by omega
    have bb := y_lB_b (a := a) (b := b) h.2.2.2 (show 0 ≤ u + 1 ∧ u + 1 < s 309 20 by omega) hln
    rw [if_pos (show u ≠ b from q), if_neg q]
    simp only [z_let]
    rw [v_wid (show -2147483648 ≤ u + 1 ∧ u + 1 ≤ 2147483647 by omega), v_wid (show -2147483648 ≤ u + 2 ∧ u + 2 ≤ 2147483647 by omega), if_pos v_ob309, em_lends h ⟨by omega, by omega⟩ hl l1.1.1 l1.1.2.1 l1.1.2.2]
    simp only [zb_I]
    rw [if_pos True.intro]
    by_cases q2 : b < u + 2
    · rw [if_pos q2, if_neg (fun x => by have := x.1; omega)]
    · rw [if_neg q2]
      have l2 := lb (u + 2) (by omega) (by omega)
      have u2 : 0 ≤ u + 2 ∧ u + 2 < 200 := by omega
      simp only [if_pos v_ob309, v_gm21, v_gm31, if_pos (v_x3220 u1), if_pos (v_x3230 u2), (h.2.2.1 (u + 1) (by omega) (by omega)).1, l2.2.1]
      by_cases k7 : D 0 (u + 1) = 7
      · rw [if_pos k7, if_neg (fun x => x.2.1 k7)]
      · rw [if_neg k7]
        by_cases q3 : y_wa D a b (u + 2) ≤ 0
        · rw [if_pos q3, if_neg (fun x => by have := x.2.2; omega)]
        · rw [if_neg q3, if_pos (by decide), if_pos ⟨by omega, k7, by omega⟩, v_td2 bb.1, v_wid (by omega)]
