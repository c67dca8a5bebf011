/-! gather: the blocks of a line, row by row -/
/-- block k of object o from f to z: its rows -/
def y_BR (D s : z_M) (o k f z : Int) : Prop := s (o + 2) k = f ∧ s (o + 4) k = z ∧ s (o + 6) k = y_sum (D 1) f (z - f + 1).toNat ∧ s (o + 14) k = y_sum (D 3) f (z - f + 1).toNat ∧ s (o + 16) k = y_sum (D 4) f (z - f + 1).toNat ∧ s (o + 8) k = y_BO D f z
/-- the blocks of the units from a to b are those from c0 to c -/
def y_GI (D s : z_M) (o a b c0 c : Int) : Prop := (c0 ≤ c ∧ c ≤ c0 + (b + 1 - a)) ∧ (∀ k : Int, c0 ≤ k → k < c → y_Bl D a b (s (o + 2) k) (s (o + 4) k) ∧ y_BR D s o k (s (o + 2) k) (s (o + 4) k)) ∧
  (∀ k : Int, c0 ≤ k → k + 1 < c → s (o + 4) k < s (o + 2) (k + 1) ∧ ∀ j : Int, s (o + 4) k < j → j < s (o + 2) (k + 1) → D 0 j ≠ 7) ∧
  (c0 < c → ∀ j : Int, s (o + 4) (c - 1) < j → j ≤ b → D 0 j ≠ 7) ∧ (∀ j : Int, a ≤ j → (if c0 < c then j < s (o + 2) c0 else j ≤ b) → D 0 j ≠ 7)
/-- cells of the rows that gather writes -/
abbrev y_gaw (o a : Int) : Prop := a = o + 2 ∨ a = o + 4 ∨ a = o + 6 ∨ a = o + 8 ∨ a = o + 14 ∨ a = o + 16
theorem y_GI.fr {D s s' : z_M} {o a b c0 c : Int} (h : y_GI D s o a b c0 c) (f : ∀ x k : Int, y_gaw o x → c0 ≤ k → s' x k = s x k) : y_GI D s' o a b c0 c := by
  obtain ⟨h1, h2, h3, h4, h5⟩ := h
  refine ⟨h1, fun k p q => ?_, fun k p q => ?_, fun p => ?_, ?_⟩
  · obtain ⟨x, y⟩ := h2 k p q
    unfold y_BR at y ⊢
    rw [f (o + 2) k (by omega) p, f (o + 4) k (by omega) p, f (o + 6) k (by omega) p, f (o + 8) k (by omega) p, f (o + 14) k (by omega) p, f (o + 16) k (by omega) p]
    exact ⟨x, y⟩
  · rw [f (o + 4) k (by omega) p, f (o + 2) (k + 1) (by omega) (by omega)]
    exact h3 k p q
  · rw [f (o + 4) (c - 1) (by omega) (by omega)]
    exact h4 p
  · rw [f (o + 2) c0 (by omega) (Int.le_refl _)]
    exact h5
/-- nothing yet -/
theorem y_GI.z {D s : z_M} {o a b c0 : Int} (h : b = a - 1) : y_GI D s o a b c0 c0 := by
  refine ⟨by omega, fun k p q => by omega, fun k p q => by omega, fun p => by omega, fun j p q => ?_⟩
  rw [if_neg (by omega)] at q
  omega
/-- one unit more that is no base -/
theorem y_GI.n {D s : z_M} {o a b b' c0 c : Int} (h : y_GI D s o a b c0 c) (e : b' = b + 1) (k : D 0 b' ≠ 7) : y_GI D s o a b' c0 c := by
  subst e
  obtain ⟨h1, h2, h3, h4, h5⟩ := h
  refine ⟨by omega, fun k p q => ?_, h3, fun p j q r => ?_, fun j p q => ?_⟩
  · obtain ⟨⟨x1, x2, x3, x4, x5, x6⟩, y⟩ := h2 k p q
    refine ⟨⟨x1, x2, by omega, x4, x5, fun w => ?_⟩, y⟩
    by_cases z : s (o + 4) k < b
    · exact x6 ⟨z, w.2⟩
    · have : s (o + 4) k + 1 = b + 1 := by omega
      have w2 := w.2.2.1
      rw [this] at w2
      exact absurd w2 ‹D 0 (b + 1) ≠ 7›
  · by_cases z : j ≤ b
    · exact h4 p j q z
    · rw [show j = b + 1 by omega]; exact k
  · by_cases z : c0 < c
    · rw [if_pos z] at q
      exact h5 j p (by rw [if_pos z]; exact q)
    · rw [if_neg z] at q
      by_cases y : j ≤ b
      · exact h5 j p (by rw [if_neg z]; exact y)
      · rw [show j = b + 1 by omega]; exact k
/-- a new block -/
theorem y_GI.new {D s s' : z_M} {o a b b' c0 c : Int} (h : y_GI D s o a b c0 c) (e : b' = b + 1) (ha : a ≤ b') (hs : y_sa D a b') (w : y_BR D s' o c b' b') (f : ∀ x k : Int, y_gaw o x → k < c → s' x k = s x k) : y_GI D s' o a b' c0 (c + 1) := by
  subst e
  obtain ⟨h1, h2, h3, h4, h5⟩ := h
  have w2 := w.1
  have w4 := w.2.1
  refine ⟨by omega, fun k p q => ?_, fun j p q => ?_, fun p j q r => ?_, fun j p q => ?_⟩
  · by_cases z : k = c
    · subst z
      rw [w2, w4]
      exact ⟨⟨ha, Int.le_refl _, Int.le_refl _, hs, fun i r t => by omega, fun t => by omega⟩, w⟩
    · obtain ⟨⟨x1, x2, x3, x4, x5, x6⟩, y⟩ := h2 k p (by omega)
      unfold y_BR at y ⊢
      rw [f (o + 2) k (by omega) (by omega), f (o + 4) k (by omega) (by omega), f (o + 6) k (by omega) (by omega), f (o + 8) k (by omega) (by omega), f (o + 14) k (by omega) (by omega), f (o + 16) k (by omega) (by omega)]
      refine ⟨⟨x1, x2, by omega, x4, x5, fun t => ?_⟩, y⟩
      by_cases z2 : s (o + 4) k < b
      · exact x6 ⟨z2, t.2⟩
      · have e2 : s (o + 4) k + 1 = b + 1 := by omega
        have t2 := t.2
        rw [e2] at t2
        exact absurd t2 ‹y_sa D a (b + 1)›.2
  · rw [f (o + 4) j (by omega) (by omega)]
    by_cases z : j + 1 = c
    · have lst := h4 (by omega)
      rw [z, w2]
      rw [show c - 1 = j by omega] at lst
      refine ⟨by have := (h2 j p (by omega)).1.2.2.1; omega, fun i r t => lst i r (by omega)⟩
    · rw [f (o + 2) (j + 1) (by omega) (by omega)]
      exact h3 j p (by omega)
  · rw [show c + 1 - 1 = c by omega, w4] at q
    omega
  · rw [if_pos (by omega)] at q
    by_cases z : c0 < c
    · rw [f (o + 2) c0 (by omega) z] at q
      exact h5 j p (by rw [if_pos z]; exact q)
    · rw [show c0 = c by omega, w2] at q
      exact h5 j p (by rw [if_neg z]; omega)
/-- the last block goes on -/
theorem y_GI.more {D s s' : z_M} {o a b b' c0 c : Int} (h : y_GI D s o a b c0 c) (e : b' = b + 1) (k : y_ct D a b') (hc : c0 < c) (l : s (o + 4) (c - 1) = b) (w : y_BR D s' o (c - 1) (s (o + 2) (c - 1)) b') (f : ∀ x k : Int, y_gaw o x → k < c - 1 → s' x k = s x k) : y_GI D s' o a b' c0 c := by
  subst e
  obtain ⟨h1, h2, h3, h4, h5⟩ := h
  have w2 := w.1
  have w4 := w.2.1
  refine ⟨by omega, fun k p q => ?_, fun j p q => ?_, fun p j q r => ?_, fun j p q => ?_⟩
  · by_cases z : k = c - 1
    · subst z
      obtain ⟨⟨x1, x2, x3, x4, x5, x6⟩, y⟩ := h2 (c - 1) p (by omega)
      rw [w2, w4]
      refine ⟨⟨x1, by omega, Int.le_refl _, x4, fun i r t => ?_, fun t => by omega⟩, w⟩
      by_cases z2 : i = b + 1
      · rw [z2]; exact ‹y_ct D a (b + 1)›
      · exact x5 i r (by omega)
    · obtain ⟨⟨x1, x2, x3, x4, x5, x6⟩, y⟩ := h2 k p (by omega)
      have lt : s (o + 4) k < b := by
        have g := (h3 k p (by omega)).1
        by_cases z3 : k + 1 = c - 1
        · rw [z3] at g
          have := (h2 (c - 1) (by omega) (by omega)).1.2.1
          omega
        · have m : ∀ (n : Nat) (i : Int), c0 ≤ i → i + 1 + n = c - 1 → s (o + 4) i < b := by
            intro n
            induction n with
            | zero =>
              intro i r t
              have g2 := (h3 i r (by omega)).1
              rw [show i + 1 = c - 1 by omega] at g2
              have := (h2 (c - 1) (by omega) (by omega)).1.2.1
              omega
            | succ n ih =>
              intro i r t
              have g2 := (h3 i r (by omega)).1
              have g3 := ih (i + 1) (by omega) (by omega)
              have := (h2 (i + 1) (by omega) (by omega)).1.2.1
              omega
          exact m (c - 1 - (k + 1)).toNat k p (by omega)
      unfold y_BR at y ⊢
      rw [f (o + 2) k (by omega) (by omega), f (o + 4) k (by omega) (by omega), f (o + 6) k (by omega) (by omega), f (o + 8) k (by omega) (by omega), f (o + 14) k (by omega) (by omega), f (o + 16) k (by omega) (by omega)]
      exact ⟨⟨x1, x2, by omega, x4, x5, fun t => x6 ⟨lt, t.2⟩⟩, y⟩
  · rw [f (o + 4) j (by omega) (by omega)]
    by_cases z : j + 1 = c - 1
    · rw [z, w2, ← z]
      exact h3 j p (by omega)
    · rw [f (o + 2) (j + 1) (by omega) (by omega)]
      exact h3 j p q
  · rw [w4] at q
    omega
  · rw [if_pos hc] at q
    refine h5 j p ?_
    rw [if_pos hc]
    by_cases z : c0 = c - 1
    · rw [z] at q ⊢
      rw [w2] at q
      exact q
    · rw [f (o + 2) c0 (by omega) (by omega)] at q
      exact q
/-- the rows of the units that gather reads -/
theorem v_k200 : z_rw 200 ∧ z_gr 200 0 = 201 ∧ z_ln 200 = 200 := v_r200
theorem e_ga116 {fu : Nat} {D s : z_M} {o f t i c : Int} {r : z_M → Int → z_O} {k : z_M → z_O} {P : z_V → z_M → Prop} (ho : y_ob2 o) (hu : y_CU2 D s) (hi : 0 ≤ i ∧ i < s 191 16) (k7 : D 0 i = 7) (hc : s o 9 = c) (h1 : 1 ≤ c ∧ c ≤ 200)
    (bw : 0 ≤ s (o + 6) (c - 1) ∧ s (o + 6) (c - 1) ≤ 480000) (br : 0 ≤ s (o + 14) (c - 1) ∧ s (o + 14) (c - 1) ≤ 3000) (bl : 0 ≤ s (o + 16) (c - 1) ∧ s (o + 16) (c - 1) ≤ 3000)
    (hk : ∀ s' : z_M, s' (o + 4) (c - 1) = i → s' (o + 6) (c - 1) = s (o + 6) (c - 1) + D 1 i → s' (o + 14) (c - 1) = s (o + 14) (c - 1) + D 3 i → s' (o + 16) (c - 1) = s (o + 16) (c - 1) + D 4 i →
      s' (o + 8) (c - 1) = y_o3 (s (o + 14) (c - 1) + D 3 i) (s (o + 16) (c - 1) + D 4 i) (s (o + 6) (c - 1) + D 1 i) → (∀ a b : Int, ¬ ((a = o + 4 ∨ a = o + 6 ∨ a = o + 8 ∨ a = o + 14 ∨ a = o + 16) ∧ b = c - 1) → s' a b = s a b) → z_T (r s' (i + 1)) P) :
    z_T (fX0_gather_J116 fu s o f t i r k) P := by
  obtain ⟨n1, _, hU, _, hD⟩ := hu
  have u := hU i hi.1 hi.2
  obtain ⟨d1, d2, d3, d4, d5, d6⟩ := hD i hi.1 hi.2
  obtain ⟨g1, g2, g3⟩ := u.2.2.1 k7
  have g199 := u.2.1
  have oo : o = 223 ∨ o = 279 := ho
  obtain ⟨o0, o1, o2, o3, o4, o5, o6, o7, o8, o9⟩ := v_o ho
  have hi2 : 0 ≤ i ∧ i < 200 := ⟨hi.1, by omega⟩
  have hcc : 0 ≤ c - 1 ∧ c - 1 < 200 := by omega
  refine T_of (fX0_gather_J116.eq_1 ..) ?_
  refine T_if1 o0 ?_
  refine T_let c hc ?_
  refine T_let (c - 1) (v_wid (by omega)) ?_
  refine T_if1 o0 ?_
  refine T_let (o + 3) o3 ?_
  refine T_if1 (v_o3 ho).1.1 ?_
  refine T_putX (v_o3 ho) hcc ?_
  refine T_if1 o0 ?_
  refine T_let (o + 5) o4 ?_
  refine T_if1 o0 ?_
  refine T_let 191 o1 ?_
  refine T_if1 v_ob191 ?_
  refine T_let 198 v_u5 ?_
  refine T_if1 v_r198.1.1 ?_
  refine T_getX v_r198 hi2 ?_
  rw [z_up_k (show (199 : Int) ≠ o + 4 by omega), g199]
  refine T_if1 (v_o5 ho).1.1 ?_
  refine T_addX (v_o5 ho) hcc ?_
  rw [z_up_k (show o + 6 ≠ o + 4 by omega), v_wid (show -2147483648 ≤ s (o + 6) (c - 1) + D 1 i ∧ s (o + 6) (c - 1) + D 1 i ≤ 2147483647 by omega)]
  refine T_if1 o0 ?_
  refine T_let (o + 13) o8 ?_
  refine T_if1 o0 ?_
  refine T_let 191 o1 ?_
  refine T_if1 v_ob191 ?_
  refine T_let 202 v_u7 ?_
  refine T_if1 v_r202.1.1 ?_
  refine T_getX v_r202 hi2 ?_
  rw [z_up_k (show (203 : Int) ≠ o + 6 by omega), z_up_k (show (203 : Int) ≠ o + 4 by omega), g2]
  refine T_if1 (v_o13 ho).1.1 ?_
  refine T_addX (v_o13 ho) hcc ?_
  rw [z_up_k (show o + 14 ≠ o + 6 by omega), z_up_k (show o + 14 ≠ o + 4 by omega), v_wid (show -2147483648 ≤ s (o + 14) (c - 1) + D 3 i ∧ s (o + 14) (c - 1) + D 3 i ≤ 2147483647 by omega)]
  refine T_if1 o0 ?_
  refine T_let (o + 15) o9 ?_
  refine T_if1 o0 ?_
  refine T_let 191 o1 ?_
  refine T_if1 v_ob191 ?_
  refine T_let 204 v_u8 ?_
  refine T_if1 v_r204.1.1 ?_
  refine T_getX v_r204 hi2 ?_
  rw [z_up_k (show (205 : Int) ≠ o + 14 by omega), z_up_k (show (205 : Int) ≠ o + 6 by omega), z_up_k (show (205 : Int) ≠ o + 4 by omega), g3]
  refine T_if1 (v_o15 ho).1.1 ?_
  refine T_addX (v_o15 ho) hcc ?_
  rw [z_up_k (show o + 16 ≠ o + 14 by omega), z_up_k (show o + 16 ≠ o + 6 by omega), z_up_k (show o + 16 ≠ o + 4 by omega), v_wid (show -2147483648 ≤ s (o + 16) (c - 1) + D 4 i ∧ s (o + 16) (c - 1) + D 4 i ≤ 2147483647 by omega)]
  refine T_if1 o0 ?_
  refine T_let (o + 13) o8 ?_
  refine T_if1 (v_o13 ho).1.1 ?_
  refine T_getX (v_o13 ho) hcc ?_
  rw [z_up_k (show o + 14 ≠ o + 16 by omega), z_up_s]
  refine T_if1 o0 ?_
  refine T_let (o + 15) o9 ?_
  refine T_if1 (v_o15 ho).1.1 ?_
  refine T_getX (v_o15 ho) hcc ?_
  rw [z_up_s]
  have m1 := z_maxb (s (o + 14) (c - 1) + D 3 i) (s (o + 16) (c - 1) + D 4 i)
  refine T_let (z_max (s (o + 14) (c - 1) + D 3 i) (s (o + 16) (c - 1) + D 4 i)) rfl ?_
  refine T_let (6 * z_max (s (o + 14) (c - 1) + D 3 i) (s (o + 16) (c - 1) + D 4 i)) (v_wid (by omega)) ?_
  refine T_if1 o0 ?_
  refine T_let (o + 7) o5 ?_
  refine T_if1 o0 ?_
  refine T_let (o + 5) o4 ?_
  refine T_if1 (v_o5 ho).1.1 ?_
  refine T_getX (v_o5 ho) hcc ?_
  rw [z_up_k (show o + 6 ≠ o + 16 by omega), z_up_k (show o + 6 ≠ o + 14 by omega), z_up_s]
  refine T_let (6 * z_max (s (o + 14) (c - 1) + D 3 i) (s (o + 16) (c - 1) + D 4 i) - (s (o + 6) (c - 1) + D 1 i)) (v_wid (by omega)) ?_
  refine T_let (y_o3 (s (o + 14) (c - 1) + D 3 i) (s (o + 16) (c - 1) + D 4 i) (s (o + 6) (c - 1) + D 1 i)) rfl ?_
  refine T_if1 (v_o7 ho).1.1 ?_
  refine T_putX (v_o7 ho) hcc ?_
  refine T_of (fX0_gather_J245.eq_1 ..) ?_
  refine T_let (i + 1) (v_wid (by omega)) ?_
  refine hk _ ?_ ?_ ?_ ?_ ?_ (fun a b q => ?_)
  · rw [z_up_k (by omega), z_up_k (by omega), z_up_k (by omega), z_up_k (by omega), z_up_s]
  · rw [z_up_k (by omega), z_up_k (by omega), z_up_k (by omega), z_up_s]
  · rw [z_up_k (by omega), z_up_k (by omega), z_up_s]
  · rw [z_up_k (by omega), z_up_s]
  · rw [z_up_s]
  · have w : ∀ (S : z_M) (x v : Int), (x = o + 4 ∨ x = o + 6 ∨ x = o + 8 ∨ x = o + 14 ∨ x = o + 16) → z_up S x (c - 1) v a b = S a b := fun S x v hx => by
      by_cases z : a = x
      · subst z
        exact z_up_j (fun y => q ⟨hx, y⟩)
      · exact z_up_k z
    rw [w _ _ _ (by omega), w _ _ _ (by omega), w _ _ _ (by omega), w _ _ _ (by omega), w _ _ _ (by omega)]
