/-! hang, all blocks of a line; LONG of a line as the class tells it -/
def y_pd (D : z_M) (A B ln x : Int) : Int := y_sum (fun u => y_pA D A B ln u + y_pB D A B ln u) A (x - A).toNat
theorem y_pAB_b {D : z_M} {n A B ln : Int} (d : y_DF D n) (hA : 0 ≤ A) (hB : B < n) (hn : n ≤ 200) (f z : Int) (hb : y_Bl D A B f z) : y_pd D A B ln (z + 1) = y_pd D A B ln f + (y_pA D A B ln f + y_pB D A B ln z) := by
  have h1 := hb.1
  have h2 := hb.2.1
  unfold y_pd
  rw [y_sum_pt (f := fun u => y_pA D A B ln u + y_pB D A B ln u) (a := A) (x := f) (y := z + 1) h1 (by omega), y_sum_2 (f := y_pA D A B ln) (g := y_pB D A B ln) (a := f) (z + 1 - f).toNat]
  rw [y_sum_one (f := y_pA D A B ln) (x := f) (z + 1 - f).toNat f (Int.le_refl f) (by omega) (fun i p q r => y_pA_n (by rw [hb.wa p (by omega), if_neg r]))]
  rw [y_sum_one (f := y_pB D A B ln) (x := z) (z + 1 - f).toNat f h2 (by omega) (fun i p q r => y_pB_n (by rw [hb.wb p (by omega), if_neg r]))]
theorem y_pd_n {D : z_M} {A B ln x y : Int} (h0 : A ≤ x) (h1 : x ≤ y) (h : ∀ i : Int, x ≤ i → i < y → D 0 i ≠ 7) : y_pd D A B ln y = y_pd D A B ln x := by
  unfold y_pd
  rw [y_sum_pt (f := fun u => y_pA D A B ln u + y_pB D A B ln u) (a := A) (x := x) (y := y) h0 h1, y_sum_0 (f := fun u => y_pA D A B ln u + y_pB D A B ln u) (a := x) (n := (y - x).toNat) (fun i p q => ?_)]
  · omega
  · show y_pA D A B ln i + y_pB D A B ln i = 0
    rw [y_pA_n (y_wa_n (h i p (by omega))), y_pB_n (y_wb_n (h i p (by omega)))]; rfl
/-- the blocks of a line: neighbours, and where bases stand -/
theorem y_GI.mono {D s : z_M} {o a b c0 c : Int} (g : y_GI D s o a b c0 c) : ∀ (n : Nat) (k : Int), c0 ≤ k → k + n < c → s (o + 2) k ≤ s (o + 2) (k + n) ∧ (n ≠ 0 → s (o + 4) k < s (o + 2) (k + n)) := by
  intro n
  induction n with
  | zero => intro k p q; exact ⟨by rw [show k + ((0 : Nat) : Int) = k by omega]; exact Int.le_refl _, fun w => absurd rfl w⟩
  | succ n ih =>
    intro k p q
    have i := ih k p (by omega)
    have l := g.2.2.1 (k + n) (by omega) (by omega)
    have e := (g.2.1 (k + n) (by omega) (by omega)).1.2.1
    have e0 := (g.2.1 k p (by omega)).1.2.1
    rw [show k + ((n + 1 : Nat) : Int) = k + n + 1 by omega]
    refine ⟨by omega, fun _ => ?_⟩
    by_cases z : n = 0
    · subst z
      rw [show k + ((0 : Nat) : Int) = k by omega] at l ⊢
      exact l.1
    · have := i.2 z
      omega
/-- a base in the line is in a block -/
theorem y_GI.has {D s : z_M} {o a b c0 c u : Int} (g : y_GI D s o a b c0 c) (h0 : a ≤ u) (h1 : u ≤ b) (k7 : D 0 u = 7) : ∃ k : Int, c0 ≤ k ∧ k < c ∧ s (o + 2) k ≤ u ∧ u ≤ s (o + 4) k := by
  have hc : c0 < c := by
    by_cases z : c0 < c
    · exact z
    · exact absurd k7 (g.2.2.2.2 u h0 (by rw [if_neg z]; exact h1))
  have m : ∀ n : Nat, c0 + n < c → (∃ k : Int, c0 ≤ k ∧ k < c ∧ s (o + 2) k ≤ u ∧ u ≤ s (o + 4) k) ∨ s (o + 4) (c0 + n) < u := by
    intro n
    induction n with
    | zero =>
      intro q
      rw [show c0 + ((0 : Nat) : Int) = c0 by omega]
      by_cases w : s (o + 2) c0 ≤ u
      · by_cases w2 : u ≤ s (o + 4) c0
        · exact Or.inl ⟨c0, Int.le_refl _, hc, w, w2⟩
        · exact Or.inr (by omega)
      · exact absurd k7 (g.2.2.2.2 u h0 (by rw [if_pos hc]; omega))
    | succ n ih =>
      intro q
      rcases ih (by omega) with i | i
      · exact Or.inl i
      · have l := g.2.2.1 (c0 + n) (by omega) (by omega)
        rw [show c0 + (n : Int) + 1 = c0 + ((n + 1 : Nat) : Int) by omega] at l
        by_cases w : s (o + 2) (c0 + ((n + 1 : Nat) : Int)) ≤ u
        · by_cases w2 : u ≤ s (o + 4) (c0 + ((n + 1 : Nat) : Int))
          · exact Or.inl ⟨_, by omega, q, w, w2⟩
          · exact Or.inr (by omega)
        · exact absurd k7 (l.2 u i (by omega))
  rcases m (c - 1 - c0).toNat (by omega) with i | i
  · exact i
  · rw [show c0 + (((c - 1 - c0).toNat : Nat) : Int) = c - 1 by omega] at i
    exact absurd k7 (g.2.2.2.1 hc u i h1)
theorem y_GI.prev {D s : z_M} {o A B c0 c k : Int} (g : y_GI D s o (y_fr D A B) (y_to D A B) c0 c) (hAB : A ≤ B + 1) (hk : c0 ≤ k ∧ k < c) : (c0 < k ∧ s (o + 4) (k - 1) + 2 = s (o + 2) k ∧ 0 < s (o + 8) (k - 1)) ↔ (A ≤ s (o + 2) k - 2 ∧ D 0 (s (o + 2) k - 1) ≠ 7 ∧ 0 < y_wb D A B (s (o + 2) k - 2)) := by
  have ft := y_ft (D := D) hAB
  have bk := (g.2.1 k hk.1 hk.2).1
  constructor
  · rintro ⟨c1, c2, c3⟩
    obtain ⟨b1, r1⟩ := g.2.1 (k - 1) (by omega) (by omega)
    have l := g.2.2.1 (k - 1) (by omega) (by omega)
    rw [show k - 1 + 1 = k by omega] at l
    have up := b1.up hAB
    refine ⟨by have := up.1; have := up.2.1; omega, l.2 _ (by omega) (by omega), ?_⟩
    rw [show s (o + 2) k - 2 = s (o + 4) (k - 1) by omega, up.wb up.2.1 (Int.le_refl _), if_pos rfl, ← r1.2.2.2.2.2]
    omega
  · rintro ⟨d1, d2, d3⟩
    have k7 : D 0 (s (o + 2) k - 2) = 7 := by
      by_cases z : D 0 (s (o + 2) k - 2) = 7
      · exact z
      · rw [y_wb_n z] at d3; omega
    have b0 := bk.1
    have b2 := bk.2.1
    have b3 := bk.2.2.1
    have lo : y_fr D A B ≤ s (o + 2) k - 2 := by
      by_cases z : y_fr D A B ≤ s (o + 2) k - 2
      · exact z
      · have := ft.2.2.1 (s (o + 2) k - 2) d1 (by omega)
        omega
    obtain ⟨j, j0, j1, j2, j3⟩ := g.has lo (by omega) k7
    have jk : j < k := by
      by_cases z : j < k
      · exact z
      · have m := (g.mono (j - k).toNat k hk.1 (by omega)).1
        rw [show k + (((j - k).toNat : Nat) : Int) = j by omega] at m
        omega
    have e : j = k - 1 := by
      by_cases z : j = k - 1
      · exact z
      · have m := (g.mono (k - 1 - j).toNat j j0 (by omega)).2 (by omega)
        rw [show j + (((k - 1 - j).toNat : Nat) : Int) = k - 1 by omega] at m
        have l := g.2.2.1 (k - 1) (by omega) (by omega)
        rw [show k - 1 + 1 = k by omega] at l
        have b := (g.2.1 (k - 1) (by omega) (by omega)).1
        have b21 := b.2.1
        exact absurd (b.k (i := s (o + 2) k - 1) (by omega) (by omega)) d2
    subst e
    obtain ⟨b1, r1⟩ := g.2.1 (k - 1) j0 j1
    have l := g.2.2.1 (k - 1) (by omega) (by omega)
    rw [show k - 1 + 1 = k by omega] at l
    have up := b1.up hAB
    have ez : s (o + 4) (k - 1) = s (o + 2) k - 2 := by
      by_cases z : s (o + 4) (k - 1) = s (o + 2) k - 2
      · exact z
      · exact absurd (up.k (i := s (o + 2) k - 1) (by omega) (by omega)) d2
    rw [← ez, up.wb up.2.1 (Int.le_refl _), if_pos rfl, ← r1.2.2.2.2.2] at d3
    exact ⟨by omega, by omega, by omega⟩
theorem y_GI.next {D s : z_M} {n o A B c0 c k : Int} (d : y_DF D n) (hA : 0 ≤ A) (hB : B < n) (hn : n ≤ 200) (g : y_GI D s o (y_fr D A B) (y_to D A B) c0 c) (hAB : A ≤ B + 1) (hk : c0 ≤ k ∧ k < c) : (k + 1 < c ∧ s (o + 2) (k + 1) = s (o + 4) k + 1 + 1 ∧ 0 < s (o + 8) (k + 1)) ↔ (s (o + 4) k + 2 ≤ B ∧ D 0 (s (o + 4) k + 1) ≠ 7 ∧ 0 < y_wa D A B (s (o + 4) k + 2)) := by
  have ft := y_ft (D := D) hAB
  have bk := (g.2.1 k hk.1 hk.2).1
  constructor
  · rintro ⟨c1, c2, c3⟩
    obtain ⟨b1, r1⟩ := g.2.1 (k + 1) (by omega) (by omega)
    have l := g.2.2.1 k (by omega) (by omega)
    have up := b1.up hAB
    have bo := y_BO_b d up hA hB hn
    refine ⟨by have := up.2.1; have := up.2.2.1; omega, l.2 _ (by omega) (by omega), ?_⟩
    rw [show s (o + 4) k + 2 = s (o + 2) (k + 1) by omega, up.wa (Int.le_refl _) up.2.1, if_pos rfl]
    rw [r1.2.2.2.2.2] at c3
    omega
  · rintro ⟨d1, d2, d3⟩
    have k7 : D 0 (s (o + 4) k + 2) = 7 := by
      by_cases z : D 0 (s (o + 4) k + 2) = 7
      · exact z
      · rw [y_wa_n z] at d3; omega
    have b0 := bk.1
    have b2 := bk.2.1
    have b3 := bk.2.2.1
    have hi : s (o + 4) k + 2 ≤ y_to D A B := by
      by_cases z : s (o + 4) k + 2 ≤ y_to D A B
      · exact z
      · have := ft.2.2.2.1 (s (o + 4) k + 2) (by omega) d1
        omega
    obtain ⟨j, j0, j1, j2, j3⟩ := g.has (by omega) hi k7
    have jk : k < j := by
      by_cases z : k < j
      · exact z
      · by_cases w : j = k
        · subst w; omega
        · have m := (g.mono (k - j).toNat j j0 (by omega)).2 (by omega)
          rw [show j + (((k - j).toNat : Nat) : Int) = k by omega] at m
          omega
    have e : j = k + 1 := by
      by_cases z : j = k + 1
      · exact z
      · have m := (g.mono (j - (k + 1)).toNat (k + 1) (by omega) (by omega)).2 (by omega)
        rw [show k + 1 + (((j - (k + 1)).toNat : Nat) : Int) = j by omega] at m
        have l := g.2.2.1 k (by omega) (by omega)
        have := (g.2.1 (k + 1) (by omega) (by omega)).1.2.1
        have f1 := (g.2.1 (k + 1) (by omega) (by omega)).1.k (i := s (o + 2) (k + 1)) (Int.le_refl _) this
        by_cases y : s (o + 2) (k + 1) = s (o + 4) k + 1
        · rw [y] at f1; exact absurd f1 d2
        · omega
    subst e
    obtain ⟨b1, r1⟩ := g.2.1 (k + 1) (by omega) j1
    have l := g.2.2.1 k (by omega) (by omega)
    have up := b1.up hAB
    have bo := y_BO_b d up hA hB hn
    have ez : s (o + 2) (k + 1) = s (o + 4) k + 2 := by
      by_cases y : s (o + 2) (k + 1) = s (o + 4) k + 1
      · have f1 := up.k (i := s (o + 2) (k + 1)) (Int.le_refl _) up.2.1
        rw [y] at f1; exact absurd f1 d2
      · omega
    rw [← ez, up.wa (Int.le_refl _) up.2.1, if_pos rfl] at d3
    refine ⟨j1, by omega, ?_⟩
    rw [r1.2.2.2.2.2]
    omega
/-- what hang leaves: how much blocks hang over -/
def y_HB (D s : z_M) (o A B ln c0 c : Int) : Prop := ∀ k : Int, c0 ≤ k → k < c → s (o + 10) k = s (o + 8) k / 2 - y_pA D A B ln (s (o + 2) k) ∧ s (o + 12) k = s (o + 8) k - s (o + 8) k / 2 - y_pB D A B ln (s (o + 4) k)
