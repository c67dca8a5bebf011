/-! the reference: gutters laid out, pages; the six calls -/
/-- gutters and outer sides are laid out -/
def y_LG2 (s0 s : z_M) : Prop := ∀ i : Int, 0 ≤ i → i < s0 309 44 → (i + 1 < s0 309 44 → s 7654 i = y_Gm s0 i) ∧ s 7655 i = y_om s0 1 i
theorem em_lgL {fu : Nat} (hfu : 8589934592 ≤ fu) {s0 : z_M} (rb : y_RBd s0) {kont : z_M → z_O} {P : z_V → z_M → Prop} (kk : ∀ s' : z_M, y_GF s0 s' → y_LG2 s0 s' → z_T (kont s') P) : ∀ (m F : Nat) (s : z_M) (l : Int), (m : Int) = s0 309 44 - l → m < F → 0 ≤ l → y_GF s0 s → (∀ i : Int, 0 ≤ i → i < l → (i + 1 < s0 309 44 → s 7654 i = y_Gm s0 i) ∧ s 7655 i = y_om s0 1 i) → z_T (fX12_laysGutters_L6 fu 309 F s l kont) P := by
  have h44 := rb.1.2.1
  intro m
  induction m with
  | zero =>
    intro F s l e hF h2 g k
    obtain ⟨F, rfl⟩ : ∃ F2, F = F2 + 1 := ⟨F - 1, by omega⟩
    have e44 : s 309 44 = s0 309 44 := g 309 44 (by omega) (by omega)
    have el : l = s0 309 44 := by omega
    subst el
    refine T_of (fX12_laysGutters_L6.eq_2 ..) ?_
    refine T_if1 v_ob309 ?_
    refine T_let (s0 309 44) e44 ?_
    refine T_if1 (by omega) ?_
    exact kk s g k
  | succ m ih =>
    intro F s l e hF h2 g k
    obtain ⟨F, rfl⟩ : ∃ F2, F = F2 + 1 := ⟨F - 1, by omega⟩
    have e44 : s 309 44 = s0 309 44 := g 309 44 (by omega) (by omega)
    have end59 : ∀ (s1 : z_M) (y G : Int), y_GF s0 s1 → (l + 1 < s0 309 44 → G = y_Gm s0 l) → y = y_om s0 1 l → (∀ b : Int, b ≠ l → s1 7654 b = s 7654 b) → s1 7654 l = G → (∀ b : Int, s1 7655 b = s 7655 b) → z_T (fX12_laysGutters_J59 fu s1 309 l 7655 l y (fun w v1 => fX12_laysGutters_L6 fu 309 F w v1 kont) kont) P := fun s1 y G g1 hG hy f1 f2 f3 => by
      refine T_of (fX12_laysGutters_J59.eq_1 ..) ?_
      refine T_if1 (v_x7655 (by omega)) ?_
      refine T_upG (fun s2 a2 f => ?_)
      refine T_let (l + 1) (v_wid (by omega)) ?_
      refine ih F s2 (l + 1) (by omega) (by omega) (by omega) (g1.tr (fun a b p q => f a b (by omega))) (fun i p q => ?_)
      by_cases z : i = l
      · subst z
        rw [f 7654 i (by omega), f2, a2]
        exact ⟨hG, hy⟩
      · rw [f 7654 i (by omega), f1 i z, f 7655 i (by omega), f3 i]
        exact k i p (by omega)
    have end38 : ∀ (s1 : z_M) (G : Int), y_GF s0 s1 → (∀ b : Int, s1 7654 b = s 7654 b ∧ s1 7655 b = s 7655 b) → (l + 1 < s0 309 44 → G = y_Gm s0 l) → z_T (fX12_laysGutters_J38 fu s1 309 l 7654 l G (fun w v1 => fX12_laysGutters_L6 fu 309 F w v1 kont) kont) P := fun s1 G g1 f1 hG => by
      refine T_of (fX12_laysGutters_J38.eq_1 ..) ?_
      refine T_if1 (v_x7654 (by omega)) ?_
      refine T_upG (fun s2 a2 f2 => ?_)
      have g2 : y_GF s0 s2 := g1.tr (fun a b p q => f2 a b (by omega))
      have rb2 := g2.rb rb
      have e2 : s2 309 44 = s0 309 44 := g2 309 44 (by omega) (by omega)
      refine T_if1 v_ob309 ?_
      refine T_let 7655 v_gm64 ?_
      refine T_if1 v_ob309 ?_
      refine T_useI (em_sideOf hfu rb2 (l := l) ⟨h2, by omega⟩ (Or.inr rfl)) (fun v s3 hq => ?_)
      obtain ⟨rfl, g3⟩ := hq
      refine T_vI ?_
      obtain ⟨f3, k3⟩ := g3.gf (Int.le_refl 0)
      rw [g2.n2 rb h2 (by omega)]
      have x1 : ∀ b : Int, b ≠ l → s3 7654 b = s 7654 b := fun b z => by rw [k3 7654 b (by decide), f2 7654 b (by omega)]; exact (f1 b).1
      have x2 : s3 7654 l = G := by rw [k3 7654 l (by decide), a2]
      have x3 : ∀ b : Int, s3 7655 b = s 7655 b := fun b => by rw [k3 7655 b (by decide), f2 7655 b (by omega)]; exact (f1 b).2
      refine T_ite (fun hN => ?_) (fun hN => ?_)
      · exact end59 s3 0 G (g2.tr f3) hG (if_pos hN).symm x1 x2 x3
      · exact end59 s3 6 G (g2.tr f3) hG (if_neg hN).symm x1 x2 x3
    refine T_of (fX12_laysGutters_L6.eq_2 ..) ?_
    refine T_if1 v_ob309 ?_
    refine T_let (s0 309 44) e44 ?_
    refine T_if0 (by omega) ?_
    refine T_if1 v_ob309 ?_
    refine T_let 7654 v_gm63 ?_
    refine T_let (l + 1) (v_wid (by omega)) ?_
    refine T_if1 v_ob309 ?_
    refine T_let (s0 309 44) e44 ?_
    refine T_ite (fun hE => ?_) (fun hE => ?_)
    · exact end38 s 0 g (fun b => ⟨rfl, rfl⟩) (fun q => by omega)
    · refine T_if1 v_ob309 ?_
      refine T_useI (em_gutterOf hfu (g.rb rb) (l := l) ⟨h2, by omega⟩) (fun v s1 hq => ?_)
      obtain ⟨rfl, g1, k1⟩ := hq
      refine T_vI ?_
      exact end38 s1 _ (g.tr g1) (fun b => ⟨k1 7654 b (by decide), k1 7655 b (by decide)⟩) (fun q => g.G rb h2 q)
/-- pages: where they begin -/
theorem em_pgI {fu : Nat} (hfu : 8589934592 ≤ fu) {s0 s : z_M} (rb : y_RBd s0) (g : y_GF s0 s) (lg : y_LG2 s0 s) {v n a : Int} (ha : 0 ≤ a ∧ a < s0 309 44) {kont : z_M → Int → z_O} {P : z_V → z_M → Prop} (kk : z_T (kont s (y_pge (y_Tm s0) (s0 309 44) v a + 1)) P) : ∀ (m F : Nat) (e so : Int), (m : Int) = s0 309 44 - 1 - e → m < F → a ≤ e → so = y_Tm s0 a e - y_om s0 1 e → y_pe (y_Tm s0 a) (s0 309 44) v m e = y_pge (y_Tm s0) (s0 309 44) v a → z_T (fX12_pagesBy_L45 fu 309 v n F s (e + 1) so kont) P := by
  have h44 := rb.1.2.1
  have e44 : s 309 44 = s0 309 44 := g 309 44 (by omega) (by omega)
  intro m
  induction m with
  | zero =>
    intro F e so h hF h2 hs hp
    obtain ⟨F, rfl⟩ : ∃ F2, F = F2 + 1 := ⟨F - 1, by omega⟩
    rw [y_pe_0] at hp
    refine T_of (fX12_pagesBy_L45.eq_2 ..) ?_
    refine T_if1 v_ob309 ?_
    refine T_let (s0 309 44) e44 ?_
    refine T_if1 (by omega) ?_
    rw [← hp] at kk
    exact kk
  | succ m ih =>
    intro F e so h hF h2 hs hp
    obtain ⟨F, rfl⟩ : ∃ F2, F = F2 + 1 := ⟨F - 1, by omega⟩
    rw [y_pe_s] at hp
    have tS : y_Tm s0 a (e + 1) = y_Tm s0 a e + 12 + y_Gm s0 e + y_om s0 1 (e + 1) - y_om s0 1 e := y_THi_s (G := y_Gm s0) (oR := y_om s0 0) (oL := y_om s0 1) h2
    have ge : s 7654 e = y_Gm s0 e := (lg e (by omega) (by omega)).1 (by omega)
    have oe : s 7655 (e + 1) = y_om s0 1 (e + 1) := (lg (e + 1) (by omega) (by omega)).2
    have gb := rb.G (l := e)
    have o1 := y_om_b (s := s0) (d := 1) (l := e + 1)
    have o0 := y_om_b (s := s0) (d := 0) (l := a)
    have sr := y_su_r (f := y_Gm s0) (a := a) (u := e) (m := 24) (by decide) (fun i _ _ => rb.G) h2 (by omega)
    have eT : y_Tm s0 a e = 12 * (e - a + 1) + y_su (y_Gm s0) a e + y_om s0 0 a + y_om s0 1 e := rfl
    refine T_of (fX12_pagesBy_L45.eq_2 ..) ?_
    refine T_if1 v_ob309 ?_
    refine T_let (s0 309 44) e44 ?_
    refine T_if0 (by omega) ?_
    refine T_if1 v_ob309 ?_
    refine T_let 7654 v_gm63 ?_
    refine T_let e ((congrArg z_w (show e + 1 - 1 = e by omega)).trans (v_wid (by omega))) ?_
    refine T_if1 (v_x7654 (by omega)) ?_
    refine T_let (y_Gm s0 e) ge ?_
    refine T_let (so + y_Gm s0 e) (v_wid (by omega)) ?_
    refine T_let (so + y_Gm s0 e + 12) (v_wid (by omega)) ?_
    refine T_if1 v_ob309 ?_
    refine T_let 7655 v_gm64 ?_
    refine T_if1 (v_x7655 (by omega)) ?_
    refine T_let (y_om s0 1 (e + 1)) oe ?_
    refine T_let (y_Tm s0 a (e + 1)) ((v_wid (by omega)).trans (by omega)) ?_
    refine T_ite (fun hT => ?_) (fun hT => ?_)
    · rw [if_neg (fun q => by have := q.2; omega)] at hp
      rw [← hp] at kk
      exact kk
    · rw [if_pos ⟨by omega, by omega⟩] at hp
      refine T_if1 v_ob309 ?_
      refine T_let 7654 v_gm63 ?_
      refine T_let e ((congrArg z_w (show e + 1 - 1 = e by omega)).trans (v_wid (by omega))) ?_
      refine T_if1 (v_x7654 (by omega)) ?_
      refine T_let (y_Gm s0 e) ge ?_
      refine T_let (y_Gm s0 e + 12) (v_wid (by omega)) ?_
      refine T_let (so + (y_Gm s0 e + 12)) (v_wid (by omega)) ?_
      refine T_let (e + 1 + 1) (v_wid (by omega)) ?_
      exact ih F (e + 1) _ (by omega) (by omega) (by omega) (by omega) hp
/-- the reference's pages -/
def y_PGs (s0 s : z_M) (v : Int) : Prop := y_GF s0 s ∧ y_LG2 s0 s ∧ (∀ j : Nat, (j : Int) < y_pgc (y_pge (y_Tm s0) (s0 309 44) v) (s0 309 44) 0 → s 7653 j = y_ps (y_pge (y_Tm s0) (s0 309 44) v) j) ∧ s 7653 (y_pgc (y_pge (y_Tm s0) (s0 309 44) v) (s0 309 44) 0) = s0 309 44
theorem em_pagesBy {fu : Nat} (hfu : 8589934592 ≤ fu) {s0 s : z_M} (rb : y_RBd s0) (g : y_GF s0 s) (lg : y_LG2 s0 s) {v : Int} : z_T (fX12_pagesBy fu s 309 v) (fun r s' => r = vI (y_pgc (y_pge (y_Tm s0) (s0 309 44) v) (s0 309 44) 0) ∧ y_PGs s0 s' v) := by
  have h44 := rb.1.2.1
  have hE : ∀ a : Int, a ≤ y_pge (y_Tm s0) (s0 309 44) v a := fun a => y_pge_l
  have cb := (y_pgc_b (N := s0 309 44) hE (s0 309 44).toNat 0 (by omega))
  have go : ∀ (m F : Nat) (s1 : z_M) (j : Nat), s0 309 44 - y_ps (y_pge (y_Tm s0) (s0 309 44) v) j ≤ m → m < F → y_ps (y_pge (y_Tm s0) (s0 309 44) v) j ≤ s0 309 44 → (j : Int) + y_pgc (y_pge (y_Tm s0) (s0 309 44) v) (s0 309 44) (y_ps (y_pge (y_Tm s0) (s0 309 44) v) j) = y_pgc (y_pge (y_Tm s0) (s0 309 44) v) (s0 309 44) 0 → y_GF s0 s1 → y_LG2 s0 s1 → (∀ i : Nat, i < j → s1 7653 i = y_ps (y_pge (y_Tm s0) (s0 309 44) v) i) → z_T (fX12_pagesBy_L4 fu 309 v F s1 (j : Int) (y_ps (y_pge (y_Tm s0) (s0 309 44) v) j) (fun s26 x27 => if z_ob 309 12 then z_let (z_gr 309 62) (fun x28 => if z_ob 309 12 then z_let (s26 309 44) (fun x29 => if z_ix x28 100 x27 then z_let (z_up s26 x28 x27 x29) (fun s30 => some (vI x27, s30)) else none) else none) else none)) (fun r s' => r = vI (y_pgc (y_pge (y_Tm s0) (s0 309 44) v) (s0 309 44) 0) ∧ y_PGs s0 s' v) := by
    have fin : ∀ (s1 : z_M) (j : Nat), s0 309 44 ≤ y_ps (y_pge (y_Tm s0) (s0 309 44) v) j → (j : Int) + y_pgc (y_pge (y_Tm s0) (s0 309 44) v) (s0 309 44) (y_ps (y_pge (y_Tm s0) (s0 309 44) v) j) = y_pgc (y_pge (y_Tm s0) (s0 309 44) v) (s0 309 44) 0 → y_GF s0 s1 → y_LG2 s0 s1 → (∀ i : Nat, i < j → s1 7653 i = y_ps (y_pge (y_Tm s0) (s0 309 44) v) i) → z_T (if z_ob 309 12 then z_let (z_gr 309 62) (fun x28 => if z_ob 309 12 then z_let (s1 309 44) (fun x29 => if z_ix x28 100 (j : Int) then z_let (z_up s1 x28 (j : Int) x29) (fun s30 => some (vI (j : Int), s30)) else none) else none) else none) (fun r s' => r = vI (y_pgc (y_pge (y_Tm s0) (s0 309 44) v) (s0 309 44) 0) ∧ y_PGs s0 s' v) := fun s1 j hz e g1 l1 k1 => by
      rw [y_pgc_z hz] at e
      have ej : y_pgc (y_pge (y_Tm s0) (s0 309 44) v) (s0 309 44) 0 = (j : Int) := by omega
      have c2 := cb.2 h44.1
      have e44 : s1 309 44 = s0 309 44 := g1 309 44 (by omega) (by omega)
      unfold y_PGs
      rw [ej]
      refine T_if1 v_ob309 ?_
      refine T_let 7653 v_gm62 ?_
      refine T_if1 v_ob309 ?_
      refine T_let (s0 309 44) e44 ?_
      refine T_if1 (v_x7653 (by omega)) ?_
      refine T_upG (fun s2 a2 f2 => ?_)
      exact T_ret ⟨rfl, g1.tr (fun a b p q => f2 a b (by omega)), fun i p q => by rw [f2 7654 i (by omega), f2 7655 i (by omega)]; exact l1 i p q, fun i p => by rw [f2 7653 i (by omega)]; exact k1 i (by omega), a2⟩
    intro m
    induction m with
    | zero =>
      intro F s1 j h hF h2 e g1 l1 k1
      obtain ⟨F, rfl⟩ : ∃ F2, F = F2 + 1 := ⟨F - 1, by omega⟩
      have e44 : s1 309 44 = s0 309 44 := g1 309 44 (by omega) (by omega)
      refine T_of (fX12_pagesBy_L4.eq_2 ..) ?_
      refine T_if1 v_ob309 ?_
      refine T_let (s0 309 44) e44 ?_
      refine T_if1 (by omega) ?_
      exact fin s1 j (by omega) e g1 l1 k1
    | succ m ih =>
      intro F s1 j h hF h2 e g1 l1 k1
      obtain ⟨F, rfl⟩ : ∃ F2, F = F2 + 1 := ⟨F - 1, by omega⟩
      have e44 : s1 309 44 = s0 309 44 := g1 309 44 (by omega) (by omega)
      refine T_of (fX12_pagesBy_L4.eq_2 ..) ?_
      refine T_if1 v_ob309 ?_
      refine T_let (s0 309 44) e44 ?_
      refine T_ite (fun hN => ?_) (fun hN => ?_)
      · exact fin s1 j (by omega) e g1 l1 k1
      · have jl := y_ps_l hE j
        have hl := hE (y_ps (y_pge (y_Tm s0) (s0 309 44) v) j)
        have pe := (y_pge_p (T := y_Tm s0) (N := s0 309 44) (w := v) (a := y_ps (y_pge (y_Tm s0) (s0 309 44) v) j) (by omega)).1
        have sc := y_pgc_s hE (N := s0 309 44) (a := y_ps (y_pge (y_Tm s0) (s0 309 44) v) j) (by omega)
        have es : y_ps (y_pge (y_Tm s0) (s0 309 44) v) (j + 1) = y_pge (y_Tm s0) (s0 309 44) v (y_ps (y_pge (y_Tm s0) (s0 309 44) v) j) + 1 := y_ps_s
        generalize hA : y_ps (y_pge (y_Tm s0) (s0 309 44) v) j = A at *
        refine T_if1 v_ob309 ?_
        refine T_let 7653 v_gm62 ?_
        refine T_if1 (v_x7653 (by omega)) ?_
        refine T_upG (fun s2 a2 f2 => ?_)
        have g2 : y_GF s0 s2 := g1.tr (fun a b p q => f2 a b (by omega))
        have rb2 := g2.rb rb
        have e2 : s2 309 44 = s0 309 44 := g2 309 44 (by omega) (by omega)
        refine T_let ((j : Int) + 1) (v_wid (by omega)) ?_
        refine T_if1 v_ob309 ?_
        refine T_useI (em_sideOf hfu rb2 (l := A) ⟨by omega, by omega⟩ (Or.inl rfl)) (fun r s3 hq => ?_)
        obtain ⟨rfl, g3⟩ := hq
        refine T_vI ?_
        obtain ⟨f3, k3⟩ := g3.gf (Int.le_refl 0)
        rw [g2.n2 rb (by omega) (by omega)]
        have g03 := g2.tr f3
        have l3 : y_LG2 s0 s3 := fun i p q => by rw [k3 7654 i (by decide), k3 7655 i (by decide), f2 7654 i (by omega), f2 7655 i (by omega)]; exact l1 i p q
        have st : ∀ y : Int, y = y_om s0 0 A → z_T (fX12_pagesBy_J37 fu s3 309 v ((j : Int) + 1) A y (fun w v2 v3 => fX12_pagesBy_L4 fu 309 v F w v2 v3 (fun s26 x27 => if z_ob 309 12 then z_let (z_gr 309 62) (fun x28 => if z_ob 309 12 then z_let (s26 309 44) (fun x29 => if z_ix x28 100 x27 then z_let (z_up s26 x28 x27 x29) (fun s30 => some (vI x27, s30)) else none) else none) else none)) (fun s26 x27 => if z_ob 309 12 then z_let (z_gr 309 62) (fun x28 => if z_ob 309 12 then z_let (s26 309 44) (fun x29 => if z_ix x28 100 x27 then z_let (z_up s26 x28 x27 x29) (fun s30 => some (vI x27, s30)) else none) else none) else none)) (fun r s' => r = vI (y_pgc (y_pge (y_Tm s0) (s0 309 44) v) (s0 309 44) 0) ∧ y_PGs s0 s' v) := fun y ey => by
          have o0 := y_om_b (s := s0) (d := 0) (l := A)
          have z0 : y_su (y_Gm s0) A A = 0 := y_su0
          have eT : y_Tm s0 A A = 12 * (A - A + 1) + y_su (y_Gm s0) A A + y_om s0 0 A + y_om s0 1 A := rfl
          refine T_of (fX12_pagesBy_J37.eq_1 ..) ?_
          refine T_let (y + 12) (v_wid (by omega)) ?_
          refine T_let (A + 1) (v_wid (by omega)) ?_
          refine em_pgI hfu rb g03 l3 (v := v) (a := A) ⟨by omega, by omega⟩ ?_ (s0 309 44 - 1 - A).toNat fu A (y + 12) (by omega) (by omega) (Int.le_refl _) (by omega) rfl
          refine T_of (fX12_pagesBy_J100.eq_1 ..) ?_
          have i := ih F s3 (j + 1) (by omega) (by omega) (by omega) (by rw [es]; omega) g03 l3 (fun i p => by
            rw [k3 7653 i (by decide)]
            by_cases z : i = j
            · rw [z, a2, hA]
            · rw [f2 7653 i (by omega)]
              exact k1 i (by omega))
          rw [es, show (((j + 1 : Nat)) : Int) = (j : Int) + 1 by omega] at i
          exact i
        refine T_ite (fun hS => ?_) (fun hS => ?_)
        · exact st 0 (if_pos hS).symm
        · exact st 6 (if_neg hS).symm
  refine T_of (fX12_pagesBy.eq_1 ..) ?_
  exact go (s0 309 44).toNat fu s 0 (by rw [y_ps_0]; omega) (by omega) (by rw [y_ps_0]; omega) (by rw [y_ps_0]; omega) g lg (fun i p => by omega)
/-- laid out already -/
theorem em_lay0 {fu : Nat} {s : z_M} (h36 : s 309 36 ≠ 0) (h43 : s 309 43 ≠ 0) : fX12_laysAll fu s 309 = some (vN, s) := by
  refine T_eq ?_
  refine T_of (fX12_laysAll.eq_1 ..) ?_
  refine T_if1 v_ob309 ?_
  refine T_bN (T_of (fX12_freshens.eq_1 ..) ?_)
  refine T_if1 v_ob309 ?_
  refine T_let (s 309 36) rfl ?_
  refine T_if0 h36 ?_
  refine T_rN ?_
  refine T_if1 v_ob309 ?_
  refine T_let (s 309 43) rfl ?_
  refine T_if0 h43 ?_
  exact T_ret ⟨rfl, rfl⟩
theorem em_isLine2 {fu : Nat} {s : z_M} (h36 : s 309 36 ≠ 0) (h43 : s 309 43 ≠ 0) (h44 : 0 ≤ s 309 44 ∧ s 309 44 ≤ 200) {q : Int} : fX12_isLine fu s 309 q = some (vI (if 0 ≤ q ∧ q < s 309 44 then 1 else 0), s) := by
  refine T_eq ?_
  refine T_of (fX12_isLine.eq_1 ..) ?_
  refine T_if1 v_ob309 ?_
  refine T_bN (T_of (em_lay0 h36 h43) (T_rN ?_))
  refine T_if1 v_ob309 ?_
  refine T_let (s 309 44) rfl ?_
  refine T_let (s 309 44 - 1) (v_wid (by omega)) ?_
  refine T_bI (T_of em_in (T_rI ?_))
  by_cases hp : 0 ≤ q ∧ q < s 309 44
  · rw [if_pos (show 0 ≤ q ∧ q ≤ s 309 44 - 1 by omega), if_pos hp]
    refine T_if1 bl1 ?_
    exact T_ret ⟨rfl, rfl⟩
  · rw [if_neg (show ¬ (0 ≤ q ∧ q ≤ s 309 44 - 1) by omega), if_neg hp]
    refine T_if1 bl0 ?_
    exact T_ret ⟨rfl, rfl⟩
theorem em_isLine3 {fu : Nat} (hfu : 8589934592 ≤ fu) {s : z_M} (h : y_GY s) {p : Int} {f : Int → z_M → z_O} {P : z_V → z_M → Prop} (kk : ∀ sl : z_M, y_RLm s sl → sl 309 43 ≠ 0 → ((0 ≤ p ∧ p < sl 309 44) → z_T (f 1 sl) P) ∧ (¬ (0 ≤ p ∧ p < sl 309 44) → z_T (f 0 sl) P)) : z_T (z_bI (fX12_isLine fu s 309 p) f) P := by
  have lay : z_T (fX12_laysAll fu s 309) (fun v s' => v = vN ∧ y_RLm s s' ∧ s' 309 43 ≠ 0) := by
    obtain ⟨ci, yB, yK, km, ym, ok⟩ := h
    refine T_mono (sf_X12_laysAll_309Y hfu s ci yB yK km ym) (fun v s' hq => ?_)
    obtain ⟨c, f, _, _, _, k36, k43, _, km', ym', e⟩ := hq
    have ok' := (ok.fr (s' := s') (f 309 20 (by unfold R_X12_laysAll_309; omega)) (fun a b q => f a b (by unfold R_X12_laysAll_309; omega)) (fun j => f 312 j (by unfold R_X12_laysAll_309; omega))).1
    exact ⟨e, ⟨c, f, ym' ok' k36 k43, ok', km', k36⟩, k43⟩
  refine T_bI (T_of (fX12_isLine.eq_1 ..) ?_)
  refine T_if1 v_ob309 ?_
  refine T_useN lay (fun v sl hq => ?_)
  obtain ⟨rfl, rl, k43⟩ := hq
  refine T_vN ?_
  have k := kk sl rl k43
  have nn := CI_b rl.1 (k := 309) (j := 44) bd_309_44
  refine T_if1 v_ob309 ?_
  refine T_let (sl 309 44) rfl ?_
  refine T_let (sl 309 44 - 1) (v_wid (by omega)) ?_
  refine T_bI (T_of em_in (T_rI ?_))
  by_cases hp : 0 ≤ p ∧ p ≤ sl 309 44 - 1
  · rw [if_pos hp]
    refine T_if1 bl1 ?_
    exact T_rI (k.1 (by omega))
  · rw [if_neg hp]
    refine T_if1 bl0 ?_
    exact T_rI (k.2 (by omega))
/-! the six calls -/
theorem y_RLm.rbd {s s1 sl : z_M} (rl : y_RLm s1 sl) (rm : y_RM s sl) (mo : y_MO s) (pu : y_PU s) (g8 : 0 ≤ s 312 8 ∧ s 312 8 ≤ 12) (g0 : s 312 0 ≤ 999) : y_RBd sl := by
  have k := rm.2.1
  exact ⟨y_CRg.of rl.1, rl.2.2.2.1, rl.2.2.1, mo.cg (fun a b p q => k a b (by omega)), pu.fr (k 309 20 (by omega)) (k 316 0 (by omega)) (fun b => k 346 b (by omega)) (fun b => k 361 b (by omega)) (fun b => k 3220 b (by omega)) (fun b => k 3221 b (by omega)) (fun b => k 3222 b (by omega)) (fun b => k 3223 b (by omega)), by rw [k 312 8 (by omega)]; exact g8, by rw [k 312 0 (by omega)]; exact g0⟩
theorem em_gutter {fu : Nat} (hfu : 8589934592 ≤ fu) {s : z_M} (h : y_GY s) (mo : y_MO s) (pu : y_PU s) (g8 : 0 ≤ s 312 8 ∧ s 312 8 ≤ 12) (g0 : s 312 0 ≤ 999) {p : Int} : z_T (fX12_gutter fu s 309 p) (fun v s' => ∃ y, v = vI y ∧ y_ARY s s' (fun sl => 0 ≤ p ∧ p < sl 309 44) y (fun sl x => x = if p = sl 309 44 - 1 then -1 else y_Gm sl p)) := by
  refine T_of (fX12_gutter.eq_1 ..) ?_
  refine T_if1 v_ob309 ?_
  refine T_upg h.1 bd_309_0 (by decide) (fun s1 c1 g g2 e0 => ?_)
  have h1 := h.z c1 g g2
  refine T_if1 v_ob309 ?_
  refine em_isLine hfu h1 (fun sl rl => ?_)
  have rm := rl.m g g2
  have e1 : sl 309 0 = 0 := (rl.k 309 0 (by omega)).trans e0
  have rb := rl.rbd rm mo pu g8 g0
  have h44 := rb.1.2.1
  constructor
  · intro hp
    refine T_if1 (by decide) ?_
    refine T_of (fX12_gutter_J19.eq_1 ..) ?_
    refine T_if1 v_ob309 ?_
    refine T_bI (T_of (em_bad0 e1) (T_rI ?_))
    refine T_if1 rfl ?_
    refine T_let (p + 1) (v_wid (by omega)) ?_
    refine T_if1 v_ob309 ?_
    refine T_let (sl 309 44) rfl ?_
    refine T_ite (fun hE => ?_) (fun hE => ?_)
    · refine T_if1 v_ob309 ?_
      refine T_useI (em_gutterOf hfu rb (l := p) ⟨hp.1, by omega⟩) (fun v s2 hq => ?_)
      obtain ⟨rfl, f2, _⟩ := hq
      refine T_vI ?_
      refine T_of (fX12_gutter_J48.eq_1 ..) ?_
      refine T_ret ⟨_, rfl, sl, rm, Or.inr ⟨hp, (f2 309 0 (by omega) (by omega)).trans e1, ?_⟩⟩
      show y_Gm sl p = if p = sl 309 44 - 1 then -1 else y_Gm sl p
      rw [if_neg (by omega)]
    · refine T_of (fX12_gutter_J48.eq_1 ..) ?_
      refine T_ret ⟨_, rfl, sl, rm, Or.inr ⟨hp, e1, ?_⟩⟩
      show (-1 : Int) = if p = sl 309 44 - 1 then -1 else y_Gm sl p
      rw [if_pos (by omega)]
  · intro hp
    refine T_if0 (by decide) ?_
    refine T_of (fX12_gutter_J19.eq_1 ..) ?_
    refine T_if1 v_ob309 ?_
    refine T_useI (em_bad1 e1 (by decide) (Or.inl rfl)) (fun v s2 hq => ?_)
    obtain ⟨rfl, e2, _⟩ := hq
    refine T_vI ?_
    refine T_if0 (by decide) ?_
    exact T_ret ⟨_, rfl, sl, rm, Or.inl ⟨hp, e2⟩⟩
theorem em_clash {fu : Nat} (hfu : 8589934592 ≤ fu) {s : z_M} (h : y_GY s) (mo : y_MO s) (pu : y_PU s) (g8 : 0 ≤ s 312 8 ∧ s 312 8 ≤ 12) (g0 : s 312 0 ≤ 999) {p : Int} : z_T (fX12_clash fu s 309 p) (fun v s' => ∃ y, v = vI y ∧ y_ARY s s' (fun sl => 0 ≤ p ∧ p < sl 309 44) y (fun sl x => y_Mz (y_bth sl p) x)) := by
  refine T_of (fX12_clash.eq_1 ..) ?_
  refine T_if1 v_ob309 ?_
  refine T_upg h.1 bd_309_0 (by decide) (fun s1 c1 g g2 e0 => ?_)
  have h1 := h.z c1 g g2
  refine T_if1 v_ob309 ?_
  refine em_isLine hfu h1 (fun sl rl => ?_)
  have rm := rl.m g g2
  have e1 : sl 309 0 = 0 := (rl.k 309 0 (by omega)).trans e0
  have rb := rl.rbd rm mo pu g8 g0
  have h44 := rb.1.2.1
  constructor
  · intro hp
    refine T_if1 (by decide) ?_
    refine T_of (fX12_clash_J19.eq_1 ..) ?_
    refine T_if1 v_ob309 ?_
    refine T_bI (T_of (em_bad0 e1) (T_rI ?_))
    refine T_if1 rfl ?_
    refine T_if1 v_ob309 ?_
    refine T_useI (em_clashOf hfu rb hp) (fun v s2 hq => ?_)
    obtain ⟨f2, _, x, rfl, mz⟩ := hq
    refine T_vI ?_
    exact T_ret ⟨_, rfl, sl, rm, Or.inr ⟨hp, (f2 309 0 (by omega) (by omega)).trans e1, mz⟩⟩
  · intro hp
    refine T_if0 (by decide) ?_
    refine T_of (fX12_clash_J19.eq_1 ..) ?_
    refine T_if1 v_ob309 ?_
    refine T_useI (em_bad1 e1 (by decide) (Or.inl rfl)) (fun v s2 hq => ?_)
    obtain ⟨rfl, e2, _⟩ := hq
    refine T_vI ?_
    refine T_if0 (by decide) ?_
    exact T_ret ⟨_, rfl, sl, rm, Or.inl ⟨hp, e2⟩⟩
theorem em_thick {fu : Nat} (hfu : 8589934592 ≤ fu) {s : z_M} (h : y_GY s) (mo : y_MO s) (pu : y_PU s) (g8 : 0 ≤ s 312 8 ∧ s 312 8 ≤ 12) (g0 : s 312 0 ≤ 999) {p q : Int} : z_T (fX12_thick fu s 309 p q) (fun v s' => ∃ y, v = vI y ∧ y_ARZ s s' (fun sl => (0 ≤ p ∧ p < sl 309 44) ∧ 0 ≤ q ∧ q < sl 309 44) (p ≤ q) y (fun sl x => x = y_Tm sl p q)) := by
  refine T_of (fX12_thick.eq_1 ..) ?_
  refine T_if1 v_ob309 ?_
  refine T_upg h.1 bd_309_0 (by decide) (fun s1 c1 g g2 e0 => ?_)
  have h1 := h.z c1 g g2
  refine T_if1 v_ob309 ?_
  refine em_isLine3 hfu h1 (fun sl rl k43 => ?_)
  have rm := rl.m g g2
  have e1 : sl 309 0 = 0 := (rl.k 309 0 (by omega)).trans e0
  have rb := rl.rbd rm mo pu g8 g0
  have h44 := rb.1.2.1
  have no : ¬ ((0 ≤ p ∧ p < sl 309 44) ∧ 0 ≤ q ∧ q < sl 309 44) → z_T (fX12_thick_J22 fu sl 309 p q 309) (fun v s' => ∃ y, v = vI y ∧ y_ARZ s s' (fun sl => (0 ≤ p ∧ p < sl 309 44) ∧ 0 ≤ q ∧ q < sl 309 44) (p ≤ q) y (fun sl x => x = y_Tm sl p q)) := fun n => by
    refine T_of (fX12_thick_J22.eq_1 ..) ?_
    refine T_of (fX12_thick_J27.eq_1 ..) ?_
    refine T_if1 v_ob309 ?_
    refine T_useI (em_bad1 e1 (by decide) (Or.inl rfl)) (fun v s2 hq => ?_)
    obtain ⟨rfl, e2, _⟩ := hq
    refine T_vI ?_
    refine T_if1 (by decide) ?_
    refine T_of (fX12_thick_J54.eq_1 ..) ?_
    exact T_ret ⟨_, rfl, sl, rm, Or.inl ⟨n, e2⟩⟩
  constructor
  · intro hp
    refine T_if0 (by decide) ?_
    refine T_if1 v_ob309 ?_
    refine T_bI (T_of (em_isLine2 rl.2.2.2.2.2 k43 h44) (T_rI ?_))
    by_cases hk : 0 ≤ q ∧ q < sl 309 44
    · rw [if_pos hk]
      refine T_if1 (by decide) ?_
      refine T_of (fX12_thick_J27.eq_1 ..) ?_
      refine T_if1 v_ob309 ?_
      refine T_bI (T_of (em_bad0 e1) (T_rI ?_))
      refine T_if0 (by decide) ?_
      refine T_ite (fun hpq => ?_) (fun hpq => ?_)
      · refine T_of (fX12_thick_J46.eq_1 ..) ?_
        refine T_if1 v_ob309 ?_
        refine T_bI (T_of (em_bad0 e1) (T_rI ?_))
        refine T_if1 rfl ?_
        refine T_if1 v_ob309 ?_
        refine T_useI (em_thickOf hfu y_GF.rf rb hp.1 hpq hk.2) (fun v s2 hq => ?_)
        obtain ⟨rfl, f2, _⟩ := hq
        refine T_vI ?_
        exact T_ret ⟨_, rfl, sl, rm, Or.inr (Or.inr ⟨⟨hp, hk⟩, hpq, (f2 309 0 (by omega) (by omega)).trans e1, rfl⟩)⟩
      · refine T_of (fX12_thick_J46.eq_1 ..) ?_
        refine T_if1 v_ob309 ?_
        refine T_useI (em_bad1 e1 (by decide) (Or.inr rfl)) (fun v s2 hq => ?_)
        obtain ⟨rfl, e2, _⟩ := hq
        refine T_vI ?_
        refine T_if0 (by decide) ?_
        refine T_of (fX12_thick_J54.eq_1 ..) ?_
        exact T_ret ⟨_, rfl, sl, rm, Or.inr (Or.inl ⟨⟨hp, hk⟩, hpq, e2⟩)⟩
    · rw [if_neg hk]
      refine T_if0 (by decide) ?_
      exact no (fun k => hk k.2)
  · intro hp
    refine T_if1 rfl ?_
    exact no (fun k => hp k.1)
theorem em_laysGutters {fu : Nat} (hfu : 8589934592 ≤ fu) {s : z_M} (h : y_GY s) (hr : ∀ sl, y_RLm s sl → y_RBd sl) : z_T (fX12_laysGutters fu s 309) (fun v s' => v = vN ∧ ∃ sl, y_RLm s sl ∧ y_GF sl s' ∧ y_LG2 sl s') := by
  refine T_of (fX12_laysGutters.eq_1 ..) ?_
  refine T_if1 v_ob309 ?_
  refine T_useN (em_lay hfu h) (fun v sl hq => ?_)
  obtain ⟨rfl, rl⟩ := hq
  refine T_vN ?_
  have rb := hr sl rl
  have h44 := rb.1.2.1
  exact em_lgL hfu rb (fun s2 g2 l2 => T_ret ⟨rfl, sl, rl, g2, l2⟩) (sl 309 44).toNat fu sl 0 (by omega) (by omega) (Int.le_refl _) y_GF.rf (fun i p q => by omega)
theorem em_pages {fu : Nat} (hfu : 8589934592 ≤ fu) {s : z_M} (h : y_GY s) (mo : y_MO s) (pu : y_PU s) (g8 : 0 ≤ s 312 8 ∧ s 312 8 ≤ 12) (g0 : s 312 0 ≤ 999) {p : Int} : z_T (fX12_pages fu s 309 p) (fun v s' => ∃ y, v = vI y ∧ y_ARL s s' (12 ≤ p ∧ p ≤ 9999) y (fun sl x => x = y_pgc (y_pge (y_Tm sl) (sl 309 44) p) (sl 309 44) 0)) := by
  refine T_of (fX12_pages.eq_1 ..) ?_
  refine T_if1 v_ob309 ?_
  refine T_upg h.1 bd_309_0 (by decide) (fun s1 c1 g g2 e0 => ?_)
  have h1 := h.z c1 g g2
  refine T_bI (T_of em_in (T_rI ?_))
  by_cases k : 12 ≤ p ∧ p ≤ 9999
  · rw [if_pos k]
    refine T_if1 (by decide) ?_
    refine T_of (fX12_pages_J23.eq_1 ..) ?_
    refine T_if1 v_ob309 ?_
    refine T_bI (T_of (em_bad0 e0) (T_rI ?_))
    refine T_if1 rfl ?_
    refine T_if1 v_ob309 ?_
    refine T_useN (em_laysGutters hfu h1 (fun sl rl => rl.rbd (rl.m g g2) mo pu g8 g0)) (fun v s2 hq => ?_)
    obtain ⟨rfl, sl, rl, gf, lg⟩ := hq
    refine T_vN ?_
    have rm := rl.m g g2
    have e1 : sl 309 0 = 0 := (rl.k 309 0 (by omega)).trans e0
    have rb := rl.rbd rm mo pu g8 g0
    have h44 := rb.1.2.1
    refine T_if1 v_ob309 ?_
    refine T_useI (em_pagesBy hfu rb gf lg) (fun v s3 hq => ?_)
    obtain ⟨rfl, pf⟩ := hq
    refine T_vI ?_
    exact T_ret ⟨_, rfl, Or.inr ⟨k, (pf.1 309 0 (by omega) (by omega)).trans e1, sl, rm, rfl⟩⟩
  · rw [if_neg k]
    refine T_if0 (by decide) ?_
    refine T_of (fX12_pages_J23.eq_1 ..) ?_
    refine T_if1 v_ob309 ?_
    refine T_useI (em_bad1 e0 (by decide) (Or.inr rfl)) (fun v s2 hq => ?_)
    obtain ⟨rfl, e1, _⟩ := hq
    refine T_vI ?_
    refine T_if0 (by decide) ?_
    exact T_ret ⟨_, rfl, Or.inl ⟨k, e1⟩⟩
theorem em_page {fu : Nat} (hfu : 8589934592 ≤ fu) {s : z_M} (h : y_GY s) (mo : y_MO s) (pu : y_PU s) (g8 : 0 ≤ s 312 8 ∧ s 312 8 ≤ 12) (g0 : s 312 0 ≤ 999) {p k q : Int} (hk2 : -2147483648 ≤ k ∧ k ≤ 2147483647) : z_T (fX12_page fu s 309 p k q) (fun v s' => ∃ y, v = vI y ∧ y_ARL s s' ((12 ≤ p ∧ p ≤ 9999) ∧ 0 ≤ q ∧ q ≤ 2) y (fun sl x => y_PGv (y_Tm sl) (sl 309 44) p k q x)) := by
  refine T_of (fX12_page.eq_1 ..) ?_
  refine T_if1 v_ob309 ?_
  refine T_upg h.1 bd_309_0 (by decide) (fun s1 c1 g g2 e0 => ?_)
  have h1 := h.z c1 g g2
  have no : ¬ ((12 ≤ p ∧ p ≤ 9999) ∧ 0 ≤ q ∧ q ≤ 2) → z_T (fX12_page_J27 fu s1 309 p k q 309) (fun v s' => ∃ y, v = vI y ∧ y_ARL s s' ((12 ≤ p ∧ p ≤ 9999) ∧ 0 ≤ q ∧ q ≤ 2) y (fun sl x => y_PGv (y_Tm sl) (sl 309 44) p k q x)) := fun n => by
    refine T_of (fX12_page_J27.eq_1 ..) ?_
    refine T_of (fX12_page_J32.eq_1 ..) ?_
    refine T_if1 v_ob309 ?_
    refine T_useI (em_bad1 e0 (by decide) (Or.inr rfl)) (fun v s2 hq => ?_)
    obtain ⟨rfl, e1, _⟩ := hq
    refine T_vI ?_
    refine T_if0 (by decide) ?_
    exact T_ret ⟨_, rfl, Or.inl ⟨n, e1⟩⟩
  refine T_bI (T_of em_in (T_rI ?_))
  by_cases kp : 12 ≤ p ∧ p ≤ 9999
  · rw [if_pos kp]
    refine T_if0 (by decide) ?_
    refine T_bI (T_of em_in (T_rI ?_))
    by_cases kq : 0 ≤ q ∧ q ≤ 2
    · rw [if_pos kq]
      refine T_if1 (by decide) ?_
      refine T_of (fX12_page_J32.eq_1 ..) ?_
      refine T_if1 v_ob309 ?_
      refine T_bI (T_of (em_bad0 e0) (T_rI ?_))
      refine T_if1 rfl ?_
      refine T_if1 v_ob309 ?_
      refine T_useN (em_laysGutters hfu h1 (fun sl rl => rl.rbd (rl.m g g2) mo pu g8 g0)) (fun v s2 hq => ?_)
      obtain ⟨rfl, sl, rl, gf, lg⟩ := hq
      refine T_vN ?_
      have rm := rl.m g g2
      have e1 : sl 309 0 = 0 := (rl.k 309 0 (by omega)).trans e0
      have rb := rl.rbd rm mo pu g8 g0
      have h44 := rb.1.2.1
      refine T_if1 v_ob309 ?_
      refine T_useI (em_pagesBy hfu rb gf lg (v := p)) (fun v s3 hq => ?_)
      obtain ⟨rfl, gf3, lg3, pf, pl⟩ := hq
      refine T_vI ?_
      have e3 : s3 309 0 = 0 := (gf3 309 0 (by omega) (by omega)).trans e1
      have hE : ∀ a : Int, a ≤ y_pge (y_Tm sl) (sl 309 44) p a := fun a => y_pge_l
      have cb := y_pgc_b (N := sl 309 44) hE (sl 309 44).toNat 0 (by omega)
      have c2 := cb.2 h44.1
      refine T_let (y_pgc (y_pge (y_Tm sl) (sl 309 44) p) (sl 309 44) 0 - 1) (v_wid (by omega)) ?_
      refine T_bI (T_of em_in (T_rI ?_))
      by_cases kk : 0 ≤ k ∧ k ≤ y_pgc (y_pge (y_Tm sl) (sl 309 44) p) (sl 309 44) 0 - 1
      · rw [if_pos kk]
        refine T_if1 (by decide) ?_
        have lt := y_ps_lt (E := y_pge (y_Tm sl) (sl 309 44) p) (N := sl 309 44) hE k.toNat
        have l2 := y_ps_lt (E := y_pge (y_Tm sl) (sl 309 44) p) (N := sl 309 44) hE (k.toNat + 1)
        have ek : ((k.toNat : Nat) : Int) = k := by omega
        have ft := lt.mpr (by omega)
        have jl := y_ps_l hE k.toNat
        have fe := pf k.toNat (by omega)
        rw [ek] at fe
        have es : y_ps (y_pge (y_Tm sl) (sl 309 44) p) (k.toNat + 1) = y_pge (y_Tm sl) (sl 309 44) p (y_ps (y_pge (y_Tm sl) (sl 309 44) p) k.toNat) + 1 := y_ps_s
        have hl := hE (y_ps (y_pge (y_Tm sl) (sl 309 44) p) k.toNat)
        have pe := (y_pge_p (T := y_Tm sl) (N := sl 309 44) (w := p) (a := y_ps (y_pge (y_Tm sl) (sl 309 44) p) k.toNat) ft).1
        have ge : s3 7653 (k + 1) = y_pge (y_Tm sl) (sl 309 44) p (y_ps (y_pge (y_Tm sl) (sl 309 44) p) k.toNat) + 1 := by
          by_cases z : k + 1 < y_pgc (y_pge (y_Tm sl) (sl 309 44) p) (sl 309 44) 0
          · have f2 := pf (k.toNat + 1) (by omega)
            rw [show (((k.toNat + 1 : Nat)) : Int) = k + 1 by omega, es] at f2
            exact f2
          · have e4 : y_pgc (y_pge (y_Tm sl) (sl 309 44) p) (sl 309 44) 0 = k + 1 := by omega
            rw [e4] at pl
            rw [e4, es] at l2
            have := fun q => l2.mp q
            rw [pl]
            by_cases z3 : y_pge (y_Tm sl) (sl 309 44) p (y_ps (y_pge (y_Tm sl) (sl 309 44) p) k.toNat) + 1 < sl 309 44
            · have := this z3
              omega
            · omega
        have mk : ∀ x : Int, x = (if q = 0 then y_ps (y_pge (y_Tm sl) (sl 309 44) p) k.toNat else if q = 1 then y_pge (y_Tm sl) (sl 309 44) p (y_ps (y_pge (y_Tm sl) (sl 309 44) p) k.toNat) - y_ps (y_pge (y_Tm sl) (sl 309 44) p) k.toNat + 1 else y_Tm sl (y_ps (y_pge (y_Tm sl) (sl 309 44) p) k.toNat) (y_pge (y_Tm sl) (sl 309 44) p (y_ps (y_pge (y_Tm sl) (sl 309 44) p) k.toNat))) → y_PGv (y_Tm sl) (sl 309 44) p k q x := fun x ex => Or.inr ⟨k.toNat, ek, by omega, ex⟩
        clear lt l2 pf
        generalize y_ps (y_pge (y_Tm sl) (sl 309 44) p) k.toNat = A at *
        generalize y_pge (y_Tm sl) (sl 309 44) p A = B at *
        refine T_ite (fun hQ => ?_) (fun hQ => ?_)
        · refine T_ite (fun hQ1 => ?_) (fun hQ1 => ?_)
          · refine T_if1 v_ob309 ?_
            refine T_let 7653 v_gm62 ?_
            refine T_if1 (v_x7653 (by omega)) ?_
            refine T_let A fe ?_
            refine T_if1 v_ob309 ?_
            refine T_let 7653 v_gm62 ?_
            refine T_let (k + 1) (v_wid (by omega)) ?_
            refine T_if1 (v_x7653 (by omega)) ?_
            refine T_let (B + 1) ge ?_
            refine T_let B ((congrArg z_w (show B + 1 - 1 = B by omega)).trans (v_wid (by omega))) ?_
            refine T_if1 v_ob309 ?_
            refine T_useI (em_thickOf hfu gf3 rb (a := A) (b := B) (by omega) (by omega) (by omega)) (fun v s4 hq => ?_)
            obtain ⟨rfl, f4, _⟩ := hq
            refine T_vI ?_
            refine T_of (fX12_page_J119.eq_1 ..) ?_
            refine T_ret ⟨_, rfl, Or.inr ⟨⟨kp, kq⟩, (f4 309 0 (by omega) (by omega)).trans e1, sl, rm, mk _ ?_⟩⟩
            rw [if_neg hQ, if_neg hQ1]
          · refine T_if1 v_ob309 ?_
            refine T_let 7653 v_gm62 ?_
            refine T_let (k + 1) (v_wid (by omega)) ?_
            refine T_if1 (v_x7653 (by omega)) ?_
            refine T_let (B + 1) ge ?_
            refine T_if1 v_ob309 ?_
            refine T_let 7653 v_gm62 ?_
            refine T_if1 (v_x7653 (by omega)) ?_
            refine T_let A fe ?_
            refine T_let (B + 1 - A) (v_wid (by omega)) ?_
            refine T_of (fX12_page_J119.eq_1 ..) ?_
            refine T_ret ⟨_, rfl, Or.inr ⟨⟨kp, kq⟩, e3, sl, rm, mk _ ?_⟩⟩
            rw [if_neg hQ, if_pos (by omega)]
            omega
        · refine T_if1 v_ob309 ?_
          refine T_let 7653 v_gm62 ?_
          refine T_if1 (v_x7653 (by omega)) ?_
          refine T_let A fe ?_
          refine T_of (fX12_page_J119.eq_1 ..) ?_
          refine T_ret ⟨_, rfl, Or.inr ⟨⟨kp, kq⟩, e3, sl, rm, mk _ ?_⟩⟩
          rw [if_pos (by omega)]
      · rw [if_neg kk]
        refine T_if0 (by decide) ?_
        exact T_ret ⟨_, rfl, Or.inr ⟨⟨kp, kq⟩, e3, sl, rm, Or.inl ⟨fun r => kk ⟨r.1, by omega⟩, rfl⟩⟩⟩
    · rw [if_neg kq]
      refine T_if0 (by decide) ?_
      exact no (fun r => kq r.2)
  · rw [if_neg kp]
    refine T_if1 rfl ?_
    exact no (fun r => kp r.1)
theorem em_narrow {fu : Nat} (hfu : 8589934592 ≤ fu) {s : z_M} (h : y_GY s) (mo : y_MO s) (pu : y_PU s) (g8 : 0 ≤ s 312 8 ∧ s 312 8 ≤ 12) (g0 : s 312 0 ≤ 999) {p : Int} : z_T (fX12_narrow fu s 309 p) (fun v s' => ∃ y, v = vI y ∧ y_ARL s s' (1 ≤ p ∧ p ≤ 200) y (fun sl x => y_nrw (fun v => y_pgc (y_pge (y_Tm sl) (sl 309 44) v) (sl 309 44) 0) p x)) := by
  refine T_of (fX12_narrow.eq_1 ..) ?_
  refine T_if1 v_ob309 ?_
  refine T_upg h.1 bd_309_0 (by decide) (fun s1 c1 g g2 e0 => ?_)
  have h1 := h.z c1 g g2
  refine T_bI (T_of em_in (T_rI ?_))
  by_cases k : 1 ≤ p ∧ p ≤ 200
  · rw [if_pos k]
    refine T_if1 (by decide) ?_
    refine T_of (fX12_narrow_J22.eq_1 ..) ?_
    refine T_if1 v_ob309 ?_
    refine T_bI (T_of (em_bad0 e0) (T_rI ?_))
    refine T_if1 rfl ?_
    refine T_if1 v_ob309 ?_
    refine T_useN (em_laysGutters hfu h1 (fun sl rl => rl.rbd (rl.m g g2) mo pu g8 g0)) (fun v s2 hq => ?_)
    obtain ⟨rfl, sl, rl, gf, lg⟩ := hq
    refine T_vN ?_
    have rm := rl.m g g2
    have e1 : sl 309 0 = 0 := (rl.k 309 0 (by omega)).trans e0
    have rb := rl.rbd rm mo pu g8 g0
    have h44 := rb.1.2.1
    have go : ∀ (m F : Nat) (s3 : z_M) (x : Int), (m : Int) = 10000 - x → m < F → 12 ≤ x → y_GF sl s3 → y_LG2 sl s3 → (∀ v : Int, 12 ≤ v → v < x → p < y_pgc (y_pge (y_Tm sl) (sl 309 44) v) (sl 309 44) 0) → z_T (fX12_narrow_L39 fu 309 p F s3 x (fun s10 => some (vI (-1), s10))) (fun v s' => ∃ y, v = vI y ∧ y_ARL s s' (1 ≤ p ∧ p ≤ 200) y (fun sl x => y_nrw (fun v => y_pgc (y_pge (y_Tm sl) (sl 309 44) v) (sl 309 44) 0) p x)) := by
      intro m
      induction m with
      | zero =>
        intro F s3 x e hF h2 g3 l3 hb
        obtain ⟨F, rfl⟩ : ∃ F2, F = F2 + 1 := ⟨F - 1, by omega⟩
        refine T_of (fX12_narrow_L39.eq_2 ..) ?_
        refine T_if1 (by omega) ?_
        exact T_ret ⟨_, rfl, Or.inr ⟨k, (g3 309 0 (by omega) (by omega)).trans e1, sl, rm, Or.inl ⟨rfl, fun v a b => hb v a (by omega)⟩⟩⟩
      | succ m ih =>
        intro F s3 x e hF h2 g3 l3 hb
        obtain ⟨F, rfl⟩ : ∃ F2, F = F2 + 1 := ⟨F - 1, by omega⟩
        refine T_of (fX12_narrow_L39.eq_2 ..) ?_
        refine T_if0 (by omega) ?_
        refine T_if1 v_ob309 ?_
        refine T_useI (em_pagesBy hfu rb g3 l3 (v := x)) (fun v s4 hq => ?_)
        obtain ⟨rfl, g4, l4, _⟩ := hq
        refine T_vI ?_
        refine T_ite (fun hC => ?_) (fun hC => ?_)
        · refine T_let (x + 1) (v_wid (by omega)) ?_
          refine ih F s4 (x + 1) (by omega) (by omega) (by omega) g4 l4 (fun v a b => ?_)
          by_cases z : v = x
          · rw [z]; exact hC
          · exact hb v a (by omega)
        · exact T_ret ⟨_, rfl, Or.inr ⟨k, (g4 309 0 (by omega) (by omega)).trans e1, sl, rm, Or.inr ⟨h2, by omega, Int.not_lt.mp hC, hb⟩⟩⟩
    exact go 9988 fu s2 12 (by decide) (by omega) (by decide) gf lg (fun v a b => by omega)
  · rw [if_neg k]
    refine T_if0 (by decide) ?_
    refine T_of (fX12_narrow_J22.eq_1 ..) ?_
    refine T_if1 v_ob309 ?_
    refine T_useI (em_bad1 e0 (by decide) (Or.inr rfl)) (fun v s2 hq => ?_)
    obtain ⟨rfl, e1, _⟩ := hq
    refine T_vI ?_
    refine T_if0 (by decide) ?_
    exact T_ret ⟨_, rfl, Or.inl ⟨k, e1⟩⟩
