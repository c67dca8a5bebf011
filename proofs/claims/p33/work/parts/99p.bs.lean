/-! the class's sides: build, and what stays right -/
theorem e_bd51 {fu : Nat} (hfu : 8589934592 ≤ fu) {s0 : z_M} {n : Int} (hn : 0 ≤ n ∧ n ≤ 200) (e6 : s0 240 6 = n) (c0 : 0 ≤ s0 296 9 ∧ s0 296 9 ≤ 2000000000) (hL : ∀ l : Int, 0 ≤ l → l < n → y_LFc s0 l) (b8 : 0 ≤ s0 3 8 ∧ s0 3 8 ≤ 12) (bo : ∀ i : Int, 0 ≤ i → i < n → (0 ≤ s0 308 i ∧ s0 308 i ≤ 6) ∧ 0 ≤ s0 306 i ∧ s0 306 i ≤ 6) {kont : z_M → z_O} {P : z_V → z_M → Prop} (kk : ∀ s' : z_M, y_SS1 s0 s' n n → z_T (kont s') P) : ∀ (m F : Nat) (s : z_M) (l : Int), (m : Int) = n - l → m < F → 0 ≤ l → y_SS1 s0 s l l → z_T (fX8_build_L51 fu 296 n F s l kont) P := by
  intro m
  induction m with
  | zero =>
    intro F s l e hF h2 g
    obtain ⟨F, rfl⟩ : ∃ F2, F = F2 + 1 := ⟨F - 1, by omega⟩
    have el : l = n := by omega
    refine T_of (fX8_build_L51.eq_2 ..) ?_
    refine T_if1 (by omega) ?_
    rw [el] at g
    exact kk s g
  | succ m ih =>
    intro F s l e hF h2 g
    obtain ⟨F, rfl⟩ : ∃ F2, F = F2 + 1 := ⟨F - 1, by omega⟩
    have ec : s 296 9 = s0 296 9 + l := g.2.1
    have lf := hL l h2 (by omega)
    refine T_of (fX8_build_L51.eq_2 ..) ?_
    refine T_if0 (by omega) ?_
    refine T_if1 (by decide +kernel) ?_
    refine T_let (s0 296 9 + l) ec ?_
    refine T_let ((s0 296 9 + l) + 1) (v_wid (by omega)) ?_
    refine T_if1 (by decide +kernel) ?_
    refine T_upG (fun s1 a1 f1 => ?_)
    have g1 : y_SS1 s0 s1 l (l + 1) := ⟨fun a b p q r t u => by rw [f1 a b u]; exact g.1 a b p q r t u, by rw [a1]; omega, fun x p q => by rw [f1 298 x (by omega), a1]; have := g.2.2.1 x p q; omega, by rw [f1 304 0 (by omega)]; exact g.2.2.2.1, fun i p q => by rw [f1 300 i (by omega), f1 302 i (by omega), f1 304 (i + 1) (by omega), f1 304 i (by omega)]; exact g.2.2.2.2.1 i p q, fun i p q r => by rw [f1 304 i (by omega)]; exact g.2.2.2.2.2 i p q r⟩
    have q1 : ∀ a b : Int, a < 296 → s1 a b = s0 a b := fun a b q => g1.1 a b (by omega) (by omega) (by omega) (by omega) (by omega)
    have lf1 := lf.fr q1
    have old : ∀ x : Int, y_ra x → s1 298 (x + 100) ≤ s1 296 9 - 1 := fun x q => by
      unfold y_ra at q
      rw [f1 298 (x + 100) (by omega), a1]
      have := g.2.2.1 (x + 100) (by omega) (by omega)
      omega
    refine T_if1 (by decide +kernel) ?_
    refine T_useI (e_visit hfu (y_VRp hfu (sB := s1) rfl) (S := fun _ => False) (d := 1) ⟨h2, by omega⟩ lf1.1.1 lf1.1.2.1 lf1.1.2.2 ⟨lf1.2.1.1, lf1.2.1.2.1⟩ lf1.2.1.2.2 (fun j p q => ⟨lf1.2.2.2.2.1 j (by have := lf1.2.1.1; omega) q, lf1.2.2.2.2.2 j p q⟩) lf1.2.2.1 (fun k p q => lf1.2.2.2.1 k 1 p q) ⟨fun _ _ _ => rfl, fun x => ⟨fun r => r.2.elim, fun _ => rfl⟩⟩) (fun v s2 hq => ?_)
    obtain ⟨x2, rfl, pa⟩ := hq
    refine T_vI ?_
    have e9 : s2 296 9 = s1 296 9 := pa.1 296 9 (by decide)
    have pb : ∀ x : Int, 0 ≤ x → x < 12000 → s2 298 x ≤ s2 296 9 := fun x p q => by
      have z := pa.2 (x - 100)
      rw [show x - 100 + 100 = x by omega] at z
      rw [e9]
      by_cases r : y_ra (x - 100) ∧ (False ∨ y_CCc s1 1 l (x - 100))
      · rw [z.1 r]; exact Int.le_refl _
      · rw [z.2 r]; exact g1.2.2.1 x p q
    have g2 : y_SS1 s0 s2 l (l + 1) := ⟨fun a b p q r t u => by rw [pa.1 a b p]; exact g1.1 a b p q r t u, e9.trans g1.2.1, pb, (pa.1 304 0 (by decide)).trans g1.2.2.2.1, fun i p q => by rw [pa.1 300 i (by decide), pa.1 302 i (by decide), pa.1 304 (i + 1) (by decide), pa.1 304 i (by decide)]; exact g1.2.2.2.2.1 i p q, fun i p q r => by rw [pa.1 304 i (by decide)]; exact g1.2.2.2.2.2 i p q r⟩
    have q2 : ∀ a b : Int, a < 296 → s2 a b = s0 a b := fun a b q => g2.1 a b (by omega) (by omega) (by omega) (by omega) (by omega)
    have pd : ∀ x : Int, y_pdd s2 (s2 296 9) x ↔ y_ra x ∧ y_CCc s0 1 l x := fun x => by
      have z := pa.2 x
      constructor
      · intro r
        refine ⟨r.1, ?_⟩
        by_cases q : y_CCc s1 1 l x
        · exact (y_CCc_fr (y_czf q1) 1 l x).mp q
        · have o := z.2 (fun t => t.2.elim id q)
          have o2 := old x r.1
          have o3 := r.2
          rw [o, e9] at o3
          omega
      · intro r
        refine ⟨r.1, ?_⟩
        rw [e9]
        exact z.1 ⟨r.1, Or.inr ((y_CCc_fr (y_czf q1) 1 l x).mpr r.2)⟩
    refine T_let (l + 1) (v_wid (by omega)) ?_
    refine T_ite (fun hE => ?_) (fun hE => ?_)
    · refine e_b95 (x := 2147483647) hn ⟨h2, by omega⟩ e6 g2 ?_ (by decide) (fun q => absurd rfl q) b8 bo (fun s4 g4 => ih F s4 (l + 1) (by omega) (by omega) (by omega) g4)
      rw [if_pos rfl]
      exact Or.inl ⟨rfl, fun x _ q => by omega⟩
    · refine T_let (l + 1) (v_wid (by omega)) ?_
      refine T_if1 (by decide +kernel) ?_
      have lf2 := (hL (l + 1) (by omega) (by omega)).fr q2
      refine T_useI (e_visit hfu (y_VRf hfu (sB := s2) (s1 := s2) rfl (by rw [e9, a1]; omega) (fun _ _ _ => rfl)) (S := fun _ => False) (l := l + 1) (d := 0) ⟨by omega, by omega⟩ lf2.1.1 lf2.1.2.1 lf2.1.2.2 ⟨lf2.2.1.1, lf2.2.1.2.1⟩ lf2.2.1.2.2 (fun j p q => ⟨lf2.2.2.2.2.1 j (by have := lf2.2.1.1; omega) q, lf2.2.2.2.2.2 j p q⟩) lf2.2.2.1 (fun k p q => lf2.2.2.2.1 k 0 p q) ⟨rfl, Or.inl ⟨rfl, fun v q => q.1⟩⟩) (fun v s3 hq => ?_)
      obtain ⟨x3, rfl, es, mn⟩ := hq
      have es := es.symm
      subst es
      refine T_vI ?_
      have mt : y_mt s0 l (if x3 = 2147483647 then -1000 else x3) ∧ x3 ≠ -1000 := by
        rcases mn with ⟨m1, m2⟩ | ⟨⟨m1, m2⟩, m3⟩
        · rw [if_pos m1]
          exact ⟨Or.inl ⟨rfl, fun x r _ p q => m2 x ⟨Or.inr ((y_CCc_fr (y_czf q2) 0 (l + 1) x).mpr q), (pd x).mpr ⟨r, p⟩⟩⟩, by omega⟩
        · have r := (pd x3).mp m2
          have ra := r.1
          unfold y_ra at ra
          rw [if_neg (by omega)]
          exact ⟨Or.inr ⟨by omega, r.1, r.2, (y_CCc_fr (y_czf q2) 0 (l + 1) x3).mp (m1.resolve_left id), fun x r p q => m3 x ⟨Or.inr ((y_CCc_fr (y_czf q2) 0 (l + 1) x).mpr q), (pd x).mpr ⟨r, p⟩⟩⟩, by omega⟩
      exact e_b95 hn ⟨h2, by omega⟩ e6 g2 mt.1 mt.2 (fun _ => by omega) b8 bo (fun s4 g4 => ih F s4 (l + 1) (by omega) (by omega) (by omega) g4)
/-- the sides are right -/
def y_YSs (s : z_M) : Prop := (∀ i : Int, 0 ≤ i → i < s 240 6 → (s 306 i = y_ou s 0 i ∧ s 308 i = y_ou s 1 i) ∧ y_mt s i (s 300 i) ∧ (i + 1 < s 240 6 → s 302 i = y_gtt s (s 300 i) i ∧ s 304 (i + 1) = s 304 i + s 302 i) ∧ 0 ≤ s 304 i ∧ s 304 i ≤ 24 * i) ∧ s 304 0 = 0
def y_YS (s : z_M) : Prop := y_OKc s → y_YSs s
/-- paint is of colours that were used; c is how many there may be -/
def y_Zp (s : z_M) : Prop := (∀ x : Int, 0 ≤ x → x < 12000 → s 298 x ≤ s 296 9) ∧ 0 ≤ s 296 9 ∧ s 304 0 = 0
theorem y_Zp.fr {s s' : z_M} (h : y_Zp s) (f : ∀ a b : Int, a = 296 ∨ a = 298 ∨ a = 304 → s' a b = s a b) : y_Zp s' := ⟨fun x p q => by rw [f 298 x (by decide), f 296 9 (by decide)]; exact h.1 x p q, by rw [f 296 9 (by decide)]; exact h.2.1, by rw [f 304 0 (by decide)]; exact h.2.2⟩
theorem e_sbuild {fu : Nat} (hfu : 8589934592 ≤ fu) {s : z_M} (ci : z_CI s) (ok : y_OKc s) (lc : y_LBc (y_dc s) s) (zp : y_Zp s) (cc : s 296 9 ≤ 1000000000) (b8 : 0 ≤ s 3 8 ∧ s 3 8 ≤ 12) : z_T (fX8_build fu s 296) (fun v s' => v = vN ∧ (∀ a b : Int, a ≠ 298 → a ≠ 300 → a ≠ 302 → a ≠ 304 → a ≠ 306 → a ≠ 308 → ¬ (a = 296 ∧ b = 9) → s' a b = s a b) ∧ y_Zp s' ∧ s' 296 9 ≤ s 296 9 + 200 ∧ y_YSs s') := by
  have h6 := CI_b ci (k := 240) (j := 6) bd_240_6
  have n6 := CI_b ci (k := 6) (j := 6) bd_6_6
  refine T_of (fX8_build.eq_1 ..) ?_
  refine T_if1 (by decide +kernel) ?_
  refine T_let 258 (by decide +kernel) ?_
  refine T_if1 (by decide +kernel) ?_
  refine T_bI (T_of (fX3_lineCount.eq_1 ..) ?_)
  refine T_if1 (by decide +kernel) ?_
  refine T_let 240 (by decide +kernel) ?_
  refine T_if1 (by decide +kernel) ?_
  refine T_let (s 240 6) rfl ?_
  refine T_rI ?_
  refine e_bd10 hfu (s0 := s) h6 (fun l p q => ok.lf lc n6 p q) (fun s1 o1 => ?_) (s 240 6).toNat fu s 0 (by omega) (by omega) (Int.le_refl _) ⟨fun _ _ _ _ => rfl, fun i p q => by omega⟩
  have q1 : ∀ a b : Int, a < 296 → s1 a b = s a b := fun a b q => o1.1 a b (by omega) (by omega)
  have e6 : s1 240 6 = s 240 6 := q1 240 6 (by decide)
  have e9 : s1 296 9 = s 296 9 := o1.1 296 9 (by decide) (by decide)
  have e4 : s1 304 0 = 0 := (o1.1 304 0 (by decide) (by decide)).trans zp.2.2
  refine e_bd51 hfu (s0 := s1) h6 e6 (by rw [e9]; have := zp.2.1; omega) (fun l p q => (ok.lf lc n6 p q).fr q1) (by rw [q1 3 8 (by decide)]; exact b8) (fun i p q => by rw [(o1.2 i p q).1, (o1.2 i p q).2]; exact ⟨y_ou_b, y_ou_b⟩) (fun s2 g2 => ?_) (s 240 6).toNat fu s1 0 (by omega) (by omega) (Int.le_refl _) ⟨fun _ _ _ _ _ _ _ => rfl, by omega, fun x p q => by rw [e9, o1.1 298 x (by decide) (by decide)]; exact zp.1 x p q, e4, fun i p q => by omega, fun i p q r => by rw [show i = 0 by omega, e4]; decide⟩
  obtain ⟨h1, h2, h3, h4, h5, h7⟩ := g2
  have q2 : ∀ a b : Int, a < 296 → s2 a b = s a b := fun a b q => (h1 a b (by omega) (by omega) (by omega) (by omega) (by omega)).trans (q1 a b q)
  have q3 : ∀ a b : Int, a < 296 → s2 a b = s1 a b := fun a b q => h1 a b (by omega) (by omega) (by omega) (by omega) (by omega)
  refine T_ret ⟨rfl, fun a b p q r t u v x => (h1 a b p q r t x).trans (o1.1 a b u v), ⟨h3, by have := zp.2.1; omega, h4⟩, by omega, fun i p q => ?_, h4⟩
  rw [q2 240 6 (by decide)] at q
  have o := o1.2 i p q
  obtain ⟨m1, m2⟩ := h5 i p q
  have x6 : s2 306 i = s1 306 i := h1 306 i (by decide) (by decide) (by decide) (by decide) (by omega)
  have x8 : s2 308 i = s1 308 i := h1 308 i (by decide) (by decide) (by decide) (by decide) (by omega)
  have x7 : s2 306 (i + 1) = s1 306 (i + 1) := h1 306 (i + 1) (by decide) (by decide) (by decide) (by decide) (by omega)
  refine ⟨⟨by rw [x6, o.1, y_ou_fr (y_czf q2) 0 i], by rw [x8, o.2, y_ou_fr (y_czf q2) 1 i]⟩, y_mt_fr (y_czf q3) m1, fun r => ?_, h7 i p (by omega) (by omega)⟩
  have y := m2 (by rw [← q3 240 6 (by decide)]; exact r)
  refine ⟨?_, y.2⟩
  unfold y_gtt
  rw [q3 3 8 (by decide), x8, x7]
  exact y.1
