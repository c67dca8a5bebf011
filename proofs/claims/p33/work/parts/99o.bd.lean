/-! the class's sides: all of them -/
theorem y_OKc.sp {s : z_M} (ok : y_OKc s) (lc : y_LBc (y_dc s) s) (h6 : 0 ≤ s 6 6 ∧ s 6 6 ≤ 200) {l : Int} (l0 : 0 ≤ l) (l1 : l < s 240 6) {j : Int} (p : y_fs s l ≤ j) (q : j < y_fs s (l + 1)) : (0 ≤ s 215 j ∧ s 215 j < 200) ∧ 0 ≤ s 268 j ∧ s 268 j ≤ 100000000 := by
  obtain ⟨f1, f2⟩ := ok.fs lc h6 l0 l1
  have nn := ok.2.2.2.1
  have t' : y_sC s 0 = 1 := ok.2.1.resolve_left (by omega)
  have pt := (ok.1.2.1.2 ok.2.1).2
  have m := pt.mem y_sC_01 t' j.toNat (by omega)
  rw [show ((j.toNat : Nat) : Int) = j by omega] at m
  have e0 : y_fs s l = s 195 (s 248 l) := if_neg (by omega)
  have a0 : s 248 l ≤ s 215 j := by
    by_cases z : s 248 l ≤ s 215 j
    · exact z
    · have := (y_PT_pos pt y_sC_01 (v := s 215 j) m.1.1 m.1.2).2.2.2 (s 248 l) (by omega) (by omega)
      omega
  have a1 : s 215 j < s 248 (l + 1) := by
    by_cases z : s 215 j < s 248 (l + 1)
    · exact z
    · have e1 : y_fs s (l + 1) = s 195 (s 248 (l + 1)) := if_neg (by omega)
      by_cases z2 : s 215 j = s 248 (l + 1)
      · rw [z2] at m
        omega
      · have := (y_PT_pos pt y_sC_01 (v := s 248 (l + 1)) (by omega) (by omega))
        have := this.2.2.2 (s 215 j) (by omega) (by omega)
        omega
  have fz := (ok.1.FZ ok.2.1 h6).1 (s 215 j) m.1.1 m.1.2
  obtain ⟨nx, cc, ⟨hx, hc, h6', hr⟩, ly, _⟩ := lc
  have e := ((ly l l0 l1).2 (s 215 j) a0 a1).2.2.2.2 j m.2.1 m.2.2
  have pl := y_pl_b (E := y_me (y_dc s) (s 3 7) (s 191 16)) (Q := y_qc s) (u := s 215 j) (a := s 248 l) (b := s 248 (l + 1) - 1) ok.2.2.1 f1.1 (by omega) nn.2 (by rw [y_qc1]; exact ok.2.2.2.2.1) (by rw [y_qc2]; have := ok.2.2.2.2.2.1; omega) ⟨a0, by omega⟩
  have sg : 0 ≤ y_sg2 s (s 215 j) j ∧ y_sg2 s (s 215 j) j ≤ 2400 := by
    unfold y_sg2
    split
    · have r := y_su_r (f := s 217) (a := s 195 (s 215 j)) (u := j) (m := 12) (by decide) (fun i p q => fz.2.2.2 i p (by omega)) m.2.1 (by omega)
      omega
    · decide
  rw [e]
  omega
/-- all that is needed of a line of the class -/
def y_LFc (s : z_M) (l : Int) : Prop := (0 ≤ s 248 l ∧ 0 ≤ s 248 (l + 1) ∧ s 191 16 ≤ 200) ∧ (0 ≤ y_fs s l ∧ y_fs s l ≤ y_fs s (l + 1) ∧ y_fs s (l + 1) ≤ 200) ∧ (0 ≤ s 278 l ∧ s 278 l ≤ s 278 (l + 1) ∧ s 278 (l + 1) ≤ 200) ∧ (∀ k d : Int, s 278 l ≤ k → k < s 278 (l + 1) → y_bq s k d) ∧ (∀ j : Int, 0 ≤ j → j < y_fs s (l + 1) → 0 ≤ s 215 j ∧ s 215 j < 200) ∧ ∀ j : Int, y_fs s l ≤ j → j < y_fs s (l + 1) → 0 ≤ s 268 j ∧ s 268 j ≤ 100000000
theorem y_OKc.lf {s : z_M} (ok : y_OKc s) (lc : y_LBc (y_dc s) s) (h6 : 0 ≤ s 6 6 ∧ s 6 6 ≤ 200) {l : Int} (l0 : 0 ≤ l) (l1 : l < s 240 6) : y_LFc s l := by
  obtain ⟨f1, f2⟩ := ok.fs lc h6 l0 l1
  exact ⟨⟨f1.1, by omega, f1.2.2.2⟩, ⟨f2.1, f2.2.1, by omega⟩, lc.bb ok.2.2.2.1 l0 l1, fun k d p q => lc.bq ok l0 l1 p q, fun j p q => by have := y_PCi_u ok.1 ok.2.1 p (by omega); omega, fun j p q => (ok.sp lc h6 l0 l1 p q).2⟩
theorem y_LFc.fr {sB s : z_M} {l : Int} (h : y_LFc sB l) (f : ∀ a b : Int, a < 296 → s a b = sB a b) : y_LFc s l := by
  obtain ⟨c1, c2, c3, c4, c5⟩ := y_fr_c (y_czf f)
  unfold y_LFc
  rw [f 248 l (by decide), f 248 (l + 1) (by decide), f 191 16 (by decide), c4 l, c4 (l + 1), f 278 l (by decide), f 278 (l + 1) (by decide)]
  exact ⟨h.1, h.2.1, h.2.2.1, fun k d p q => (c3 k d).mpr (h.2.2.2.1 k d p q), fun j p q => by rw [f 215 j (by decide)]; exact h.2.2.2.2.1 j p q, fun j p q => by rw [f 268 j (by decide)]; exact h.2.2.2.2.2 j p q⟩
/-- how much there is on a side of a line; what it adds -/
def y_nnc (s : z_M) (d l : Int) : Int := y_su (y_cnn s d) (s 278 l) (s 278 (l + 1)) + y_su (y_mk s d) (y_fs s l) (y_fs s (l + 1))
def y_ou (s : z_M) (d l : Int) : Int := if y_nnc s d l ≤ 0 then 0 else 6
theorem y_ou_b {s : z_M} {d l : Int} : 0 ≤ y_ou s d l ∧ y_ou s d l ≤ 6 := by
  unfold y_ou
  split <;> decide
theorem y_ou_fr {sB s : z_M} (f : ∀ a b : Int, y_cz a b → s a b = sB a b) (d l : Int) : y_ou s d l = y_ou sB d l := by
  obtain ⟨c1, c2, c3, c4, c5⟩ := y_fr_c f
  have e1 : y_cnn s d = y_cnn sB d := funext fun k => c1 k d
  have e2 : y_mk s d = y_mk sB d := funext fun k => c5 d k
  unfold y_ou y_nnc
  rw [e1, e2, f 278 l (by unfold y_cz; omega), f 278 (l + 1) (by unfold y_cz; omega), c4 l, c4 (l + 1)]
theorem e_outerOn {fu : Nat} (hfu : 8589934592 ≤ fu) {s : z_M} {l d : Int} (hl : 0 ≤ l ∧ l < 200) (h : y_LFc s l) : fX8_outerOn fu s 296 l d = some (vI (y_ou s d l), s) := by
  obtain ⟨h1, h2, h3, h4, hu, h5⟩ := h
  have b1 := y_su_r (f := y_cnn s d) (a := s 278 l) (u := s 278 (l + 1)) (m := 3000) (by decide) (fun k p q => (h4 k d p q).2.2.1) h3.2.1 (by omega)
  have b2 := y_su_r (f := y_mk s d) (a := y_fs s l) (u := y_fs s (l + 1)) (m := 1) (by decide) (fun k p q => y_mk_01) h2.2.1 (by omega)
  refine T_eq ?_
  refine T_of (fX8_outerOn.eq_1 ..) ?_
  refine T_if1 (by decide +kernel) ?_
  refine T_let 258 (by decide +kernel) ?_
  refine T_if1 (by decide +kernel) ?_
  refine T_bI (T_of (e_lettersBeside hfu hl rfl rfl h3 (fun k p q => h4 k d p q)) (T_rI ?_))
  refine T_if1 (by decide +kernel) ?_
  refine T_let 258 (by decide +kernel) ?_
  refine T_if1 (by decide +kernel) ?_
  refine T_bI (T_of (e_marksBeside hfu hl h1.1 h1.2.1 h1.2.2 h2 (fun i p q => hu i p q)) (T_rI ?_))
  refine T_let ((y_su (y_cnn s d) (s 278 l) (s 278 (l + 1))) + (y_su (y_mk s d) (y_fs s l) (y_fs s (l + 1)))) (v_wid (by omega)) ?_
  refine T_ite (fun hN => ?_) (fun hN => ?_)
  · refine T_of (fX8_outerOn_J28.eq_1 ..) ?_
    refine T_ret ⟨?_, rfl⟩
    unfold y_ou y_nnc
    rw [if_pos hN]
  · refine T_of (fX8_outerOn_J28.eq_1 ..) ?_
    refine T_ret ⟨?_, rfl⟩
    unfold y_ou y_nnc
    rw [if_neg hN]
/-- the outer sides of the first lines -/
def y_O1 (s0 s : z_M) (n : Int) : Prop := (∀ a b : Int, a ≠ 306 → a ≠ 308 → s a b = s0 a b) ∧ ∀ i : Int, 0 ≤ i → i < n → s 306 i = y_ou s0 0 i ∧ s 308 i = y_ou s0 1 i
theorem e_bd10 {fu : Nat} (hfu : 8589934592 ≤ fu) {s0 : z_M} {n : Int} (hn : 0 ≤ n ∧ n ≤ 200) (hL : ∀ l : Int, 0 ≤ l → l < n → y_LFc s0 l) {kont : z_M → z_O} {P : z_V → z_M → Prop} (kk : ∀ s' : z_M, y_O1 s0 s' n → z_T (kont s') P) : ∀ (m F : Nat) (s : z_M) (l : Int), (m : Int) = n - l → m < F → 0 ≤ l → y_O1 s0 s l → z_T (fX8_build_L10 fu 296 n F s l kont) P := by
  intro m
  induction m with
  | zero =>
    intro F s l e hF h2 g
    obtain ⟨F, rfl⟩ : ∃ F2, F = F2 + 1 := ⟨F - 1, by omega⟩
    have el : l = n := by omega
    refine T_of (fX8_build_L10.eq_2 ..) ?_
    refine T_if1 (by omega) ?_
    rw [el] at g
    exact kk s g
  | succ m ih =>
    intro F s l e hF h2 g
    obtain ⟨F, rfl⟩ : ∃ F2, F = F2 + 1 := ⟨F - 1, by omega⟩
    have f0 : ∀ a b : Int, a < 296 → s a b = s0 a b := fun a b q => g.1 a b (by omega) (by omega)
    refine T_of (fX8_build_L10.eq_2 ..) ?_
    refine T_if0 (by omega) ?_
    refine T_if1 (by decide +kernel) ?_
    refine T_let 305 (by decide +kernel) ?_
    refine T_if1 (by decide +kernel) ?_
    refine T_bI (T_of (e_outerOn hfu ⟨h2, by omega⟩ ((hL l h2 (by omega)).fr f0)) (T_rI ?_))
    rw [y_ou_fr (y_czf f0) 0 l]
    refine T_if1 (by decide +kernel) ?_
    refine T_putG w_r305 (by omega) (fun sx1 a2 f3 => ?_)
    refine T_if1 (by decide +kernel) ?_
    refine T_let 307 (by decide +kernel) ?_
    refine T_if1 (by decide +kernel) ?_
    have f1 : ∀ a b : Int, a < 296 → sx1 a b = s0 a b := fun a b q => (f3 a b (by omega)).trans (f0 a b q)
    refine T_bI (T_of (e_outerOn hfu ⟨h2, by omega⟩ ((hL l h2 (by omega)).fr f1)) (T_rI ?_))
    rw [y_ou_fr (y_czf f1) 1 l]
    refine T_if1 (by decide +kernel) ?_
    refine T_putG w_r307 (by omega) (fun sx4 a5 f6 => ?_)
    refine T_let (l + 1) (v_wid (by omega)) ?_
    refine ih F sx4 (l + 1) (by omega) (by omega) (by omega) ⟨fun a b p q => by rw [f6 a b (by omega), f3 a b (by omega)]; exact g.1 a b p q, fun i p q => ?_⟩
    by_cases z : i = l
    · rw [z]
      exact ⟨(f6 306 l (by omega)).trans a2, a5⟩
    · rw [f6 306 i (by omega), f3 306 i (by omega), f6 308 i (by omega), f3 308 i (by omega)]
      exact g.2 i p (by omega)
/-- where lines l, l + 1 meet, by the class's paint -/
def y_mt (s : z_M) (l m : Int) : Prop := (m = -1000 ∧ ∀ x : Int, y_ra x → l + 1 < s 240 6 → y_CCc s 1 l x → ¬ y_CCc s 0 (l + 1) x) ∨ (l + 1 < s 240 6 ∧ y_ra m ∧ y_CCc s 1 l m ∧ y_CCc s 0 (l + 1) m ∧ ∀ x : Int, y_ra x → y_CCc s 1 l x → y_CCc s 0 (l + 1) x → m ≤ x)
theorem y_CCc_fr {sB s : z_M} (f : ∀ a b : Int, y_cz a b → s a b = sB a b) (d l x : Int) : y_CCc s d l x ↔ y_CCc sB d l x := by
  obtain ⟨c1, c2, c3, c4, c5⟩ := y_fr_c f
  unfold y_CCc y_CK y_CSc
  rw [f 278 l (by unfold y_cz; omega), f 278 (l + 1) (by unfold y_cz; omega), c4 l, c4 (l + 1)]
  constructor
  · intro r
    rcases r with ⟨k, j, p, q, r⟩ | ⟨j, p, q, r⟩
    · rw [c2 k d j] at r
      rw [c1 k d] at q
      exact Or.inl ⟨k, j, p, q, r⟩
    · rw [f 268 j (by unfold y_cz; omega)] at r
      rw [c5 d j] at q
      exact Or.inr ⟨j, p, q, r⟩
  · intro r
    rcases r with ⟨k, j, p, q, r⟩ | ⟨j, p, q, r⟩
    · exact Or.inl ⟨k, j, p, by rw [c1 k d]; exact q, by rw [c2 k d j]; exact r⟩
    · exact Or.inr ⟨j, p, by rw [c5 d j]; exact q, by rw [f 268 j (by unfold y_cz; omega)]; exact r⟩
theorem y_mt_fr {sB s : z_M} (f : ∀ a b : Int, y_cz a b → s a b = sB a b) {l m : Int} (h : y_mt sB l m) : y_mt s l m := by
  unfold y_mt at *
  rw [f 240 6 (by unfold y_cz; omega)]
  rcases h with ⟨a, b⟩ | ⟨a, b, c, d, e⟩
  · exact Or.inl ⟨a, fun x p q r t => b x p q ((y_CCc_fr f 1 l x).mp r) ((y_CCc_fr f 0 (l + 1) x).mp t)⟩
  · exact Or.inr ⟨a, b, (y_CCc_fr f 1 l m).mpr c, (y_CCc_fr f 0 (l + 1) m).mpr d, fun x p r t => e x p ((y_CCc_fr f 1 l x).mp r) ((y_CCc_fr f 0 (l + 1) x).mp t)⟩
/-- the gutter behind line l -/
def y_gtt (s : z_M) (m l : Int) : Int := s 3 8 + (if m = -1000 then z_max (s 308 l) (s 306 (l + 1)) else 12)
/-- the first lines' sides are right; c colours more -/
def y_SS1 (s0 s : z_M) (l c : Int) : Prop := (∀ a b : Int, a ≠ 298 → a ≠ 300 → a ≠ 302 → a ≠ 304 → ¬ (a = 296 ∧ b = 9) → s a b = s0 a b) ∧ s 296 9 = s0 296 9 + c ∧ (∀ x : Int, 0 ≤ x → x < 12000 → s 298 x ≤ s 296 9) ∧ s 304 0 = 0 ∧ (∀ i : Int, 0 ≤ i → i < l → y_mt s0 i (s 300 i) ∧ (i + 1 < s0 240 6 → s 302 i = y_gtt s0 (s 300 i) i ∧ s 304 (i + 1) = s 304 i + s 302 i)) ∧ ∀ i : Int, 0 ≤ i → i ≤ l → i < s0 240 6 → 0 ≤ s 304 i ∧ s 304 i ≤ 24 * i
theorem y_SS1.step {s0 s s1 s2 s3 : z_M} {l c m G : Int} (h : y_SS1 s0 s l c) (l0 : 0 ≤ l) (l1 : l < 200) (f1 : ∀ a b : Int, ¬ (a = 300 ∧ b = l) → s1 a b = s a b) (f2 : ∀ a b : Int, ¬ (a = 302 ∧ b = l) → s2 a b = s1 a b) (f3 : ∀ a b : Int, ¬ (a = 304 ∧ b = l + 1) → s3 a b = s2 a b) (a1 : s1 300 l = m) (hm : y_mt s0 l m) (a2 : s2 302 l = G) (hG : l + 1 < s0 240 6 → G = y_gtt s0 m l) (a3 : s3 304 (l + 1) = z_w (s2 304 l + s2 302 l)) (b8 : 0 ≤ s0 3 8 ∧ s0 3 8 ≤ 12) (bo : l + 1 < s0 240 6 → (0 ≤ s0 308 l ∧ s0 308 l ≤ 6) ∧ 0 ≤ s0 306 (l + 1) ∧ s0 306 (l + 1) ≤ 6) : y_SS1 s0 s3 (l + 1) c := by
  obtain ⟨h1, h2, h3, h4, h5, h6⟩ := h
  have fr : ∀ a b : Int, ¬ (a = 300 ∧ b = l) → ¬ (a = 302 ∧ b = l) → ¬ (a = 304 ∧ b = l + 1) → s3 a b = s a b := fun a b p q r => by rw [f3 a b r, f2 a b q, f1 a b p]
  have e9 : s3 296 9 = s 296 9 := fr 296 9 (by omega) (by omega) (by omega)
  have m3 : s3 300 l = m := by rw [f3 300 l (by omega), f2 300 l (by omega), a1]
  have g3 : s3 302 l = G := by rw [f3 302 l (by omega), a2]
  have gb : l + 1 < s0 240 6 → 0 ≤ G ∧ G ≤ 24 := fun q => by
    have o := bo q
    have z := z_maxb (s0 308 l) (s0 306 (l + 1))
    rw [hG q]
    unfold y_gtt
    split <;> omega
  have t3 : l + 1 < s0 240 6 → s3 304 (l + 1) = s 304 l + G := fun q => by
    have b := h6 l l0 (Int.le_refl _) (by omega)
    have g := gb q
    rw [a3, a2, f2 304 l (by omega), f1 304 l (by omega), v_wid (by omega)]
  refine ⟨fun a b p q r t u => by rw [fr a b (fun z => q z.1) (fun z => r z.1) (fun z => t z.1)]; exact h1 a b p q r t u, e9.trans h2, fun x p q => by rw [e9, fr 298 x (by omega) (by omega) (by omega)]; exact h3 x p q, (fr 304 0 (by omega) (by omega) (by omega)).trans h4, fun i p q => ?_, fun i p q r => ?_⟩
  · by_cases z : i = l
    · subst z
      rw [m3, g3]
      refine ⟨hm, fun q2 => ⟨hG q2, ?_⟩⟩
      rw [t3 q2, fr 304 i (by omega) (by omega) (by omega)]
    · rw [fr 300 i (by omega) (by omega) (by omega), fr 302 i (by omega) (by omega) (by omega), fr 304 (i + 1) (by omega) (by omega) (by omega), fr 304 i (by omega) (by omega) (by omega)]
      exact h5 i p (by omega)
  · by_cases z : i = l + 1
    · subst z
      rw [t3 r]
      have b := h6 l l0 (Int.le_refl _) (by omega)
      have g := gb r
      omega
    · rw [fr 304 i (by omega) (by omega) (by omega)]
      exact h6 i p (by omega) r
theorem e_b95 {fu : Nat} {s0 s : z_M} {n l c x : Int} (hn : 0 ≤ n ∧ n ≤ 200) (hl : 0 ≤ l ∧ l < n) (e6 : s0 240 6 = n) (h : y_SS1 s0 s l c) (hm : y_mt s0 l (if x = 2147483647 then -1000 else x)) (hx : x ≠ -1000) (hr : x ≠ 2147483647 → l + 1 < n) (b8 : 0 ≤ s0 3 8 ∧ s0 3 8 ≤ 12) (bo : ∀ i : Int, 0 ≤ i → i < n → (0 ≤ s0 308 i ∧ s0 308 i ≤ 6) ∧ 0 ≤ s0 306 i ∧ s0 306 i ≤ 6) {r : z_M → Int → z_O} {k : z_M → z_O} {P : z_V → z_M → Prop} (kk : ∀ s' : z_M, y_SS1 s0 s' (l + 1) c → z_T (r s' (l + 1)) P) : z_T (fX8_build_J95 fu s 296 n l x r k) P := by
  have e38 : s 3 8 = s0 3 8 := h.1 3 8 (by decide) (by decide) (by decide) (by decide) (by omega)
  have e308 : s 308 l = s0 308 l := h.1 308 l (by decide) (by decide) (by decide) (by decide) (by omega)
  have e306 : s 306 (l + 1) = s0 306 (l + 1) := h.1 306 (l + 1) (by decide) (by decide) (by decide) (by decide) (by omega)
  refine T_of (fX8_build_J95.eq_1 ..) ?_
  refine T_if1 (by decide +kernel) ?_
  refine T_let 299 (by decide +kernel) ?_
  refine T_ite (fun hF1 => ?_) (fun hF1 => ?_)
  · refine T_of (fX8_build_J114.eq_1 ..) ?_
    refine T_if1 (by decide +kernel) ?_
    refine T_putG w_r299 (by omega) (fun sx7 a8 f9 => ?_)
    refine T_if1 (by decide +kernel) ?_
    refine T_let 307 (by decide +kernel) ?_
    refine T_if1 (by decide +kernel) ?_
    refine T_getV w_r307 (by omega) rfl ?_
    refine T_if1 (by decide +kernel) ?_
    refine T_let 305 (by decide +kernel) ?_
    refine T_let (l + 1) (v_wid (by omega)) ?_
    refine T_if1 (by decide +kernel) ?_
    refine T_getA w_r305 (fun px hx1 _ => ?_)
    refine T_let (z_max (sx7 308 l) px) rfl ?_
    refine T_if1 (by decide +kernel) ?_
    refine T_let 301 (by decide +kernel) ?_
    refine T_if1 (by decide +kernel) ?_
    refine T_let 2 (by decide +kernel) ?_
    refine T_if1 (by decide +kernel) ?_
    refine T_getV w_r2 (by omega) rfl ?_
    refine T_ite (fun hF2 => ?_) (fun hF2 => ?_)
    · refine T_of (fX8_build_J167.eq_1 ..) ?_
      refine T_let (z_w ((sx7 3 8) + 12)) rfl ?_
      refine T_if1 (by decide +kernel) ?_
      refine T_putG w_r301 (by omega) (fun sx10 a11 f12 => ?_)
      refine T_if1 (by decide +kernel) ?_
      refine T_let 303 (by decide +kernel) ?_
      refine T_let (l + 1) (v_wid (by omega)) ?_
      refine T_if1 (by decide +kernel) ?_
      refine T_let 303 (by decide +kernel) ?_
      refine T_if1 (by decide +kernel) ?_
      refine T_getV w_r303 (by omega) rfl ?_
      refine T_if1 (by decide +kernel) ?_
      refine T_let 301 (by decide +kernel) ?_
      refine T_if1 (by decide +kernel) ?_
      refine T_getV w_r301 (by omega) rfl ?_
      refine T_let (z_w ((sx10 304 l) + (sx10 302 l))) rfl ?_
      refine T_if1 (by decide +kernel) ?_
      refine T_putG w_r303 (by omega) (fun sx13 a14 f15 => ?_)
      refine T_let (l + 1) (v_wid (by omega)) ?_
      rw [if_neg hF1] at hm
      refine kk sx13 (h.step hl.1 (by omega) f9 f12 f15 a8 hm a11 (fun q => ?_) a14 b8 (fun q => ⟨(bo l hl.1 hl.2).1, (bo (l + 1) (by omega) (by omega)).2⟩))
      unfold y_gtt
      rw [if_neg hx, f9 3 8 (by omega), e38]
      exact v_wid (by omega)
    · refine T_of (fX8_build_J167.eq_1 ..) ?_
      refine T_let (z_w ((sx7 3 8) + (z_max (sx7 308 l) px))) rfl ?_
      refine T_if1 (by decide +kernel) ?_
      refine T_putG w_r301 (by omega) (fun sx16 a17 f18 => ?_)
      refine T_if1 (by decide +kernel) ?_
      refine T_let 303 (by decide +kernel) ?_
      refine T_let (l + 1) (v_wid (by omega)) ?_
      refine T_if1 (by decide +kernel) ?_
      refine T_let 303 (by decide +kernel) ?_
      refine T_if1 (by decide +kernel) ?_
      refine T_getV w_r303 (by omega) rfl ?_
      refine T_if1 (by decide +kernel) ?_
      refine T_let 301 (by decide +kernel) ?_
      refine T_if1 (by decide +kernel) ?_
      refine T_getV w_r301 (by omega) rfl ?_
      refine T_let (z_w ((sx16 304 l) + (sx16 302 l))) rfl ?_
      refine T_if1 (by decide +kernel) ?_
      refine T_putG w_r303 (by omega) (fun sx19 a20 f21 => ?_)
      refine T_let (l + 1) (v_wid (by omega)) ?_
      exact absurd hF1 hF2
  · refine T_of (fX8_build_J114.eq_1 ..) ?_
    refine T_if1 (by decide +kernel) ?_
    refine T_putG w_r299 (by omega) (fun sx22 a23 f24 => ?_)
    refine T_if1 (by decide +kernel) ?_
    refine T_let 307 (by decide +kernel) ?_
    refine T_if1 (by decide +kernel) ?_
    refine T_getV w_r307 (by omega) rfl ?_
    refine T_if1 (by decide +kernel) ?_
    refine T_let 305 (by decide +kernel) ?_
    refine T_let (l + 1) (v_wid (by omega)) ?_
    refine T_if1 (by decide +kernel) ?_
    refine T_getA w_r305 (fun px hx1 _ => ?_)
    refine T_let (z_max (sx22 308 l) px) rfl ?_
    refine T_if1 (by decide +kernel) ?_
    refine T_let 301 (by decide +kernel) ?_
    refine T_if1 (by decide +kernel) ?_
    refine T_let 2 (by decide +kernel) ?_
    refine T_if1 (by decide +kernel) ?_
    refine T_getV w_r2 (by omega) rfl ?_
    refine T_ite (fun hF2 => ?_) (fun hF2 => ?_)
    · refine T_of (fX8_build_J167.eq_1 ..) ?_
      refine T_let (z_w ((sx22 3 8) + 12)) rfl ?_
      refine T_if1 (by decide +kernel) ?_
      refine T_putG w_r301 (by omega) (fun sx25 a26 f27 => ?_)
      refine T_if1 (by decide +kernel) ?_
      refine T_let 303 (by decide +kernel) ?_
      refine T_let (l + 1) (v_wid (by omega)) ?_
      refine T_if1 (by decide +kernel) ?_
      refine T_let 303 (by decide +kernel) ?_
      refine T_if1 (by decide +kernel) ?_
      refine T_getV w_r303 (by omega) rfl ?_
      refine T_if1 (by decide +kernel) ?_
      refine T_let 301 (by decide +kernel) ?_
      refine T_if1 (by decide +kernel) ?_
      refine T_getV w_r301 (by omega) rfl ?_
      refine T_let (z_w ((sx25 304 l) + (sx25 302 l))) rfl ?_
      refine T_if1 (by decide +kernel) ?_
      refine T_putG w_r303 (by omega) (fun sx28 a29 f30 => ?_)
      refine T_let (l + 1) (v_wid (by omega)) ?_
      exact absurd hF2 hF1
    · refine T_of (fX8_build_J167.eq_1 ..) ?_
      refine T_let (z_w ((sx22 3 8) + (z_max (sx22 308 l) px))) rfl ?_
      refine T_if1 (by decide +kernel) ?_
      refine T_putG w_r301 (by omega) (fun sx31 a32 f33 => ?_)
      refine T_if1 (by decide +kernel) ?_
      refine T_let 303 (by decide +kernel) ?_
      refine T_let (l + 1) (v_wid (by omega)) ?_
      refine T_if1 (by decide +kernel) ?_
      refine T_let 303 (by decide +kernel) ?_
      refine T_if1 (by decide +kernel) ?_
      refine T_getV w_r303 (by omega) rfl ?_
      refine T_if1 (by decide +kernel) ?_
      refine T_let 301 (by decide +kernel) ?_
      refine T_if1 (by decide +kernel) ?_
      refine T_getV w_r301 (by omega) rfl ?_
      refine T_let (z_w ((sx31 304 l) + (sx31 302 l))) rfl ?_
      refine T_if1 (by decide +kernel) ?_
      refine T_putG w_r303 (by omega) (fun sx34 a35 f36 => ?_)
      refine T_let (l + 1) (v_wid (by omega)) ?_
      have hF : x = 2147483647 := Decidable.not_not.mp hF1
      rw [if_pos hF] at hm
      refine kk sx34 (h.step hl.1 (by omega) f24 f33 f36 a23 hm a32 (fun q => ?_) a35 b8 (fun q => ⟨(bo l hl.1 hl.2).1, (bo (l + 1) (by omega) (by omega)).2⟩))
      have o := (bo l hl.1 hl.2).1
      have o2 := (bo (l + 1) (by omega) (by omega)).2
      have hp : px = s0 306 (l + 1) := (hx1 (by omega)).trans ((f24 306 (l + 1) (by omega)).trans e306)
      have zm := z_maxb (s0 308 l) (s0 306 (l + 1))
      unfold y_gtt
      rw [if_pos rfl, f24 3 8 (by omega), e38, f24 308 l (by omega), e308, hp]
      exact v_wid (by omega)
