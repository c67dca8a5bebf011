/-! the class's layout: all lines -/
theorem y_GI.fr2 {D s s' : z_M} {o a b c0 c : Int} (h : y_GI D s o a b c0 c) (f : ∀ x k : Int, y_gaw o x → c0 ≤ k → k < c → s' x k = s x k) : y_GI D s' o a b c0 c := by
  obtain ⟨h1, h2, h3, h4, h5⟩ := h
  refine ⟨h1, fun k p q => ?_, fun k p q => ?_, fun p => ?_, ?_⟩
  · obtain ⟨x, y⟩ := h2 k p q
    unfold y_BR at y ⊢
    rw [f (o + 2) k (by omega) p q, f (o + 4) k (by omega) p q, f (o + 6) k (by omega) p q, f (o + 8) k (by omega) p q, f (o + 14) k (by omega) p q, f (o + 16) k (by omega) p q]
    exact ⟨x, y⟩
  · rw [f (o + 4) k (by omega) p (by omega), f (o + 2) (k + 1) (by omega) (by omega) q]
    exact h3 k p q
  · rw [f (o + 4) (c - 1) (by omega) (by omega) (by omega)]
    exact h4 p
  · by_cases z : c0 < c
    · rw [f (o + 2) c0 (by omega) (Int.le_refl _) z]
      exact h5
    · intro j p q
      exact h5 j p (by rw [if_neg z] at q ⊢; exact q)
theorem y_ML.fr {D : z_M} {E : Int → Int} {s s' : z_M} {ln l a b c0 c : Int} (h : y_ML D E ln l a b c0 c s) (f : ∀ x : Int, (x = 270 ∨ x = 272 ∨ x = 274 ∨ x = 276 ∨ x = 278) → s' x l = s x l) (g : ∀ x k : Int, (y_gaw 279 x ∨ x = 289 ∨ x = 291) → c0 ≤ k → k < c → s' x k = s x k) : y_ML D E ln l a b c0 c s' := by
  obtain ⟨m1, m2, m3, m4, m5, m6, m7⟩ := h
  exact ⟨(f _ (by decide)).trans m1, (f _ (by decide)).trans m2, (f _ (by decide)).trans m3, (f _ (by decide)).trans m4, (f _ (by decide)).trans m5, m6.fr2 (fun x k p q r => g x k (Or.inl p) q r), m7.fr (fun x k p q r => g x k (p.elim Or.inl (fun p => Or.inr (p.elim (fun p => Or.inl (by omega)) (fun p => Or.inr (by omega))))) q r)⟩
/-- line l is laid out; lines begin as r tells -/
def y_LQ (D : z_M) (E Q r : Int → Int) (l : Int) (s : z_M) : Prop := y_ML D E (Q 1) l (r l) (r (l + 1) - 1) (y_bn D r l) (y_bn D r (l + 1)) s ∧ ∀ u : Int, r l ≤ u → u < r (l + 1) → y_UW D E Q s l (r l) (r (l + 1) - 1) u
/-- all lines are -/
def y_LYc (D : z_M) (E Q : Int → Int) (s : z_M) : Prop := (∀ l : Int, 0 ≤ l → l < s 240 6 → y_LQ D E Q (s 248) l s) ∧ s 278 (s 240 6) = y_bn D (s 248) (s 240 6) ∧ s 279 9 = y_bn D (s 248) (s 240 6)
theorem y_bi_s {D : z_M} {r : Int → Int} {l : Int} (h : 0 ≤ l) : y_bn D r (l + 1) = y_bn D r l + y_ns D (r l) (r (l + 1)) := y_suS h
theorem y_bi_le {D : z_M} {r : Int → Int} {c : Int} (hr : ∀ i : Int, 0 ≤ i → i < c → r i ≤ r (i + 1)) : ∀ (m : Nat) (l k : Int), (m : Int) = k - l → 0 ≤ l → k ≤ c → y_bn D r l ≤ y_bn D r k := by
  intro m
  induction m with
  | zero => intro l k e _ _; rw [show k = l by omega]; exact Int.le_refl _
  | succ m ih =>
    intro l k e h0 h1
    have h2 := ih l (k - 1) (by omega) h0 (by omega)
    have h3 := y_bi_s (D := D) (r := r) (l := k - 1) (by omega)
    have h4 := y_ns_b (D := D) (hr (k - 1) (by omega) (by omega))
    rw [show k - 1 + 1 = k by omega] at h3 h4
    omega
theorem y_r_le {r : Int → Int} {c : Int} (hr : ∀ i : Int, 0 ≤ i → i < c → r i ≤ r (i + 1)) : ∀ (m : Nat) (l k : Int), (m : Int) = k - l → 0 ≤ l → k ≤ c → r l ≤ r k := by
  intro m
  induction m with
  | zero => intro l k e _ _; rw [show k = l by omega]; exact Int.le_refl _
  | succ m ih =>
    intro l k e h0 h1
    have h2 := ih l (k - 1) (by omega) h0 (by omega)
    have h3 := hr (k - 1) (by omega) (by omega)
    rw [show k - 1 + 1 = k by omega] at h3
    omega
/-- cells that the layout writes on -/
abbrev y_blw (x y : Int) : Prop := y_mw x y ∨ x = 222 ∨ (260 ≤ x ∧ x ≤ 278) ∨ (x = 279 ∧ y = 9) ∨ (281 ≤ x ∧ x ≤ 295)
theorem e_buildL {fu : Nat} (hfu : 8589934592 ≤ fu) {D s0 : z_M} {E Q r : Int → Int} {c : Int} (hE1 : ∀ u : Int, E u = 0 ∨ E u = 1) (fz0 : y_FZ s0) (q1 : 0 ≤ Q 1 ∧ Q 1 ≤ 6) (q2 : 0 ≤ Q 2 ∧ Q 2 ≤ 10000) (e2 : s0 3 2 = Q 1) (e0 : s0 3 0 = Q 2) (e4 : s0 3 4 = Q 3) (en : s0 191 16 = Q 0) (ec : s0 240 6 = c) (hc : 0 ≤ c ∧ c ≤ 200) (er : ∀ i : Int, 0 ≤ i → i ≤ c → s0 248 i = r i)
    (hr : ∀ i : Int, 0 ≤ i → i < c → 0 ≤ r i ∧ r i < r (i + 1) ∧ r (i + 1) ≤ Q 0) (hl : ∀ i : Int, 0 ≤ i → i < c → (i + 1 < c ↔ r (i + 1) < Q 0)) {k : z_M → z_O} {P : z_V → z_M → Prop}
    (hk : ∀ s' : z_M, (∀ l : Int, 0 ≤ l → l < c → y_LQ D E Q r l s') → s' 279 9 = y_bn D r c → y_CM D E s' s' → (∀ x y : Int, ¬ y_blw x y → s' x y = s0 x y) → z_T (k s') P) :
    ∀ (m F : Nat) (s : z_M) (l : Int), (m : Int) = c - l → m < F → 0 ≤ l → y_CM D E s s → (∀ j : Int, 0 ≤ j → j < l → y_LQ D E Q r j s) → s 279 9 = y_bn D r l → (l < c → y_bn D r l ≤ r l) → 0 ≤ y_bn D r l → (∀ x y : Int, ¬ y_blw x y → s x y = s0 x y) → z_T (fX3_build_L9 fu 258 F s l k) P := by
  have hr1 : ∀ i : Int, 0 ≤ i → i < c → r i ≤ r (i + 1) := fun i p q => by have := hr i p q; omega
  intro m
  induction m with
  | zero =>
    intro F s l h1 hF h3 cm g e9 hb hb0 f
    obtain ⟨F, rfl⟩ : ∃ F2, F = F2 + 1 := ⟨F - 1, by omega⟩
    have el : l = c := by omega
    subst el
    refine T_of (fX3_build_L9.eq_2 ..) ?_
    refine T_if1 (by decide +kernel) ?_
    refine T_let 240 (by decide +kernel) ?_
    refine T_if1 (by decide +kernel) ?_
    refine T_let l ((f 240 6 (by omega)).trans ec) ?_
    refine T_if1 (Int.le_refl _) ?_
    exact hk s (fun j p q => g j p q) e9 cm f
  | succ m ih =>
    intro F s l h1 hF h3 cm g e9 hb hb0 f
    obtain ⟨F, rfl⟩ : ∃ F2, F = F2 + 1 := ⟨F - 1, by omega⟩
    have lc : l < c := by omega
    have rl := hr l h3 lc
    have hb := hb lc
    have en2 : s 191 16 = Q 0 := (f 191 16 (by omega)).trans en
    have n2 := cm.1.1.2
    have es : s 248 l = r l := (f 248 l (by omega)).trans (er l h3 (by omega))
    have es1 : s 248 (l + 1) = r (l + 1) - 1 + 1 := ((f 248 (l + 1) (by omega)).trans (er (l + 1) (by omega) (by omega))).trans (by omega)
    have e32 : s 3 2 = Q 1 := (f 3 2 (by omega)).trans e2
    have fz := fz0.fr (s' := s) (fun p q w w2 => f p q (by omega))
    refine T_of (fX3_build_L9.eq_2 ..) ?_
    refine T_if1 (by decide +kernel) ?_
    refine T_let 240 (by decide +kernel) ?_
    refine T_if1 (by decide +kernel) ?_
    refine T_let c ((f 240 6 (by omega)).trans ec) ?_
    refine T_if0 (by omega) ?_
    refine T_if1 (by decide +kernel) ?_
    refine T_useN (e_measureLine hfu cm hE1 (ln := Q 1) ⟨h3, by omega⟩ es es1 ⟨rl.1, by omega⟩ (by omega) e32 e9 ⟨hb0, hb⟩) (fun v3 sx1 hq2 => ?_)
    obtain ⟨rfl, ⟨cc, ml1, c9⟩, tr1, cm1, f1⟩ := hq2
    refine T_vN ?_
    have ec1 : cc = y_bn D r (l + 1) := by
      have w := ml1.2.2.2.2.2.1.cnt (by omega)
      rw [show r (l + 1) - 1 + 1 = r (l + 1) by omega] at w
      rw [y_bi_s h3]; exact w
    subst ec1
    have gb : y_bn D r (l + 1) ≤ y_bn D r l + (r (l + 1) - r l) := by
      have w := y_ns_b (D := D) (a := r l) (u := r (l + 1)) (by omega)
      rw [y_bi_s h3]; omega
    have gb0 : y_bn D r l ≤ y_bn D r (l + 1) := y_bi_le hr1 1 l (l + 1) (by omega) h3 (by omega)
    have fz1 := fz.fr (s' := sx1) (fun p q w w2 => f1 p q (by omega))
    have g1 : ∀ j : Int, 0 ≤ j → j < l → y_LQ D E Q r j sx1 := fun j p q => by
      have jb := y_bi_le hr1 (l - (j + 1)).toNat (j + 1) l (by omega) (by omega) (by omega) (D := D)
      obtain ⟨w1, w2⟩ := g j p q
      exact ⟨w1.fr (fun x w => f1 x j (by omega)) (fun x k w w3 w4 => f1 x k (by omega)), fun u w3 w4 => (w2 u w3 w4).fr (fun x y w => f1 x y (by omega)) (fun x w => f1 x u (by omega)) (fun i w5 w6 => f1 268 i (by omega))⟩
    clear g
    refine T_if1 (by decide +kernel) ?_
    refine T_useN (e_placeUnits hfu cm1 hE1 (E := E) (Q := Q) fz1 tr1 (by omega) ⟨h3, by omega⟩ ((f1 248 l (by omega)).trans es) ((f1 248 (l + 1) (by omega)).trans es1) q1 q2 ((f1 3 0 (by omega)).trans ((f 3 0 (by omega)).trans e0)) ((f1 3 4 (by omega)).trans ((f 3 4 (by omega)).trans e4)) ((f1 240 6 (by omega)).trans ((f 240 6 (by omega)).trans ec)) hc (by have w := hl l h3 lc; omega) ml1 ⟨hb0, by omega⟩) (fun v7 sx5 hq6 => ?_)
    obtain ⟨rfl, ur, f2⟩ := hq6
    refine T_vN ?_
    have e5 : ∀ x : Int, sx1 195 x = s 195 x := fun x => f1 195 x (by omega)
    have e7 : ∀ x : Int, sx1 197 x = s 197 x := fun x => f1 197 x (by omega)
    refine T_let (l + 1) (v_wid (by omega)) ?_
    refine ih F sx5 (l + 1) (by omega) (by omega) (by omega) (cm1.self (fun x y w => f2 x y (by omega))) (fun j p q => ?_) ((f2 279 9 (by omega)).trans c9) (fun _ => by omega) (by omega) (fun x y w => (f2 x y (by omega)).trans ((f1 x y (by omega)).trans (f x y w)))
    by_cases zz : j = l
    · subst zz
      exact ⟨ml1.fr (fun x w => f2 x j (by omega)) (fun x k w w3 w4 => f2 x k (by omega)), fun u w3 w4 => ur u w3 (by omega)⟩
    · obtain ⟨w1, w2⟩ := g1 j p (by omega)
      refine ⟨w1.fr (fun x w => f2 x j (by omega)) (fun x k w w3 w4 => f2 x k (by omega)), fun u w3 w4 => (w2 u w3 w4).fr (fun x y w => f2 x y (by omega)) (fun x w => f2 x u ?_) (fun i w5 w6 => f2 268 i ?_)⟩
      · have rj := y_r_le hr1 (l - (j + 1)).toNat (j + 1) l (by omega) (by omega) (by omega)
        omega
      · have rj := y_r_le hr1 (l - (j + 1)).toNat (j + 1) l (by omega) (by omega) (by omega)
        have r0 := (hr j p (by omega)).1
        have d := fz1.2 u (r l) (by omega) (by omega) (by rw [f1 191 16 (by omega)]; omega)
        omega
theorem e_buildX {fu : Nat} (hfu : 8589934592 ≤ fu) {D s : z_M} {E Q nx : Int → Int} {n : Int} {c : Nat} (cm : y_CM D E s s) (hE1 : ∀ u : Int, E u = 0 ∨ E u = 1) (fz : y_FZ s) (q1 : 0 ≤ Q 1 ∧ Q 1 ≤ 6) (q2 : 0 ≤ Q 2 ∧ Q 2 ≤ 10000) (e2 : s 3 2 = Q 1) (e0 : s 3 0 = Q 2) (e4 : s 3 4 = Q 3) (en : s 191 16 = n) (eQ : Q 0 = n) (ls : y_LS2 240 s n nx c) :
    z_T (fX3_build fu s 258) (fun v s' => v = vN ∧ y_LYc D E Q s' ∧ y_CM D E s' s' ∧ ∀ x y : Int, ¬ y_blw x y → s' x y = s x y) := by
  have oo : y_ob2 279 := Or.inr rfl
  have n2 := cm.1.1
  have hr : ∀ i : Int, 0 ≤ i → i < (c : Int) → 0 ≤ s 248 i ∧ s 248 i < s 248 (i + 1) ∧ s 248 (i + 1) ≤ Q 0 := fun i p q => by
    have w := ls.at p q
    rw [eQ]
    exact ⟨w.1.1, w.1.2, w.2⟩
  have hl : ∀ i : Int, 0 ≤ i → i < (c : Int) → (i + 1 < (c : Int) ↔ s 248 (i + 1) < Q 0) := fun i p q => by
    obtain ⟨w1, w2, ⟨w3, w4, w5⟩, w6⟩ := ls
    constructor
    · intro z
      have e := w3 (i + 1).toNat (by omega)
      have l := w4 (i + 1).toNat (by omega)
      rw [← e] at l
      rw [eQ, ← show (((i + 1).toNat : Nat) : Int) = i + 1 by omega]
      exact l
    · intro z
      by_cases y : i + 1 < (c : Int)
      · exact y
      · have e := w3 c (Nat.le_refl _)
        rw [w5, show (c : Int) = i + 1 by omega] at e
        rw [eQ] at z
        have e' : s 248 (i + 1) = n := e
        omega
  have ec : s 240 6 = c := ls.1
  have cn := ls.2.1
  refine T_of (fX3_build.eq_1 ..) ?_
  refine T_if1 (by decide +kernel) ?_
  refine T_let 279 (by decide +kernel) ?_
  refine T_if1 (by decide +kernel) ?_
  refine T_bN (T_of (e_clr oo) (T_rN ?_))
  have f0 : ∀ x y : Int, ¬ (x = 279 ∧ y = 9) → z_up s 279 9 0 x y = s x y := fun x y q => z_up_k2 q
  have c9 : z_up s 279 9 0 279 9 = 0 := z_up_s
  generalize z_up s 279 9 0 = s1 at f0 c9 ⊢
  have bz : y_bn D (s 248) 0 = 0 := y_su0
  refine e_buildL (D := D) (E := E) (Q := Q) (r := s 248) (c := c) (s0 := s1) hfu hE1 (fz.fr (fun p q w w2 => f0 p q (by omega))) q1 q2 ((f0 _ _ (by decide)).trans e2) ((f0 _ _ (by decide)).trans e0) ((f0 _ _ (by decide)).trans e4) ((f0 _ _ (by decide)).trans (en.trans eQ.symm)) ((f0 _ _ (by decide)).trans ec) ⟨by omega, by omega⟩ (fun i p q => f0 248 i (by omega)) hr hl (fun s2 g g9 cm2 f2 => ?_) c fu s1 0 (by omega) (by omega) (Int.le_refl 0) (cm.self (fun x y w => f0 x y (by omega))) (fun j p q => by omega) (by rw [c9, bz]) (fun q => by rw [bz]; exact (hr 0 (Int.le_refl 0) (by omega)).1) (by rw [bz]; exact Int.le_refl 0) (fun _ _ _ => rfl)
  refine T_if1 (by decide +kernel) ?_
  refine T_let 277 (by decide +kernel) ?_
  refine T_if1 (by decide +kernel) ?_
  refine T_let 240 (by decide +kernel) ?_
  refine T_if1 (by decide +kernel) ?_
  refine T_let (c : Int) ((f2 240 6 (by omega)).trans ((f0 240 6 (by decide)).trans ec)) ?_
  refine T_if1 (by decide +kernel) ?_
  refine T_let 279 (by decide +kernel) ?_
  refine T_if1 (by decide +kernel) ?_
  refine T_let (y_bn D (s 248) c) g9 ?_
  refine T_if1 (by decide +kernel) ?_
  refine T_putG w_r277 (by omega) (fun sx9 a10 f11 => ?_)
  have f312 := f11
  have e6 : sx9 240 6 = c := (f312 240 6 (by omega)).trans ((f2 240 6 (by omega)).trans ((f0 240 6 (by decide)).trans ec))
  have e8 : sx9 248 = s 248 := funext fun i => (f312 248 i (by omega)).trans ((f2 248 i (by omega)).trans (f0 248 i (by omega)))
  refine T_ret ⟨rfl, ⟨fun l p q => ?_, ?_, ?_⟩, cm2.self (fun x y w => f312 x y (by omega)), fun x y w => (f312 x y (by omega)).trans ((f2 x y w).trans (f0 x y (by omega)))⟩
  · rw [e6] at q
    rw [e8]
    obtain ⟨w1, w2⟩ := g l p q
    exact ⟨w1.fr (fun x w => f312 x l (by omega)) (fun x k w w3 w4 => f312 x k (by omega)), fun u w3 w4 => (w2 u w3 w4).fr (fun x y w => f312 x y (by omega)) (fun x w => f312 x u (by omega)) (fun i w5 w6 => f312 268 i (by omega))⟩
  · rw [e6, e8]; exact a10
  · rw [e6, e8]; exact (f312 279 9 (by omega)).trans g9
