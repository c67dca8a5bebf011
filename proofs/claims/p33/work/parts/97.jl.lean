/-! both sides' layouts are the same -/
/-- units, LEND, LENGTH, ALIGN, the class's -/
def y_qc (s : z_M) (j : Int) : Int := if j = 0 then s 191 16 else if j = 1 then s 3 2 else if j = 2 then s 3 0 else s 3 4
theorem y_qc0 {s : z_M} : y_qc s 0 = s 191 16 := by unfold y_qc; rw [if_pos rfl]
theorem y_qc1 {s : z_M} : y_qc s 1 = s 3 2 := by unfold y_qc; rw [if_neg (by decide), if_pos rfl]
theorem y_qc2 {s : z_M} : y_qc s 2 = s 3 0 := by unfold y_qc; rw [if_neg (by decide), if_neg (by decide), if_pos rfl]
theorem y_qc3 {s : z_M} : y_qc s 3 = s 3 4 := by unfold y_qc; rw [if_neg (by decide), if_neg (by decide), if_neg (by decide)]
def y_LSc (D s : z_M) (nx : Int → Int) (c : Nat) : Prop := y_NX (fun a b => y_LG D a b (s 3 2)) (y_cl2 (y_me D (s 3 7) (s 191 16)) (s 191 16)) (s 191 16) (s 3 0) (s 3 3) nx ∧ (c : Int) ≤ s 191 16 ∧ s 240 6 = c ∧ y_LR nx (s 248) (s 191 16) c
def y_LBc (D s : z_M) : Prop := ∃ (nx : Int → Int) (c : Nat), y_LSc D s nx c ∧ y_LYc D (y_me D (s 3 7) (s 191 16)) (y_qc s) s
/-- each unit is in a line -/
theorem y_LR.ln {nx r : Int → Int} {n : Int} {c : Nat} (h : y_LR nx r n c) {u : Int} (h0 : 0 ≤ u) (h1 : u < n) : ∃ l : Int, 0 ≤ l ∧ l < c ∧ r l ≤ u ∧ u < r (l + 1) := by
  have go : ∀ m : Nat, m ≤ c → u < y_it nx m → ∃ l : Int, 0 ≤ l ∧ l < m ∧ r l ≤ u ∧ u < r (l + 1) := by
    intro m
    induction m with
    | zero => intro _ q; exact absurd h0 (by have e : y_it nx 0 = 0 := rfl; omega)
    | succ m ih =>
      intro p q
      by_cases z : u < y_it nx m
      · obtain ⟨l, a, b, e⟩ := ih (by omega) z
        exact ⟨l, a, by omega, e⟩
      · have e1 := h.1 m (by omega)
        have e2 := h.1 (m + 1) p
        rw [show ((m + 1 : Nat) : Int) = (m : Int) + 1 by omega] at e2
        exact ⟨m, by omega, by omega, by rw [e1]; omega, by rw [e2]; exact q⟩
  obtain ⟨l, a, b, e⟩ := go c (Nat.le_refl _) (by rw [h.2.2]; exact h1)
  exact ⟨l, a, b, e⟩
theorem y_bi_cg {D : z_M} {r r' : Int → Int} {l : Int} (h : ∀ i : Int, 0 ≤ i → i ≤ l → r i = r' i) : y_bn D r l = y_bn D r' l := y_su_cg (fun i p q => by rw [h i p (by omega), h (i + 1) (by omega) (by omega)])
/-- a sign's place in its unit is the same -/
theorem y_BT.sg {g s : z_M} (b : y_BT g s) {u i : Int} (h0 : 0 ≤ u) (h1 : u < s 309 20) (i1 : i < s 3221 u + s 3222 u) : y_sg2 g u i = y_sm2 s u i := by
  obtain ⟨U, X, p, c, _, st⟩ := b
  have n0 := y_n0 c
  obtain ⟨e1, e2, e3⟩ := X.1.EU U.2.1 p
  obtain ⟨x1, x2, x3⟩ := e2 u h0 h1
  have mr := (U.2.2 (X.tok n0.1)).1 u h0 (by omega)
  have BS := X.1.BS X.2.2 rfl
  have ea : y_ac g u = y_am s u := by
    unfold y_ac y_am
    rw [x3, x2, st, st]
  unfold y_sg2 y_sm2
  rw [ea]
  by_cases a : y_am s u = 0
  · rw [if_pos a, if_pos a, x1]
    refine y_su_cg (fun j q r => ?_)
    have w := p.in0 h0 h1 q (by omega)
    have v := p.of0 BS w.1 w.2.1
    rw [w.2.2] at v
    have m := (mr.2.2.2.2 j (by rw [x1]; exact q) (by rw [x1, x2]; omega)).1
    rw [m, ea, x3, v.2.2.2.1]
    unfold y_one1
    rw [if_pos a]
    exact y_sl_lm X w.1 w.2.1 (fun _ => by rw [w.2.2]; exact a)
  · rw [if_neg a, if_neg a]
theorem y_lm_4 {s : z_M} {i : Int} : 4 ≤ y_lm s i := by
  unfold y_lm y_wi
  repeat (first | split | decide)
/-- units have a width -/
theorem y_BT.w1 {g s : z_M} (b : y_BT g s) {u : Int} (h0 : 0 ≤ u) (h1 : u < s 309 20) : 1 ≤ y_dm s 1 u := by
  rw [y_dm1 ⟨h0, h1⟩]
  obtain ⟨U, X, p, c, cg, st⟩ := b
  have w := p.un h0 h1
  unfold y_wm
  by_cases a : y_am s u = 0
  · rw [if_pos a]
    have e := y_sum_pt (f := y_lm s) (a := s 3221 u) (x := s 3221 u + 1) (y := s 3221 u + s 3222 u) (by omega) (by omega)
    have r := y_sum_r (f := y_lm s) (a := s 3221 u + 1) (m := 12) (s 3221 u + s 3222 u - (s 3221 u + 1)).toNat (fun i _ _ => y_lm_b)
    have o : y_sum (y_lm s) (s 3221 u) (s 3221 u + 1 - s 3221 u).toNat = y_lm s (s 3221 u) := by
      rw [show (s 3221 u + 1 - s 3221 u).toNat = 0 + 1 by omega, y_sum_s]
      show 0 + y_lm s (s 3221 u + ((0 : Nat) : Int)) = y_lm s (s 3221 u)
      rw [show s 3221 u + ((0 : Nat) : Int) = s 3221 u by omega, Int.zero_add]
    have l4 := y_lm_4 (s := s) (i := s 3221 u)
    rw [show (s 3222 u).toNat = (s 3221 u + s 3222 u - s 3221 u).toNat by omega]
    omega
  · rw [if_neg a]; decide
/-- where the class's signs lie -/
theorem y_U2.FZ {g : z_M} (u : y_U2 g) (t : y_TOK g) (n : 0 ≤ g 6 6 ∧ g 6 6 ≤ 200) : y_FZ g := by
  have pt := (u.2.1.2 t).2
  refine ⟨fun v p q => ?_, fun v w p q r => (y_PT_pos pt y_sC_01 p (by omega)).2.2.2 w q r⟩
  obtain ⟨a1, a2, a3, _⟩ := y_PT_pos pt y_sC_01 p q
  refine ⟨a1, a2, by omega, fun i x y => ?_⟩
  rw [(((u.2.2 t).1 v p q).2.2.2.2 i x y).1]
  exact y_one1_b
theorem y_BT.FM {g s : z_M} (b : y_BT g s) : y_FM s := by
  obtain ⟨U, X, p, c, cg, st⟩ := b
  have n0 := y_n0 c
  obtain ⟨e1, e2, _⟩ := X.1.EU U.2.1 p
  have pt := (U.2.1.2 (X.tok n0.1)).2
  intro v w a q r
  have h := (y_PT_pos pt y_sC_01 a (by omega)).2.2.2 w q (by omega)
  obtain ⟨x1, x2, _⟩ := e2 v a (by omega)
  obtain ⟨z1, _, _⟩ := e2 w (by omega) r
  rw [x1, x2, z1] at h
  exact h
theorem y_BT.Q {g s : z_M} (b : y_BT g s) : y_qc g = y_qm s := funext fun j => by
  unfold y_qc y_qm
  rw [b.n, b.2.2.2.2.2 2, b.2.2.2.2.2 0, b.2.2.2.2.2 4]
/-- all rows of the layouts -/
def y_LEq (g s : z_M) : Prop := (g 240 6 = s 309 44 ∧ (0 ≤ g 240 6 ∧ g 240 6 ≤ 200) ∧ (∀ l : Int, 0 ≤ l → l ≤ g 240 6 → g 248 l = s 3438 l) ∧ ∀ l : Int, 0 ≤ l → l < g 240 6 → 0 ≤ s 3438 l ∧ s 3438 l < s 3438 (l + 1) ∧ s 3438 (l + 1) ≤ s 309 20) ∧
  (∀ l : Int, 0 ≤ l → l < g 240 6 → g 270 l = s 3446 l ∧ g 272 l = s 3447 l ∧ g 274 l = s 3449 l ∧ g 276 l = s 3450 l ∧ g 278 (l + 1) - g 278 l = s 3448 l ∧ g 278 l = y_bn (y_dm s) (s 3438) l ∧ g 278 (l + 1) = y_bn (y_dm s) (s 3438) (l + 1)) ∧
  (∀ u : Int, 0 ≤ u → u < s 309 20 → (g 260 u = s 3441 u ∧ g 262 u = s 3442 u ∧ g 264 u = s 3445 u ∧ g 266 u = s 3444 u) ∧ (0 ≤ s 3441 u ∧ s 3441 u < g 240 6) ∧ s 3438 (s 3441 u) ≤ u ∧ u < s 3438 (s 3441 u + 1)) ∧
  (∀ i : Int, 0 ≤ i → i < s 316 0 → g 268 i = s 3443 i) ∧
  (g 279 9 = s 309 58 ∧ (0 ≤ g 279 9 ∧ g 279 9 ≤ 200) ∧ ∀ k : Int, 0 ≤ k → k < g 279 9 → (0 ≤ g 281 k ∧ g 281 k ≤ g 283 k ∧ g 283 k < s 309 20) ∧ (0 ≤ g 287 k ∧ g 287 k ≤ 18000) ∧ g 281 k = s (3452 + k) 0 ∧ g 283 k - g 281 k + 1 = s (3452 + k) 1 ∧ g 285 k = s (3452 + k) 2 ∧ g 287 k = s (3452 + k) 3 ∧ g 289 k = s (3452 + k) 4 ∧ g 291 k = s (3452 + k) 5 ∧ g 287 k / 2 - g 289 k = s (3452 + k) 6 ∧ g 287 k - g 287 k / 2 - g 291 k = s (3452 + k) 7 ∧
    g 293 k = y_sum (y_dm s 3) (g 281 k) (g 283 k - g 281 k + 1).toNat ∧ g 295 k = y_sum (y_dm s 4) (g 281 k) (g 283 k - g 281 k + 1).toNat ∧ (∀ v : Int, g 281 k ≤ v → v ≤ g 283 k → y_dm s 0 v = 7 ∧ s 3441 v = s 3441 (g 281 k)) ∧ (y_bn (y_dm s) (s 3438) (s 3441 (g 281 k)) ≤ k ∧ k < y_bn (y_dm s) (s 3438) (s 3441 (g 281 k) + 1)))
/-- block k of all lines: the line, the unit that it begins at -/
theorem y_bi_hit {D : z_M} {r : Int → Int} {c n : Int} (hr : ∀ i : Int, 0 ≤ i → i < c → 0 ≤ r i ∧ r i < r (i + 1) ∧ r (i + 1) ≤ n) (hc : 0 ≤ c) {k : Int} (h0 : 0 ≤ k) (h1 : k < y_bn D r c) : ∃ l u : Int, (0 ≤ l ∧ l < c) ∧ (r l ≤ u ∧ u < r (l + 1)) ∧ y_sa D (r l) u ∧ k = y_bn D r l + y_ns D (r l) u := by
  have key : ∃ l : Int, 0 ≤ l ∧ l < c ∧ y_bn D r l ≤ k ∧ k < y_bn D r (l + 1) := by
    have go : ∀ m : Nat, (m : Int) ≤ c → k < y_bn D r m → ∃ l : Int, 0 ≤ l ∧ l < m ∧ y_bn D r l ≤ k ∧ k < y_bn D r (l + 1) := by
      intro m
      induction m with
      | zero => intro _ q; have e : y_bn D r ((0 : Nat) : Int) = 0 := y_su0; omega
      | succ m ih =>
        intro p q
        by_cases z : k < y_bn D r m
        · obtain ⟨l, a, b, e⟩ := ih (by omega) z
          exact ⟨l, a, by omega, e⟩
        · rw [show ((m + 1 : Nat) : Int) = (m : Int) + 1 by omega] at q
          exact ⟨m, by omega, by omega, by omega, q⟩
    obtain ⟨l, a, b, e⟩ := go c.toNat (by omega) (by rw [show ((c.toNat : Nat) : Int) = c by omega]; exact h1)
    exact ⟨l, a, by omega, e⟩
  obtain ⟨l, l0, l1, k0, k1⟩ := key
  have rl := hr l l0 l1
  have bs := y_bi_s (D := D) (r := r) l0
  obtain ⟨u, u0, u1, n0, n1⟩ := y_su_hit (f := y_sdd D (r l)) (a := r l) (fun i => by rcases y_sd01 (D := D) (a := r l) (v := i) with q | q <;> omega) (r (l + 1) - r l).toNat (r (l + 1)) (k - y_bn D r l) (by omega) (by omega) (by
    have e : y_ns D (r l) (r (l + 1)) = y_su (y_sdd D (r l)) (r l) (r (l + 1)) := rfl
    omega)
  have ss := y_suS (f := y_sdd D (r l)) u0
  have e : y_ns D (r l) u = y_su (y_sdd D (r l)) (r l) u := rfl
  rcases y_sd01 (D := D) (a := r l) (v := u) with q | q
  · exact ⟨l, u, ⟨l0, l1⟩, ⟨u0, u1⟩, q.2, by omega⟩
  · omega
theorem y_LBx {g s : z_M} (b : y_BT g s) (lc : y_LBc (y_dc g) g) (lm : y_LBm (y_dm s) s) : y_LEq g s := by
  have eD := b.D
  have eQ := b.Q
  have en := b.n
  have st := b.2.2.2.2.2
  have sgn := fun u i h0 h1 i1 => b.sg (u := u) (i := i) h0 h1 i1
  have dd := b.DF
  obtain ⟨U, X, p, c, cg, _⟩ := b
  have n0 := y_n0 c
  have BS := X.1.BS X.2.2 rfl
  have eu := (X.1.EU U.2.1 p).2.1
  have nn := dd.2.1
  obtain ⟨nx, cc, ⟨hx, hc, h6, hr⟩, ly, l278, l279⟩ := lc
  obtain ⟨nx', cc', ⟨hx', hc', h6', hr'⟩, ly', l58⟩ := lm
  rw [eD, en, st 2, st 7, st 0, st 3] at hx
  rw [en] at hr hc
  obtain ⟨ecc, er⟩ := hx.cnt hx' hr hr'
  subst ecc
  rw [eD, en, st 7, eQ] at ly
  have at' : ∀ i : Int, 0 ≤ i → i < (cc : Int) → 0 ≤ s 3438 i ∧ s 3438 i < s 3438 (i + 1) ∧ s 3438 (i + 1) ≤ s 309 20 := fun i p q => hr'.SV hx'.b p q
  have er2 : ∀ l : Int, 0 ≤ l → l ≤ (cc : Int) → g 248 l = s 3438 l := fun l p q => by
    have w := er l.toNat (by omega)
    rw [show ((l.toNat : Nat) : Int) = l by omega] at w
    exact w
  have ebi : ∀ l : Int, 0 ≤ l → l ≤ (cc : Int) → y_bn (y_dm s) (g 248) l = y_bn (y_dm s) (s 3438) l := fun l _ q => y_bi_cg (fun i a e => er2 i a (by omega))
  have lyl : ∀ l : Int, 0 ≤ l → l < (cc : Int) → y_ML (y_dm s) (y_me (y_dm s) (s 312 7) (s 309 20)) (y_qm s 1) l (s 3438 l) (s 3438 (l + 1) - 1) (y_bn (y_dm s) (s 3438) l) (y_bn (y_dm s) (s 3438) (l + 1)) g ∧ ∀ u : Int, s 3438 l ≤ u → u < s 3438 (l + 1) → y_UW (y_dm s) (y_me (y_dm s) (s 312 7) (s 309 20)) (y_qm s) g l (s 3438 l) (s 3438 (l + 1) - 1) u := fun l p q => by
    have w := ly l p (by rw [h6]; exact q)
    unfold y_LQ at w
    rw [er2 l p (by omega), er2 (l + 1) (by omega) (by omega), ebi l p (by omega), ebi (l + 1) (by omega) (by omega)] at w
    exact w
  have lml : ∀ l : Int, 0 ≤ l → l < (cc : Int) → y_LMl (y_dm s) (y_me (y_dm s) (s 312 7) (s 309 20)) (y_qm s) s l (s 3438 l) (s 3438 (l + 1) - 1) (y_bn (y_dm s) (s 3438) l) := fun l p q => ly' l p (by rw [h6']; exact q)
  have lu : ∀ u : Int, 0 ≤ u → u < s 309 20 → ∃ l : Int, 0 ≤ l ∧ l < (cc : Int) ∧ s 3438 l ≤ u ∧ u < s 3438 (l + 1) := fun u p q => hr'.ln p q
  have k278 : ∀ l : Int, 0 ≤ l → l ≤ (cc : Int) → g 278 l = y_bn (y_dm s) (s 3438) l := fun l p q => by
    by_cases z : l < (cc : Int)
    · exact (lyl l p z).1.2.2.2.2.1
    · have e : l = (cc : Int) := by omega
      rw [e, ← h6, l278, eD, h6]
      exact ebi cc (by omega) (Int.le_refl _)
  have k44 : g 240 6 = s 309 44 := h6.trans h6'.symm
  refine ⟨⟨k44, by rw [h6]; omega, fun l p q => er2 l p (by rw [← h6]; exact q), fun l p q => at' l p (by rw [← h6]; exact q)⟩, fun l p q => ?_, fun u p q => ?_, fun i a0 q => ?_, ?_⟩
  · rw [h6] at q
    obtain ⟨⟨a1, a2, a3, a4, a5, _, _⟩, _⟩ := lyl l p q
    obtain ⟨⟨m1, m2, m3, m4, m5⟩, _⟩ := lml l p q
    have bs := y_bi_s (D := y_dm s) (r := s 3438) p
    have e1 := k278 (l + 1) (by omega) (by omega)
    rw [show s 3438 (l + 1) - 1 + 1 = s 3438 (l + 1) by omega] at m3
    exact ⟨a1.trans m1.symm, a2.trans m2.symm, a3.trans m4.symm, a4.trans m5.symm, by rw [e1, a5, m3]; omega, a5, e1⟩
  · obtain ⟨l, l0, l1, u0, u1⟩ := lu u p q
    obtain ⟨a1, a2, a3, a4, _⟩ := (lyl l l0 l1).2 u u0 u1
    obtain ⟨m1, m2, m3, m4, _⟩ := ((lml l l0 l1).2 u u0 (by omega)).1
    refine ⟨⟨a1.trans m1.symm, a2.trans m2.symm, a3.trans m3.symm, a4.trans m4.symm⟩, ?_⟩
    rw [m1, h6]
    exact ⟨⟨l0, l1⟩, u0, u1⟩
  · have v := p.of0 BS a0 q
    obtain ⟨⟨v0, v1⟩, v2, v3, _⟩ := v
    obtain ⟨l, l0, l1, u0, u1⟩ := lu _ v0 v1
    obtain ⟨_, _, _, _, a5⟩ := (lyl l l0 l1).2 _ u0 u1
    obtain ⟨_, _, _, _, m5⟩ := ((lml l l0 l1).2 _ u0 (by omega)).1
    obtain ⟨x1, x2, _⟩ := eu _ v0 v1
    rw [a5 i (by rw [x1]; exact v2) (by rw [x1, x2]; exact v3), m5 i v2 v3, sgn _ i v0 v1 v3]
  · have e58 : g 279 9 = s 309 58 := by
      rw [l279, l58, eD, h6, h6']
      exact ebi cc (by omega) (Int.le_refl _)
    have kb := y_bi_r (D := y_dm s) at' cc cc rfl (Int.le_refl _)
    have k9 : g 279 9 = y_bn (y_dm s) (s 3438) cc := by rw [e58, l58, h6']
    refine ⟨e58, ?_, fun k p2 q => ?_⟩
    · rw [k9]
      by_cases z : 0 < (cc : Int)
      · have w := kb.2 z
        have e := (hr'.1 cc (Nat.le_refl _)).trans hr'.2.2
        omega
      · have e0 : (cc : Int) = 0 := by omega
        rw [e0]
        have w : y_bn (y_dm s) (s 3438) 0 = 0 := y_su0
        omega
    rw [k9] at q
    obtain ⟨l, u, ⟨l0, l1⟩, ⟨u0, u1⟩, sa, ek⟩ := y_bi_hit (D := y_dm s) at' (by omega) p2 q
    obtain ⟨a6, ur⟩ := lyl l l0 l1
    obtain ⟨_, _, _, _, _, gi, hb⟩ := a6
    have rl := at' l l0 l1
    have ga := gi.at (by omega) ⟨u0, by omega⟩ sa
    rw [← ek] at ga
    obtain ⟨g0, g1, g2⟩ := ga
    have g1 : g 281 k = u := g1
    have g2 : g 283 k = y_e (y_dm s) (s 3438 l) (s 3438 (l + 1) - 1) u := g2
    have bw := ((lml l l0 l1).2 u u0 (by omega)).2 sa
    rw [← ek] at bw
    obtain ⟨w0, w1, w2, w3, w4, w5, w6, w7⟩ := bw
    have nsb := y_ns_b (D := y_dm s) u0
    have bi0 := (y_bi_r (D := y_dm s) at' l.toNat l (by omega) (by omega)).1
    have hk : y_bn (y_dm s) (s 3438) l ≤ k ∧ k < y_bn (y_dm s) (s 3438) (l + 1) := ⟨by omega, g0⟩
    obtain ⟨bl0, br⟩ := gi.2.1 k hk.1 hk.2
    have bl := bl0.up (by omega)
    have qb := hb k hk.1 hk.2
    obtain ⟨_, _, r6, r14, r16, r8⟩ := br
    have g1' : g (279 + 2) k = u := g1
    have g2' : g (279 + 4) k = y_e (y_dm s) (s 3438 l) (s 3438 (l + 1) - 1) u := g2
    rw [g1', g2'] at bl r6 r14 r16 r8
    rw [g1', g2'] at qb
    have r6 : g 285 k = y_sum (y_dm s 1) u (y_e (y_dm s) (s 3438 l) (s 3438 (l + 1) - 1) u - u + 1).toNat := r6
    have r14 : g 293 k = y_sum (y_dm s 3) u (y_e (y_dm s) (s 3438 l) (s 3438 (l + 1) - 1) u - u + 1).toNat := r14
    have r16 : g 295 k = y_sum (y_dm s 4) u (y_e (y_dm s) (s 3438 l) (s 3438 (l + 1) - 1) u - u + 1).toNat := r16
    have r8 : g 287 k = y_BO (y_dm s) u (y_e (y_dm s) (s 3438 l) (s 3438 (l + 1) - 1) u) := r8
    have qb : g 289 k = g 287 k / 2 - y_pA (y_dm s) (s 3438 l) (s 3438 (l + 1) - 1) (y_qm s 1) u ∧ g 291 k = g 287 k - g 287 k / 2 - y_pB (y_dm s) (s 3438 l) (s 3438 (l + 1) - 1) (y_qm s 1) (y_e (y_dm s) (s 3438 l) (s 3438 (l + 1) - 1) u) := qb
    have ov := bl.ov
    have wa := bl.wa (Int.le_refl _) bl.2.1
    have wb := bl.wb bl.2.1 (Int.le_refl _)
    rw [if_pos rfl] at wa wb
    have e1 := bl.2.1
    have e2 := bl.2.2.1
    have lo : ∀ v : Int, s 3438 l ≤ v → v < s 3438 (l + 1) → s 3441 v = l := fun v a e => ((lml l l0 l1).2 v a (by omega)).1.1
    have lu0 := lo u u0 u1
    rw [g1, g2]
    have bo := y_BO_b (n := s 309 20) dd.1 bl (by omega) (by omega) nn.2
    refine ⟨⟨by omega, e1, by omega⟩, by rw [r8]; exact ⟨bo.2.1, bo.2.2⟩, w0.symm, w1.symm, r6.trans w2.symm, by rw [r8, w3, ov], by rw [qb.1, r8, w4, wa], by rw [qb.2, r8, w5, wb], by rw [qb.1, w6]; omega, by rw [qb.2, w7]; omega, r14, r16, fun v a e => ⟨bl.k a e, by rw [lo v (by omega) (by omega), lu0]⟩, by rw [lu0]; exact hk⟩
