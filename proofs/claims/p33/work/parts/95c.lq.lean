/-! the class's layout: the units of a line are placed; all lines -/
theorem w_r280 : z_rw 280 ∧ z_gr 280 0 = 281 ∧ z_ln 280 = 200 := by decide +kernel
theorem w_r282 : z_rw 282 ∧ z_gr 282 0 = 283 ∧ z_ln 282 = 200 := by decide +kernel
theorem w_r286 : z_rw 286 ∧ z_gr 286 0 = 287 ∧ z_ln 286 = 200 := by decide +kernel
theorem w_r288 : z_rw 288 ∧ z_gr 288 0 = 289 ∧ z_ln 288 = 200 := by decide +kernel
theorem w_r290 : z_rw 290 ∧ z_gr 290 0 = 291 ∧ z_ln 290 = 200 := by decide +kernel
theorem y_cu_s {D : z_M} {E Q : Int → Int} {a b u : Int} (h : a ≤ u) : y_cu D E Q a b (u + 1) = y_pl D E Q a b u + y_w D a b u + y_sB D a b u + y_pB D a b (Q 1) u + y_xv D E Q a b u := by
  have e := y_suS (f := y_s2t D E Q a b) h
  unfold y_pl y_cu
  rw [e]
  unfold y_s2t y_one2
  omega
theorem y_wb_n2 {D : z_M} {a b u : Int} (h : u < b ∧ y_ct D a (u + 1)) : y_wb D a b u = 0 := by
  unfold y_wb; rw [if_neg (fun q => q.2 h)]
theorem y_wa_n2 {D : z_M} {a b u : Int} (h : ¬ y_sa D a u) : y_wa D a b u = 0 := by
  unfold y_wa; rw [if_neg h]
theorem e_padAhead {fu : Nat} {s : z_M} {k : Int} (hk : 0 ≤ k ∧ k < 200) (b1 : 0 ≤ s 287 k ∧ s 287 k ≤ 100000) (b2 : -100000 ≤ s 289 k ∧ s 289 k ≤ 100000) : fX0_padAhead fu s 279 k = some (vI (s 287 k / 2 - s 289 k), s) := by
  have td := v_td2 b1.1
  refine T_eq ?_
  refine T_of (fX0_padAhead.eq_1 ..) ?_
  refine T_if1 (by decide +kernel) ?_
  refine T_let 286 (by decide +kernel) ?_
  refine T_if1 (by decide +kernel) ?_
  refine T_getV w_r286 (by omega) rfl ?_
  refine T_if1 (by omega) ?_
  refine T_let ((s 287 k) / 2) (by rw [td]; exact v_wid (by omega)) ?_
  refine T_if1 (by decide +kernel) ?_
  refine T_let 288 (by decide +kernel) ?_
  refine T_if1 (by decide +kernel) ?_
  refine T_getV w_r288 (by omega) rfl ?_
  refine T_let (((s 287 k) / 2) - (s 289 k)) (v_wid (by omega)) ?_
  exact T_ret ⟨rfl, rfl⟩
theorem e_padBehind {fu : Nat} {s : z_M} {k : Int} (hk : 0 ≤ k ∧ k < 200) (b1 : 0 ≤ s 287 k ∧ s 287 k ≤ 100000) (b2 : -100000 ≤ s 291 k ∧ s 291 k ≤ 100000) : fX0_padBehind fu s 279 k = some (vI (s 287 k - s 287 k / 2 - s 291 k), s) := by
  have td := v_td2 b1.1
  refine T_eq ?_
  refine T_of (fX0_padBehind.eq_1 ..) ?_
  refine T_if1 (by decide +kernel) ?_
  refine T_let 286 (by decide +kernel) ?_
  refine T_if1 (by decide +kernel) ?_
  refine T_getV w_r286 (by omega) rfl ?_
  refine T_if1 (by decide +kernel) ?_
  refine T_let 286 (by decide +kernel) ?_
  refine T_if1 (by decide +kernel) ?_
  refine T_getV w_r286 (by omega) rfl ?_
  refine T_if1 (by omega) ?_
  refine T_let ((s 287 k) / 2) (by rw [td]; exact v_wid (by omega)) ?_
  refine T_let ((s 287 k) - ((s 287 k) / 2)) (v_wid (by omega)) ?_
  refine T_if1 (by decide +kernel) ?_
  refine T_let 290 (by decide +kernel) ?_
  refine T_if1 (by decide +kernel) ?_
  refine T_getV w_r290 (by omega) rfl ?_
  refine T_let (((s 287 k) - ((s 287 k) / 2)) - (s 291 k)) (v_wid (by omega)) ?_
  exact T_ret ⟨rfl, rfl⟩
/-- pads of a block, by its rows -/
theorem y_HB.pads {D s : z_M} {n A B ln c0 c k : Int} (g : y_GI D s 279 (y_fr D A B) (y_to D A B) c0 c) (hb : y_HB D s 279 A B ln c0 c) (d : y_DF D n) (hA : 0 ≤ A ∧ A ≤ B + 1) (hB : B < n) (hn : n ≤ 200) (hl : 0 ≤ ln ∧ ln ≤ 6) (h : c0 ≤ k ∧ k < c) :
    ((0 ≤ s 287 k ∧ s 287 k ≤ 100000) ∧ (-100000 ≤ s 289 k ∧ s 289 k ≤ 100000) ∧ (-100000 ≤ s 291 k ∧ s 291 k ≤ 100000)) ∧ s 287 k / 2 - s 289 k = y_pA D A B ln (s 281 k) ∧ s 287 k - s 287 k / 2 - s 291 k = y_pB D A B ln (s 283 k) := by
  obtain ⟨bl0, br⟩ := g.2.1 k h.1 h.2
  have bl := bl0.up hA.2
  have q : s 289 k = s 287 k / 2 - y_pA D A B ln (s 281 k) ∧ s 291 k = s 287 k - s 287 k / 2 - y_pB D A B ln (s 283 k) := hb k h.1 h.2
  have e8 : s 287 k = y_BO D (s 281 k) (s 283 k) := br.2.2.2.2.2
  have bo := y_BO_b d bl hA.1 hB hn
  have b1 : A ≤ s 281 k := bl.1
  have b2 : s 281 k ≤ s 283 k := bl.2.1
  have b3 : s 283 k ≤ B := bl.2.2.1
  have p1 := y_pAB_r (ln := ln) d hA.1 hB hn (u := s 281 k) ⟨b1, by omega⟩ hl
  have p2 := y_pAB_r (ln := ln) d hA.1 hB hn (u := s 283 k) ⟨by omega, b3⟩ hl
  have bo2 : 0 ≤ s 287 k ∧ s 287 k ≤ 18000 := by rw [e8]; exact ⟨bo.2.1, bo.2.2⟩
  omega
/-- a unit of a line is placed: what stands then -/
theorem e_pu184 {fu : Nat} (hfu : 8589934592 ≤ fu) {D s : z_M} {E Q : Int → Int} (cm : y_CM D E s s) (hE1 : ∀ u : Int, E u = 0 ∨ E u = 1) (fz : y_FZ s) {l a b u c0 c each lg bk fl sp x y : Int} (tr : y_TR D s a b) (hl : 0 ≤ l ∧ l < 200) (hu : a ≤ u ∧ u ≤ b) (q1 : 0 ≤ Q 1 ∧ Q 1 ≤ 6) (q2 : 0 ≤ Q 2 ∧ Q 2 ≤ 10000)
    (gi : y_GI D s 279 (y_fr D a b) (y_to D a b) c0 c) (hb : y_HB D s 279 a b (Q 1) c0 c) (hc0 : 0 ≤ c0 ∧ c ≤ 200) {r : z_M → Int → Int → Int → Int → z_O} {k : z_M → z_O} {P : z_V → z_M → Prop}
    (hfl : (fl = 1 ∧ D 0 u = 7) ∨ (fl = 0 ∧ D 0 u ≠ 7)) (hbk : bk = c0 + y_kb D a u) (hsp : sp = y_sA D a b u) (hxy : x + y = y_pl D E Q a b u)
    (he : y_gq D E a b u = 1 → each = y_rs D Q a b / y_gn D E a b (b + 1) ∧ lg = y_rs D Q a b % y_gn D E a b (b + 1) - y_gn D E a b u) (be : 0 ≤ each ∧ each ≤ 10000) (bl : -1000 ≤ lg ∧ lg ≤ 100000)
    (hr : ∀ (s' : z_M) (lg' bk' : Int), lg' = lg - y_gq D E a b u → bk' = bk + (if D 0 u = 7 ∧ ¬ (u < b ∧ y_ct D a (u + 1)) then 1 else 0) → y_UW D E Q s' l a b u → (∀ p q : Int, ¬ (((p = 260 ∨ p = 262 ∨ p = 264 ∨ p = 266) ∧ q = u) ∨ (p = 268 ∧ s 195 u ≤ q ∧ q < s 195 u + s 197 u)) → s' p q = s p q) → z_T (r s' lg' bk' (y_cu D E Q a b (u + 1)) (u + 1)) P) :
    z_T (fX3_placeUnits_J184 fu s 258 l each lg bk u fl sp x y r k) P := by
  have n2 := cm.1.1.2
  have l2 := tr.2.2.1
  have hD := cm.1.2.2.2.2
  have plb := y_pl_b (E := E) hD l2.1 l2.2.2 n2 q1 q2.2 hu
  have cub := y_cu_b (E := E) hD l2.1 l2.2.2 n2 q1 q2.2 (u := u + 1) ⟨by omega, by omega⟩
  have cus := y_cu_s (D := D) (E := E) (Q := Q) (b := b) hu.1
  have wb := y_w_b hD (a := a) (b := b) (u := u) ⟨by omega, by omega⟩
  have sb := y_sAB_b (D := D) (a := a) (b := b) (u := u)
  have pb := y_pAB_r (ln := Q 1) hD l2.1 l2.2.2 n2 hu q1
  have lgb := y_LG_b hD l2.1 l2.2.2 n2 q1
  have xb := y_xv_b (D := D) (E := E) (Q := Q) (a := a) (b := b) (u := u) q2.2 lgb.1 hu
  refine T_of (fX3_placeUnits_J184.eq_1 ..) ?_
  refine T_let (y_pl D E Q a b u) (by rw [v_wid (by omega)]; exact hxy) ?_
  refine T_if1 (by decide +kernel) ?_
  refine T_useN (e_placeUnit hfu cm fz tr hl hu (x := y_pl D E Q a b u) ⟨plb.1, by omega⟩) (fun v3 sx1 hq2 => ?_)
  obtain ⟨rfl, ⟨u1, u2, u3, u4, u5⟩, fu2⟩ := hq2
  refine T_vN ?_
  have f4 : ∀ p q : Int, ¬ (((p = 260 ∨ p = 262 ∨ p = 264 ∨ p = 266) ∧ q = u) ∨ (p = 268 ∧ s 195 u ≤ q ∧ q < s 195 u + s 197 u)) → sx1 p q = s p q := fun p q w => fu2 p q (fun z => w (Or.inl z)) (fun z => w (Or.inr z))
  clear fu2
  have cm5 := cm.self (fun p q w => f4 p q (by omega))
  have tr6 := tr.fr (f4 _ _ (by omega)) (f4 _ _ (by omega)) (f4 _ _ (by omega))
  have gi7 := gi.fr (fun p q w _ => f4 p q (by omega))
  have hb8 := hb.fr (fun p q w _ _ => f4 p q (by omega))
  have ur : y_UW D E Q sx1 l a b u := ⟨u1, u2, u3, u4, fun i p q => by
    rw [f4 195 u (by omega)] at p q
    rw [f4 197 u (by omega)] at q
    rw [u5 i p q, y_sg2_fr (s := s) (s' := sx1) (fun x y w => f4 x y (by omega))]⟩
  clear u1 u2 u3 u4 u5
  refine T_if1 (by decide +kernel) ?_
  refine T_let 220 (by decide +kernel) ?_
  refine T_if1 (by decide +kernel) ?_
  refine T_bI (T_of (e_widthOf cm5.1 tr6 hu) (T_rI ?_))
  refine T_if1 (by decide +kernel) ?_
  refine T_let 220 (by decide +kernel) ?_
  refine T_if1 (by decide +kernel) ?_
  refine T_bI (T_of (e_spaceOfL cm5.1 tr6 hu) (T_rI ?_))
  refine T_let ((y_w D a b u) + (y_sA D a b u + y_sB D a b u)) (v_wid (by omega)) ?_
  refine T_let (((y_w D a b u) + (y_sA D a b u + y_sB D a b u)) - sp) (v_wid (by omega)) ?_
  refine T_let (y_pl D E Q a b u + y_w D a b u + y_sB D a b u) (by rw [v_wid (by omega)]; omega) ?_
  refine T_ite (fun hq0 => ?_) (fun hq0 => ?_)
  · have k7 : D 0 u ≠ 7 := by omega
    have pz : y_pB D a b (Q 1) u = 0 := y_pB_n (y_wb_n k7)
    refine e_pu262 (E := E) (Q := Q) cm5.1 cm5.2.2.2.1 hE1 tr6 hu (C := y_pl D E Q a b u + y_w D a b u + y_sB D a b u) he (by omega) (by omega) be bl (fun lg2 hl2 => hr _ lg2 _ hl2 (by rw [if_neg (fun w => k7 w.1)]; omega) ur f4)
  · have k7 : D 0 u = 7 := by omega
    obtain ⟨kb1, kb2, kb3⟩ := gi7.kb l2.2.1 hu k7
    rw [← hbk] at kb1 kb2 kb3
    rw [show (279 : Int) + 4 = 283 by decide] at kb3
    refine T_if1 (by decide +kernel) ?_
    refine T_let 279 (by decide +kernel) ?_
    refine T_if1 (by decide +kernel) ?_
    refine T_let 282 (by decide +kernel) ?_
    refine T_if1 (by decide +kernel) ?_
    refine T_getV w_r282 (by omega) rfl ?_
    refine T_ite (fun hq7 => ?_) (fun hq7 => ?_)
    · have ct : u < b ∧ y_ct D a (u + 1) := by
        by_cases zz : u < b ∧ y_ct D a (u + 1)
        · exact zz
        · exact absurd (kb3.mpr zz) hq7
      have pz : y_pB D a b (Q 1) u = 0 := y_pB_n (y_wb_n2 ct)
      refine e_pu262 (E := E) (Q := Q) cm5.1 cm5.2.2.2.1 hE1 tr6 hu (C := y_pl D E Q a b u + y_w D a b u + y_sB D a b u) he (by omega) (by omega) be bl (fun lg2 hl2 => hr _ lg2 _ hl2 (by rw [if_neg (fun w => w.2 ct)]; omega) ur f4)
    · have hq7 := Decidable.not_not.mp hq7
      refine T_if1 (by decide +kernel) ?_
      refine T_let 279 (by decide +kernel) ?_
      refine T_if1 (by decide +kernel) ?_
      have pd := y_HB.pads gi7 hb8 hD ⟨l2.1, l2.2.1⟩ l2.2.2 n2 q1 (k := bk) kb1
      have pd2 := pd.2.2
      rw [hq7] at pd2
      refine T_bI (T_of (e_padBehind (by omega) pd.1.1 pd.1.2.2) (T_rI ?_))
      refine T_let (y_pl D E Q a b u + y_w D a b u + y_sB D a b u + y_pB D a b (Q 1) u) (by rw [v_wid (by omega)]; omega) ?_
      refine T_let (bk + 1) (v_wid (by omega)) ?_
      have ea := kb3.mp hq7
      refine e_pu262 (E := E) (Q := Q) cm5.1 cm5.2.2.2.1 hE1 tr6 hu (C := y_pl D E Q a b u + y_w D a b u + y_sB D a b u + y_pB D a b (Q 1) u) he (by omega) (by omega) be bl (fun lg2 hl2 => hr _ lg2 _ hl2 (by rw [if_pos ⟨k7, ea⟩]) ur f4)
/-- cells that placing the units of a line writes on: fa is its first sign -/
abbrev y_plw (a fa p q : Int) : Prop := ((p = 260 ∨ p = 262 ∨ p = 264 ∨ p = 266) ∧ a ≤ q) ∨ (p = 268 ∧ fa ≤ q)
theorem e_puUL {fu : Nat} (hfu : 8589934592 ≤ fu) {D s0 : z_M} {E Q : Int → Int} (cm0 : y_CM D E s0 s0) (hE1 : ∀ u : Int, E u = 0 ∨ E u = 1) (fz0 : y_FZ s0) {l a b c0 c each lg0 : Int} (tr0 : y_TR D s0 a b) (hab : a ≤ b) (hl : 0 ≤ l ∧ l < 200) (hb1 : s0 248 (l + 1) = b + 1) (q1 : 0 ≤ Q 1 ∧ Q 1 ≤ 6) (q2 : 0 ≤ Q 2 ∧ Q 2 ≤ 10000)
    (gi0 : y_GI D s0 279 (y_fr D a b) (y_to D a b) c0 c) (hb0 : y_HB D s0 279 a b (Q 1) c0 c) (hc0 : 0 ≤ c0 ∧ c ≤ 200) {k : z_M → z_O} {P : z_V → z_M → Prop}
    (he : 0 < y_gn D E a b (b + 1) → each = y_rs D Q a b / y_gn D E a b (b + 1) ∧ lg0 = y_rs D Q a b % y_gn D E a b (b + 1)) (be : 0 ≤ each ∧ each ≤ 10000) (bl : 0 ≤ lg0 ∧ lg0 ≤ 10000)
    (hk : ∀ s' : z_M, (∀ v : Int, a ≤ v → v ≤ b → y_UW D E Q s' l a b v) → (∀ p q : Int, ¬ y_plw a (s0 195 a) p q → s' p q = s0 p q) → z_T (k s') P) :
    ∀ (m F : Nat) (s : z_M) (lg bk x u : Int), (m : Int) = b + 1 - u → m < F → a ≤ u → lg = lg0 - y_gn D E a b u → (u ≤ b → bk = c0 + y_kb D a u) → x = y_cu D E Q a b u → (∀ v : Int, a ≤ v → v < u → y_UW D E Q s l a b v) → (∀ p q : Int, ¬ y_plw a (s0 195 a) p q → s p q = s0 p q) → z_T (fX3_placeUnits_L67 fu 258 l each F s lg bk x u k) P := by
  intro m
  induction m with
  | zero =>
    intro F s lg bk x u h1 hF h3 hlg hbk hx g f
    obtain ⟨F, rfl⟩ : ∃ F2, F = F2 + 1 := ⟨F - 1, by omega⟩
    refine T_of (fX3_placeUnits_L67.eq_2 ..) ?_
    refine T_if1 (by decide +kernel) ?_
    refine T_let 240 (by decide +kernel) ?_
    refine T_if1 (by decide +kernel) ?_
    refine T_let 247 (by decide +kernel) ?_
    refine T_let (l + 1) (v_wid (by omega)) ?_
    refine T_if1 (by decide +kernel) ?_
    refine T_getV w_r247 (by omega) ((f 248 (l + 1) (by omega)).trans hb1) ?_
    refine T_if1 (by omega) ?_
    exact hk s (fun v p q => g v p (by omega)) f
  | succ m ih =>
    intro F s lg bk x u h1 hF h3 hlg hbk hx g f
    obtain ⟨F, rfl⟩ : ∃ F2, F = F2 + 1 := ⟨F - 1, by omega⟩
    have l2 := tr0.2.2.1
    have n2 := cm0.1.1.2
    have hu : a ≤ u ∧ u ≤ b := by omega
    have cm := cm0.self (fun p q w => f p q (by omega))
    have tr := tr0.fr (f 220 4 (by omega)) (f 220 5 (by omega)) (f 191 16 (by omega))
    have fz := fz0.fr (fun p q w w2 => f p q (by omega))
    have gi := gi0.fr (fun p q w _ => f p q (by omega))
    have hb := hb0.fr (fun p q w _ _ => f p q (by omega))
    have en : s 191 16 = s0 191 16 := f 191 16 (by omega)
    have hD := cm.1.2.2.2.2
    have eK := (cm.1.2.2.1 u (by omega) (by omega)).1
    have sb := y_sAB_b (D := D) (a := a) (b := b) (u := u)
    have cub := y_cu_b (E := E) hD l2.1 (show b < s 191 16 by omega) cm.1.1.2 q1 q2.2 (u := u) ⟨by omega, by omega⟩
    have gnb := y_gn_b (D := D) (E := E) (a := a) (b := b) (u := u) hu.1
    have gns := y_suS (f := y_gq D E a b) hu.1
    have gnl := y_gn_le (D := D) (E := E) (a := a) (b := b) (u := u + 1) (v := b + 1) (by omega) (by omega)
    have hbk' := hbk hu.2
    have e195 : s 195 u = s0 195 u := f 195 u (by omega)
    have e197 : s 197 u = s0 197 u := f 197 u (by omega)
    have fa : s0 195 a ≤ s0 195 u := by
      by_cases zz : a = u
      · rw [zz]; exact Int.le_refl _
      · have w1 := fz0.2 a u (by omega) (by omega) (by omega)
        have w2 := (fz0.1 a (by omega) (by omega)).2.1
        omega
    have he2 : y_gq D E a b u = 1 → each = y_rs D Q a b / y_gn D E a b (b + 1) ∧ lg = y_rs D Q a b % y_gn D E a b (b + 1) - y_gn D E a b u := fun q => by
      have w := he (by unfold y_gn at *; omega)
      exact ⟨w.1, by rw [hlg, w.2]⟩
    have go : ∀ {fl sp x2 y2 : Int}, ((fl = 1 ∧ D 0 u = 7) ∨ (fl = 0 ∧ D 0 u ≠ 7)) → sp = y_sA D a b u → x2 + y2 = y_pl D E Q a b u → z_T (fX3_placeUnits_J184 fu s 258 l each lg bk u fl sp x2 y2 (fun w v5 v6 v7 v8 => fX3_placeUnits_L67 fu 258 l each F w v5 v6 v7 v8 k) k) P := fun h1' h2' h3' => by
      refine e_pu184 hfu cm hE1 fz tr hl hu q1 q2 gi hb hc0 h1' hbk' h2' h3' he2 be (by omega) (fun s' lg' bk' w1 w2 w3 w4 => ?_)
      refine ih F s' lg' bk' _ (u + 1) (by omega) (by omega) (by omega) (by unfold y_gn at *; omega) (fun q => by rw [w2, y_kb_s (b := b) hu.1 (by omega), hbk']; omega) rfl (fun v p q => ?_) (fun p q r => (w4 p q (by omega)).trans (f p q r))
      by_cases zz : v = u
      · rw [zz]; exact w3
      · have d := fz.2 v u (by omega) (by omega) (by omega)
        exact (g v p (by omega)).fr (fun p q w => w4 p q (by omega)) (fun p q => w4 p v (by omega)) (fun i p q => w4 268 i (by omega))
    clear g ih
    subst hx
    refine T_of (fX3_placeUnits_L67.eq_2 ..) ?_
    refine T_if1 (by decide +kernel) ?_
    refine T_let 240 (by decide +kernel) ?_
    refine T_if1 (by decide +kernel) ?_
    refine T_let 247 (by decide +kernel) ?_
    refine T_let (l + 1) (v_wid (by omega)) ?_
    refine T_if1 (by decide +kernel) ?_
    refine T_getV w_r247 (by omega) ((f 248 (l + 1) (by omega)).trans hb1) ?_
    refine T_if0 (by omega) ?_
    refine T_if1 (by decide +kernel) ?_
    refine T_let 191 (by decide +kernel) ?_
    refine T_if1 v_ob191 ?_
    refine T_let 192 (by decide +kernel) ?_
    refine T_if1 (by decide +kernel) ?_
    refine T_getV w_r192 (by omega) eK ?_
    refine T_ite (fun k7 => ?_) (fun k7 => ?_)
    · refine T_of (fX3_placeUnits_J107.eq_1 ..) ?_
      refine T_if1 (by decide +kernel) ?_
      refine T_let 191 (by decide +kernel) ?_
      refine T_if1 v_ob191 ?_
      refine T_let 192 (by decide +kernel) ?_
      refine T_if1 (by decide +kernel) ?_
      refine T_getV w_r192 (by omega) eK ?_
      refine T_ite (fun h9 => ?_) (fun h9 => ?_)
      · refine T_of (fX3_placeUnits_J138.eq_1 ..) ?_
        refine T_let ((y_cu D E Q a b u) + 0) (v_wid (by omega)) ?_
        refine T_if1 (by decide) ?_
        refine T_of (fX3_placeUnits_J183.eq_1 ..) ?_
        refine go (Or.inr ⟨rfl, k7⟩) (y_sA_n (by omega)).symm ?_
        have pz : y_pA D a b (Q 1) u = 0 := y_pA_n (y_wa_n k7)
        have sz : y_sA D a b u = 0 := y_sA_n (by omega)
        unfold y_pl
        omega
      · refine T_if1 (by decide +kernel) ?_
        refine T_let 220 (by decide +kernel) ?_
        refine T_if1 (by decide +kernel) ?_
        refine T_bI (T_of (e_spaceOfL cm.1 tr hu) (T_rI ?_))
        refine T_of (fX3_placeUnits_J138.eq_1 ..) ?_
        refine T_let ((y_cu D E Q a b u) + (y_sA D a b u + y_sB D a b u)) (v_wid (by omega)) ?_
        refine T_if1 (by decide) ?_
        refine T_of (fX3_placeUnits_J183.eq_1 ..) ?_
        refine go (Or.inr ⟨rfl, k7⟩) (by rw [y_sB_n (by omega) (by omega)]; omega) ?_
        have pz : y_pA D a b (Q 1) u = 0 := y_pA_n (y_wa_n k7)
        have sz : y_sB D a b u = 0 := y_sB_n (by omega) (by omega)
        unfold y_pl
        omega
    · have k7 : D 0 u = 7 := Decidable.not_not.mp k7
      obtain ⟨kb1, kb2, kb3⟩ := gi.kb l2.2.1 hu k7
      rw [← hbk'] at kb1 kb2 kb3
      rw [show (279 : Int) + 2 = 281 by decide] at kb2
      refine T_of (fX3_placeUnits_J107.eq_1 ..) ?_
      refine T_if1 (by decide +kernel) ?_
      refine T_let 191 (by decide +kernel) ?_
      refine T_if1 v_ob191 ?_
      refine T_let 192 (by decide +kernel) ?_
      refine T_if1 (by decide +kernel) ?_
      refine T_getV w_r192 (by omega) eK ?_
      refine T_if1 (by omega) ?_
      refine T_of (fX3_placeUnits_J138.eq_1 ..) ?_
      refine T_let ((y_cu D E Q a b u) + 0) (v_wid (by omega)) ?_
      refine T_if0 (by decide) ?_
      refine T_if1 (by decide +kernel) ?_
      refine T_let 279 (by decide +kernel) ?_
      refine T_if1 (by decide +kernel) ?_
      refine T_let 280 (by decide +kernel) ?_
      refine T_if1 (by decide +kernel) ?_
      refine T_getV w_r280 (by omega) rfl ?_
      refine T_ite (fun hq7 => ?_) (fun hq7 => ?_)
      · refine T_of (fX3_placeUnits_J183.eq_1 ..) ?_
        refine go (Or.inl ⟨rfl, k7⟩) (y_sA_n (by omega)).symm ?_
        have pz : y_pA D a b (Q 1) u = 0 := y_pA_n (y_wa_n2 (fun zz => hq7 (kb2.mpr zz)))
        have sz : y_sA D a b u = 0 := y_sA_n (by omega)
        unfold y_pl
        omega
      · have hq7 := Decidable.not_not.mp hq7
        refine T_if1 (by decide +kernel) ?_
        refine T_let 279 (by decide +kernel) ?_
        refine T_if1 (by decide +kernel) ?_
        have pd := y_HB.pads gi hb hD ⟨l2.1, l2.2.1⟩ (by omega) cm.1.1.2 q1 (k := bk) kb1
        have pd2 := pd.2.1
        rw [hq7] at pd2
        refine T_bI (T_of (e_padAhead (by omega) pd.1.1 pd.1.2.1) (T_rI ?_))
        refine go (Or.inl ⟨rfl, k7⟩) (y_sA_n (by omega)).symm ?_
        have sz : y_sA D a b u = 0 := y_sA_n (by omega)
        unfold y_pl
        omega
/-- all units of a line -/
theorem e_placeUnits {fu : Nat} (hfu : 8589934592 ≤ fu) {D s : z_M} {E Q : Int → Int} (cm : y_CM D E s s) (hE1 : ∀ u : Int, E u = 0 ∨ E u = 1) (fz : y_FZ s) {l a b c0 c n : Int} (tr : y_TR D s a b) (hab : a ≤ b) (hl : 0 ≤ l ∧ l < 200) (ha : s 248 l = a) (hb1 : s 248 (l + 1) = b + 1) (q1 : 0 ≤ Q 1 ∧ Q 1 ≤ 6) (q2 : 0 ≤ Q 2 ∧ Q 2 ≤ 10000)
    (e0 : s 3 0 = Q 2) (e4 : s 3 4 = Q 3) (ec : s 240 6 = n) (hn : 0 ≤ n ∧ n ≤ 200) (hlb : l + 1 < n ↔ b < Q 0 - 1) (ml : y_ML D E (Q 1) l a b c0 c s) (hc0 : 0 ≤ c0 ∧ c ≤ 200) :
    z_T (fX3_placeUnits fu s 258 l) (fun v s' => v = vN ∧ (∀ u : Int, a ≤ u → u ≤ b → y_UW D E Q s' l a b u) ∧ ∀ p q : Int, ¬ y_plw a (s 195 a) p q → s' p q = s p q) := by
  have l2 := tr.2.2.1
  have n2 := cm.1.1.2
  have hD := cm.1.2.2.2.2
  obtain ⟨m1, m2, m3, m4, m5, m6, m7⟩ := ml
  have lgb := y_LG_b hD l2.1 l2.2.2 n2 q1
  have rsb := y_rs_b (D := D) (Q := Q) (a := a) (b := b) q2.2 lgb.1
  have gnb := y_gn_b (D := D) (E := E) (a := a) (b := b) (u := b + 1) (by omega)
  have go : ∀ {each lg : Int}, (0 < y_gn D E a b (b + 1) → each = y_rs D Q a b / y_gn D E a b (b + 1) ∧ lg = y_rs D Q a b % y_gn D E a b (b + 1)) → (0 ≤ each ∧ each ≤ 10000) → (0 ≤ lg ∧ lg ≤ 10000) → z_T (fX3_placeUnits_L67 fu 258 l each fu s lg c0 0 a (fun s63 => some (vN, s63))) (fun v s' => v = vN ∧ (∀ u : Int, a ≤ u → u ≤ b → y_UW D E Q s' l a b u) ∧ ∀ p q : Int, ¬ y_plw a (s 195 a) p q → s' p q = s p q) := fun h1 h2 h3 =>
    e_puUL hfu cm hE1 fz tr hab hl hb1 q1 q2 m6 m7 hc0 h1 h2 h3 (fun s' g f => T_ret ⟨rfl, g, f⟩) (b + 1 - a).toNat fu s _ c0 0 a (by omega) (by omega) (Int.le_refl _) (by unfold y_gn; rw [y_su0]; omega) (fun _ => by unfold y_kb y_ns; rw [y_su0, if_neg (fun w => by have := w.1; omega)]; omega) (by unfold y_cu; rw [y_su0]) (fun v p q => by omega) (fun _ _ _ => rfl)
  refine T_of (fX3_placeUnits.eq_1 ..) ?_
  refine T_if1 (by decide +kernel) ?_
  refine T_let 271 (by decide +kernel) ?_
  refine T_if1 (by decide +kernel) ?_
  refine T_getV w_r271 (by omega) m2 ?_
  refine T_if1 (by decide +kernel) ?_
  refine T_bI (T_of (e_rest hl e0 e4 m1 ec hn hlb q2 lgb) (T_rI ?_))
  refine T_ite (fun h10 => ?_) (fun h10 => ?_)
  · refine T_of (fX3_placeUnits_J26.eq_1 ..) ?_
    refine T_if1 (by omega) ?_
    refine T_of (fX3_placeUnits_J39.eq_1 ..) ?_
    refine T_if1 (by decide +kernel) ?_
    refine T_let 277 (by decide +kernel) ?_
    refine T_if1 (by decide +kernel) ?_
    refine T_getV w_r277 (by omega) m5 ?_
    refine T_if1 (by decide +kernel) ?_
    refine T_let 240 (by decide +kernel) ?_
    refine T_if1 (by decide +kernel) ?_
    refine T_let 247 (by decide +kernel) ?_
    refine T_if1 (by decide +kernel) ?_
    refine T_getV w_r247 (by omega) ha ?_
    exact go (fun w => by omega) (by decide) (by decide)
  · refine T_if1 (by omega) ?_
    refine T_let (y_rs D Q a b / y_gn D E a b (b + 1)) (by rw [Int.tdiv_eq_ediv_of_nonneg rsb.1]; exact v_wid (by have d0 : 0 ≤ y_rs D Q a b / y_gn D E a b (b + 1) := Int.ediv_nonneg rsb.1 (by omega); have d1 : y_rs D Q a b / y_gn D E a b (b + 1) ≤ y_rs D Q a b := Int.ediv_le_self _ rsb.1; omega)) ?_
    refine T_of (fX3_placeUnits_J26.eq_1 ..) ?_
    refine T_if0 (by omega) ?_
    refine T_if1 (by omega) ?_
    refine T_let (y_rs D Q a b % y_gn D E a b (b + 1)) (Int.tmod_eq_emod_of_nonneg rsb.1) ?_
    refine T_of (fX3_placeUnits_J39.eq_1 ..) ?_
    refine T_if1 (by decide +kernel) ?_
    refine T_let 277 (by decide +kernel) ?_
    refine T_if1 (by decide +kernel) ?_
    refine T_getV w_r277 (by omega) m5 ?_
    refine T_if1 (by decide +kernel) ?_
    refine T_let 240 (by decide +kernel) ?_
    refine T_if1 (by decide +kernel) ?_
    refine T_let 247 (by decide +kernel) ?_
    refine T_if1 (by decide +kernel) ?_
    refine T_getV w_r247 (by omega) ha ?_
    have d0 : 0 ≤ y_rs D Q a b / y_gn D E a b (b + 1) := Int.ediv_nonneg rsb.1 (by omega)
    have d1 : y_rs D Q a b / y_gn D E a b (b + 1) ≤ y_rs D Q a b := Int.ediv_le_self _ rsb.1
    have d2 := Int.emod_nonneg (y_rs D Q a b) (show y_gn D E a b (b + 1) ≠ 0 by omega)
    have d3 := Int.emod_lt_of_pos (y_rs D Q a b) (show 0 < y_gn D E a b (b + 1) by omega)
    exact go (fun _ => ⟨rfl, rfl⟩) (by omega) (by omega)
