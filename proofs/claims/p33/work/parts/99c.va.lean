/-! at: the sign that stands at a place of a line -/
/-- answers told by a relation -/
def y_QRY (s : z_M) (v : z_V) (ok : z_M → Prop) (R : z_M → Int → Prop) : Prop := ∃ sr, y_RY s sr ∧ ((¬ ok sr ∧ v = vX 0) ∨ (ok sr ∧ ∃ x, v = vI x ∧ R sr x))
def y_ARY (s s' : z_M) (ok : z_M → Prop) (y : Int) (S : z_M → Int → Prop) : Prop := ∃ sl, y_RM s sl ∧ ((¬ ok sl ∧ s' 309 0 = 1) ∨ (ok sl ∧ s' 309 0 = 0 ∧ S sl y))
theorem y_JRY {s s1 s2 : z_M} {v0 : z_V} {ok pk : z_M → Prop} {R S : z_M → Int → Prop} {x y : Int} (q : y_QRY s v0 ok R) (vx : y_VX 1 2 s1 v0 x) (a : y_ARY s1 s2 pk y S) (o : s2 7658 0 = s1 7658 0) (h0 : ∀ sr sl, y_RY s sr → y_RM s1 sl → (ok sr ↔ pk sl)) (e : ∀ sr sl z, pk sl → y_RY s sr → y_RM s1 sl → R sr z → S sl y → z = y) : s2 309 0 = x ∧ (x = 0 → s2 7658 0 = y) := by
  obtain ⟨sr, ry, q⟩ := q
  obtain ⟨sl, rl, a⟩ := a
  rw [h0 sr sl ry rl] at q
  refine y_J0 (e1 := 0) (s := s) (ok0 := fun _ => pk sl) (ok1 := fun _ => True) (F := fun _ => y) (p0 := pk sl) (p1 := True) (z := y) ⟨sr, ry.1, ?_⟩ vx ?_ o (fun _ _ => Iff.rfl) (fun _ _ => Iff.rfl) (fun _ _ _ _ => rfl)
  · rcases q with q | ⟨k, z, rfl, r⟩
    · exact Or.inl q
    · refine Or.inr (Or.inr ⟨k, trivial, ?_⟩)
      rcases a with ⟨n, _⟩ | ⟨_, _, sy⟩
      · exact absurd k n
      · rw [e sr sl z k ry rl r sy]
  · rcases a with a | ⟨k, a0, _⟩
    · exact Or.inl a
    · exact Or.inr (Or.inr ⟨k, trivial, a0, rfl⟩)
/-- the first sign, of the units that count, for which it holds -/
def y_Rf (U : Int → Prop) (S C : Int → Int) (H : Int → Prop) (x : Int) : Prop := (x = -1 ∧ ∀ u i : Int, U u → S u ≤ i → i < S u + C u → ¬ H i) ∨ ∃ u : Int, U u ∧ (S u ≤ x ∧ x < S u + C u) ∧ H x ∧ (∀ i : Int, S u ≤ i → i < x → ¬ H i) ∧ ∀ v i : Int, U v → v < u → S v ≤ i → i < S v + C v → ¬ H i
theorem y_Rf_eq {U U' : Int → Prop} {S S' C C' : Int → Int} {H H' : Int → Prop} {x x' : Int} (eU : ∀ u : Int, U u ↔ U' u) (eS : ∀ u : Int, U u → S u = S' u ∧ C u = C' u) (eH : ∀ u i : Int, U u → S u ≤ i → i < S u + C u → (H i ↔ H' i)) (r : y_Rf U S C H x) (r' : y_Rf U' S' C' H' x') : x = x' := by
  rcases r with ⟨e, a⟩ | ⟨u, k, ⟨p, q⟩, h, f, b⟩
  · rcases r' with ⟨e', _⟩ | ⟨u', k', ⟨p', q'⟩, h', _, _⟩
    · rw [e, e']
    · have kk := (eU u').mpr k'
      obtain ⟨s1, s2⟩ := eS u' kk
      exact absurd ((eH u' x' kk (by omega) (by omega)).mpr h') (a u' x' kk (by omega) (by omega))
  · have ku := (eU u).mp k
    obtain ⟨s1, s2⟩ := eS u k
    have hx := (eH u x k p q).mp h
    rcases r' with ⟨_, a'⟩ | ⟨u', k', ⟨p', q'⟩, h', f', b'⟩
    · exact absurd hx (a' u x ku (by omega) (by omega))
    · rcases Int.lt_trichotomy u u' with w | w | w
      · exact absurd hx (b' u x ku w (by omega) (by omega))
      · subst w
        rcases Int.lt_trichotomy x x' with z | z | z
        · exact absurd hx (f' x (by omega) z)
        · exact z
        · exact absurd ((eH u x' k (by omega) (by omega)).mpr h') (f x' (by omega) z)
      · have kk := (eU u').mpr k'
        obtain ⟨t1, t2⟩ := eS u' kk
        exact absurd ((eH u' x' kk (by omega) (by omega)).mpr h') (b u' x' kk w (by omega) (by omega))
/-- the class: sign j stands at w -/
def y_hc (s : z_M) (w j : Int) : Prop := s 268 j ≤ w ∧ w < z_w (s 268 j + s 217 j)
theorem e_atI {fu : Nat} {s : z_M} {w u S E : Int} (hs : 0 ≤ S ∧ E ≤ 200) {k : z_M → z_O} {P : z_V → z_M → Prop} (fd : ∀ x : Int, S ≤ x → x < E → y_hc s w x → (∀ j : Int, S ≤ j → j < x → ¬ y_hc s w j) → z_T (some (vI x, s)) P) (nf : (∀ j : Int, S ≤ j → j < E → ¬ y_hc s w j) → z_T (k s) P) : ∀ (m F : Nat) (i : Int), (m : Int) = E - i → m < F → S ≤ i → (∀ j : Int, S ≤ j → j < i → ¬ y_hc s w j) → z_T (fX3_standingAt_L90 fu 258 w u E F s i k) P := by
  intro m
  induction m with
  | zero =>
    intro F i h1 hF h2 g
    obtain ⟨F, rfl⟩ : ∃ F2, F = F2 + 1 := ⟨F - 1, by omega⟩
    refine T_of (fX3_standingAt_L90.eq_2 ..) ?_
    refine T_if1 (by omega) ?_
    exact nf (fun j p q => g j p (by omega))
  | succ m ih =>
    intro F i h1 hF h2 g
    obtain ⟨F, rfl⟩ : ∃ F2, F = F2 + 1 := ⟨F - 1, by omega⟩
    have nx : ¬ y_hc s w i → ∀ j : Int, S ≤ j → j < i + 1 → ¬ y_hc s w j := fun n j p q => by
      by_cases z : j = i
      · rw [z]; exact n
      · exact g j p (by omega)
    refine T_of (fX3_standingAt_L90.eq_2 ..) ?_
    refine T_if0 (by omega) ?_
    refine T_if1 (by decide +kernel) ?_
    refine T_let 267 (by decide +kernel) ?_
    refine T_if1 (by decide +kernel) ?_
    refine T_getV w_r267 (by omega) rfl ?_
    refine T_ite (fun hA => ?_) (fun hA => ?_)
    · refine T_of (fX3_standingAt_J136.eq_1 ..) ?_
      refine T_let (i + 1) (v_wid (by omega)) ?_
      exact ih F (i + 1) (by omega) (by omega) (by omega) (nx (fun y => by have y1 := y.1; have y2 := y.2; omega))
    · refine T_if1 (by decide +kernel) ?_
      refine T_let 191 (by decide +kernel) ?_
      refine T_if1 v_ob191 ?_
      refine T_let 216 (by decide +kernel) ?_
      refine T_if1 (by decide +kernel) ?_
      refine T_getV w_r216 (by omega) rfl ?_
      refine T_let (z_w ((s 268 i) + (s 217 i))) rfl ?_
      refine T_ite (fun hB => ?_) (fun hB => ?_)
      · refine T_of (fX3_standingAt_J136.eq_1 ..) ?_
        refine T_let (i + 1) (v_wid (by omega)) ?_
        exact ih F (i + 1) (by omega) (by omega) (by omega) (nx (fun y => by have y1 := y.1; have y2 := y.2; omega))
      · exact fd i h2 (by omega) ⟨by omega, by omega⟩ g
theorem e_atL {fu : Nat} (hfu : 8589934592 ≤ fu) {s : z_M} {w fr to : Int} (h5 : s 220 5 = to) (hr : ∀ u : Int, fr ≤ u → u ≤ to → (0 ≤ u ∧ u < 200) ∧ 0 ≤ s 195 u ∧ 0 ≤ s 197 u ∧ s 195 u + s 197 u ≤ 200) {k : z_M → z_O} {P : z_V → z_M → Prop} (fd : ∀ x : Int, y_Rf (fun u => fr ≤ u ∧ u ≤ to) (s 195) (s 197) (y_hc s w) x → z_T (some (vI x, s)) P) (nf : y_Rf (fun u => fr ≤ u ∧ u ≤ to) (s 195) (s 197) (y_hc s w) (-1) → z_T (k s) P) : ∀ (m F : Nat) (u : Int), (m : Int) = to + 1 - u → m < F → fr ≤ u → (∀ v i : Int, fr ≤ v → v < u → s 195 v ≤ i → i < s 195 v + s 197 v → ¬ y_hc s w i) → z_T (fX3_standingAt_L41 fu 258 w F s u k) P := by
  intro m
  induction m with
  | zero =>
    intro F u h1 hF h2 g
    obtain ⟨F, rfl⟩ : ∃ F2, F = F2 + 1 := ⟨F - 1, by omega⟩
    refine T_of (fX3_standingAt_L41.eq_2 ..) ?_
    refine T_if1 (by decide +kernel) ?_
    refine T_let 220 (by decide +kernel) ?_
    refine T_if1 (by decide +kernel) ?_
    refine T_let to h5 ?_
    refine T_if1 (by omega) ?_
    exact nf (Or.inl ⟨rfl, fun v i k p q => g v i k.1 (by omega) p q⟩)
  | succ m ih =>
    intro F u h1 hF h2 g
    obtain ⟨F, rfl⟩ : ∃ F2, F = F2 + 1 := ⟨F - 1, by omega⟩
    obtain ⟨⟨u0, u1⟩, r0, r1, r2⟩ := hr u h2 (by omega)
    refine T_of (fX3_standingAt_L41.eq_2 ..) ?_
    refine T_if1 (by decide +kernel) ?_
    refine T_let 220 (by decide +kernel) ?_
    refine T_if1 (by decide +kernel) ?_
    refine T_let to h5 ?_
    refine T_if0 (by omega) ?_
    refine T_if1 (by decide +kernel) ?_
    refine T_let 191 (by decide +kernel) ?_
    refine T_if1 v_ob191 ?_
    refine T_let 194 (by decide +kernel) ?_
    refine T_if1 (by decide +kernel) ?_
    refine T_getV w_r194 (by omega) rfl ?_
    refine T_if1 (by decide +kernel) ?_
    refine T_let 191 (by decide +kernel) ?_
    refine T_if1 v_ob191 ?_
    refine T_let 196 (by decide +kernel) ?_
    refine T_if1 (by decide +kernel) ?_
    refine T_getV w_r196 (by omega) rfl ?_
    refine T_let ((s 195 u) + (s 197 u)) (v_wid (by omega)) ?_
    refine T_if1 (by decide +kernel) ?_
    refine T_let 191 (by decide +kernel) ?_
    refine T_if1 v_ob191 ?_
    refine T_let 194 (by decide +kernel) ?_
    refine T_if1 (by decide +kernel) ?_
    refine T_getV w_r194 (by omega) rfl ?_
    refine e_atI (S := s 195 u) ⟨r0, r2⟩ (fun x p q hx f => fd x (Or.inr ⟨u, ⟨h2, by omega⟩, ⟨p, q⟩, hx, f, fun v i kk z p1 q1 => g v i kk.1 z p1 q1⟩)) (fun n => ?_) (s 197 u).toNat fu (s 195 u) (by omega) (by omega) (Int.le_refl _) (fun j p q => by omega)
    refine T_let (u + 1) (v_wid (by omega)) ?_
    exact ih F (u + 1) (by omega) (by omega) (by omega) (fun v i p q p1 q1 => by
      by_cases z : v = u
      · rw [z] at p1 q1; exact n i p1 q1
      · exact g v i p (by omega) p1 q1)
/-- at -/
theorem e_cat {fu : Nat} (hfu : 8589934592 ≤ fu) {s : z_M} (c : z_CI s) (h : y_V3 s) (hy : y_Y4 s) (hk : ∀ sr, y_RF s sr → y_OKc sr) {p w : Int} : z_T (fX11_at fu s 1 p w) (fun v _ => y_QRY s v (fun sr => 0 ≤ p ∧ p < sr 240 6) (fun sr x => y_Rf (fun u => y_fr (y_dc sr) (sr 248 p) (sr 248 (p + 1) - 1) ≤ u ∧ u ≤ y_to (y_dc sr) (sr 248 p) (sr 248 (p + 1) - 1)) (sr 195) (sr 197) (y_hc sr w) x)) := by
  refine T_of (fX11_at.eq_1 ..) ?_
  refine T_if1 v_ob1 ?_
  refine T_useN (e_freshY hfu c h hy) (fun v sr hq => ?_)
  obtain ⟨rfl, ry⟩ := hq
  refine T_vN ?_
  have rf := ry.1
  have hn := CI_b rf.1 (k := 191) (j := 16) bd_191_16q
  have h6 := CI_b rf.1 (k := 240) (j := 6) bd_240_6
  have ok := hk sr rf
  refine T_if1 v_ob1 ?_
  refine T_let 240 (by decide +kernel) ?_
  refine T_if1 (by decide +kernel) ?_
  refine T_let (sr 240 6) rfl ?_
  refine T_if1 v_ob1 ?_
  refine T_nen (fun n => T_ret ⟨sr, ry, Or.inl ⟨n, rfl⟩⟩) (fun h0 h1 => ?_)
  have sv := ry.2.2.1.1.2 ok p h0 h1
  rw [show (240 + 8 : Int) = 248 by decide] at sv
  refine T_if1 v_ob1 ?_
  refine T_let 258 (by decide +kernel) ?_
  refine T_if1 (by decide +kernel) ?_
  refine T_bI (T_of (fX3_standingAt.eq_1 ..) ?_)
  refine T_if1 (by decide +kernel) ?_
  refine T_let 220 (by decide +kernel) ?_
  refine T_if1 (by decide +kernel) ?_
  refine T_let 240 (by decide +kernel) ?_
  refine T_if1 (by decide +kernel) ?_
  refine T_let 247 (by decide +kernel) ?_
  refine T_if1 (by decide +kernel) ?_
  refine T_getV w_r247 (by omega) rfl ?_
  refine T_if1 (by decide +kernel) ?_
  refine T_let 240 (by decide +kernel) ?_
  refine T_if1 (by decide +kernel) ?_
  refine T_let 247 (by decide +kernel) ?_
  refine T_let (p + 1) (v_wid (by omega)) ?_
  refine T_if1 (by decide +kernel) ?_
  refine T_getV w_r247 (by omega) rfl ?_
  refine T_let ((sr 248 (p + 1)) - 1) (v_wid (by omega)) ?_
  refine T_if1 (by decide +kernel) ?_
  refine T_useN (e_trim hfu ok.CU (a := sr 248 p) (b := sr 248 (p + 1) - 1) ⟨by omega, by omega⟩ (by omega)) (fun v sx hq => ?_)
  obtain ⟨rfl, e4, e5, fx⟩ := hq
  refine T_vN ?_
  refine T_if1 (by decide +kernel) ?_
  refine T_let 220 (by decide +kernel) ?_
  refine T_if1 (by decide +kernel) ?_
  refine T_let (y_fr (y_dc sr) (sr 248 p) (sr 248 (p + 1) - 1)) e4 ?_
  have fz := ry.2.1.1.FZ ok.2.1 (CI_b rf.1 (k := 6) (j := 6) bd_6_6)
  have ft := y_ft (D := y_dc sr) (a := sr 248 p) (b := sr 248 (p + 1) - 1) (by omega)
  have e195 : sx 195 = sr 195 := funext fun b => fx 195 b (by omega)
  have e197 : sx 197 = sr 197 := funext fun b => fx 197 b (by omega)
  have ehc : y_hc sx w = y_hc sr w := funext fun j => by unfold y_hc; rw [fx 268 j (by omega), fx 217 j (by omega)]
  have fin : ∀ x : Int, y_Rf (fun u => y_fr (y_dc sr) (sr 248 p) (sr 248 (p + 1) - 1) ≤ u ∧ u ≤ y_to (y_dc sr) (sr 248 p) (sr 248 (p + 1) - 1)) (sx 195) (sx 197) (y_hc sx w) x → y_QRY s (vI x) (fun sr => 0 ≤ p ∧ p < sr 240 6) (fun sr x => y_Rf (fun u => y_fr (y_dc sr) (sr 248 p) (sr 248 (p + 1) - 1) ≤ u ∧ u ≤ y_to (y_dc sr) (sr 248 p) (sr 248 (p + 1) - 1)) (sr 195) (sr 197) (y_hc sr w) x) := fun x q => by
    rw [e195, e197, ehc] at q
    exact ⟨sr, ry, Or.inr ⟨⟨h0, h1⟩, x, rfl, q⟩⟩
  refine e_atL hfu e5 (fun u q1 q2 => ?_) (fun x q => T_rI (T_ret (fin x q))) (fun q => T_rI (T_ret (fin (-1) q))) (y_to (y_dc sr) (sr 248 p) (sr 248 (p + 1) - 1) + 1 - y_fr (y_dc sr) (sr 248 p) (sr 248 (p + 1) - 1)).toNat fu _ (by omega) (by omega) (Int.le_refl _) (fun v i a1 a2 _ _ => by omega)
  have z := fz.1 u (by omega) (by omega)
  rw [e195, e197]
  exact ⟨⟨by omega, by omega⟩, z.1, by omega, z.2.2.1⟩
theorem y_sm2_b {s : z_M} {u i : Int} (h1 : s 3221 u ≤ i) (h2 : i ≤ s 3221 u + 200) : 0 ≤ y_sm2 s u i ∧ y_sm2 s u i ≤ 2400 := by
  unfold y_sm2
  split
  · have r := y_sum_r (f := y_lm s) (a := s 3221 u) (m := 12) (i - s 3221 u).toNat (fun j _ _ => y_lm_b)
    unfold y_su
    omega
  · decide
/-- a unit's width in its line, its signs' places -/
theorem y_LBm.pl {s : z_M} (ok : y_OKy s) (lm : y_LBm (y_dm s) s) {u : Int} (h0 : 0 ≤ u) (h1 : u < s 309 20) : s 3445 u = y_w (y_dm s) (s 3438 (s 3441 u)) (s 3438 (s 3441 u + 1) - 1) u ∧ ∀ i : Int, s 3221 u ≤ i → i < s 3221 u + s 3222 u → 0 ≤ s 3443 i ∧ s 3443 i ≤ 10012400 := by
  obtain ⟨nx, cc, ls, ly, _⟩ := lm
  obtain ⟨l, l0, l1, u0, u1⟩ := ls.2.2.2.ln h0 h1
  have rl := ls.at l0 l1
  have lml : y_LMl (y_dm s) (y_me (y_dm s) (s 312 7) (s 309 20)) (y_qm s) s l (s 3438 l) (s 3438 (l + 1) - 1) (y_bn (y_dm s) (s 3438) l) := ly l l0 (by rw [ls.2.2.1]; exact l1)
  obtain ⟨m1, m2, m3, m4, m5⟩ := (lml.2 u u0 (by omega)).1
  have nn := ok.1.1.1
  have uu := ok.1.1.2.1 u h0 h1
  have pb := y_pl_b (E := y_me (y_dm s) (s 312 7) (s 309 20)) (Q := y_qm s) (u := u) (a := s 3438 l) (b := s 3438 (l + 1) - 1) ok.1.2.1 rl.1 (by omega) nn.2 (by rw [y_qm1]; exact ok.1.2.2.2) (by rw [y_qm2]; exact ok.2.2.2.2) ⟨u0, by omega⟩
  rw [m1]
  refine ⟨m3, fun i p q => ?_⟩
  rw [m5 i p q]
  have sb := y_sm2_b (s := s) p (by omega)
  omega
/-- sign j stands at w -/
def y_hm (s : z_M) (w j : Int) : Prop := s 3443 j ≤ w ∧ w ≤ z_w (z_w (s 3443 j + y_lm s j) - 1)
theorem em_atI {fu : Nat} {s : z_M} (rw0 : y_Rw s) {p w u : Int} (hu : 0 ≤ u ∧ u < s 309 20) {k : z_M → z_O} {P : z_V → z_M → Prop} (fd : ∀ x : Int, s 3221 u ≤ x → x < s 3221 u + s 3222 u → y_hm s w x → (∀ j : Int, s 3221 u ≤ j → j < x → ¬ y_hm s w j) → z_T (some (vI x, s)) P) (nf : (∀ j : Int, s 3221 u ≤ j → j < s 3221 u + s 3222 u → ¬ y_hm s w j) → z_T (k s) P) : ∀ (m F : Nat) (i : Int), (m : Int) = s 3221 u + s 3222 u - i → m < F → s 3221 u ≤ i → (∀ j : Int, s 3221 u ≤ j → j < i → ¬ y_hm s w j) → z_T (fX12_at_L89 fu 309 p w u F s i k) P := by
  have nn := rw0.1
  have uu := rw0.2.1 u hu.1 hu.2
  intro m
  induction m with
  | zero =>
    intro F i h1 hF h2 g
    obtain ⟨F, rfl⟩ : ∃ F2, F = F2 + 1 := ⟨F - 1, by omega⟩
    refine T_of (fX12_at_L89.eq_2 ..) ?_
    refine T_if1 v_ob309 ?_
    refine T_let 3221 v_gm22 ?_
    refine T_if1 (v_x3221 (by omega)) ?_
    refine T_let (s 3221 u) rfl ?_
    refine T_if1 v_ob309 ?_
    refine T_let 3222 v_gm23 ?_
    refine T_if1 (v_x3222 (by omega)) ?_
    refine T_let (s 3222 u) rfl ?_
    refine T_let ((s 3221 u) + (s 3222 u)) (v_wid (by omega)) ?_
    refine T_if1 (by omega) ?_
    exact nf (fun j p q => g j p (by omega))
  | succ m ih =>
    intro F i h1 hF h2 g
    obtain ⟨F, rfl⟩ : ∃ F2, F = F2 + 1 := ⟨F - 1, by omega⟩
    have nx : ¬ y_hm s w i → ∀ j : Int, s 3221 u ≤ j → j < i + 1 → ¬ y_hm s w j := fun n j p q => by
      by_cases z : j = i
      · rw [z]; exact n
      · exact g j p (by omega)
    refine T_of (fX12_at_L89.eq_2 ..) ?_
    refine T_if1 v_ob309 ?_
    refine T_let 3221 v_gm22 ?_
    refine T_if1 (v_x3221 (by omega)) ?_
    refine T_let (s 3221 u) rfl ?_
    refine T_if1 v_ob309 ?_
    refine T_let 3222 v_gm23 ?_
    refine T_if1 (v_x3222 (by omega)) ?_
    refine T_let (s 3222 u) rfl ?_
    refine T_let ((s 3221 u) + (s 3222 u)) (v_wid (by omega)) ?_
    refine T_if0 (by omega) ?_
    refine T_if1 v_ob309 ?_
    refine T_let 3443 v_gm50 ?_
    refine T_if1 (v_x3443 (by omega)) ?_
    refine T_let (s 3443 i) rfl ?_
    refine T_if1 v_ob309 ?_
    refine T_let 3443 v_gm50 ?_
    refine T_if1 (v_x3443 (by omega)) ?_
    refine T_let (s 3443 i) rfl ?_
    refine T_if1 v_ob309 ?_
    refine T_bI (T_of (em_signLong (by omega) (rw0.2.2.1 i)) (T_rI ?_))
    refine T_let (z_w ((s 3443 i) + (y_lm s i))) rfl ?_
    refine T_let (z_w ((z_w ((s 3443 i) + (y_lm s i))) - 1)) rfl ?_
    refine T_bI (T_of em_in (T_rI ?_))
    by_cases hw : s 3443 i ≤ w ∧ w ≤ z_w (z_w (s 3443 i + y_lm s i) - 1)
    · rw [if_pos hw]
      refine T_if0 (by decide) ?_
      exact fd i h2 (by omega) hw g
    · rw [if_neg hw]
      refine T_if1 rfl ?_
      refine T_let (i + 1) (v_wid (by omega)) ?_
      exact ih F (i + 1) (by omega) (by omega) (by omega) (nx hw)
/-- units of a line that count -/
abbrev y_uk (s : z_M) (p u : Int) : Prop := (s 3438 p ≤ u ∧ u < s 3438 (p + 1)) ∧ (s 3220 u ≠ 6 ∨ s 3445 u ≠ 0)
theorem em_atL {fu : Nat} (hfu : 8589934592 ≤ fu) {s : z_M} (rw0 : y_Rw s) {p w : Int} (hp : 0 ≤ p ∧ p < 200) (h0 : 0 ≤ s 3438 p) (hb : s 3438 (p + 1) ≤ s 309 20) {k : z_M → z_O} {P : z_V → z_M → Prop} (fd : ∀ x : Int, y_Rf (y_uk s p) (s 3221) (s 3222) (y_hm s w) x → z_T (some (vI x, s)) P) (nf : y_Rf (y_uk s p) (s 3221) (s 3222) (y_hm s w) (-1) → z_T (k s) P) : ∀ (m F : Nat) (u : Int), (m : Int) = s 3438 (p + 1) - u → m < F → s 3438 p ≤ u → (∀ v i : Int, y_uk s p v → v < u → s 3221 v ≤ i → i < s 3221 v + s 3222 v → ¬ y_hm s w i) → z_T (fX12_at_L46 fu 309 p w F s u k) P := by
  have nn := rw0.1
  intro m
  induction m with
  | zero =>
    intro F u h1 hF h2 g
    obtain ⟨F, rfl⟩ : ∃ F2, F = F2 + 1 := ⟨F - 1, by omega⟩
    refine T_of (fX12_at_L46.eq_2 ..) ?_
    refine T_if1 v_ob309 ?_
    refine T_let 3438 v_gm45 ?_
    refine T_let (p + 1) (v_wid (by omega)) ?_
    refine T_if1 (v_x3438 (by omega)) ?_
    refine T_let (s 3438 (p + 1)) rfl ?_
    refine T_if1 (by omega) ?_
    exact nf (Or.inl ⟨rfl, fun v i k p q => g v i k (by have z := k.1.2; omega) p q⟩)
  | succ m ih =>
    intro F u h1 hF h2 g
    obtain ⟨F, rfl⟩ : ∃ F2, F = F2 + 1 := ⟨F - 1, by omega⟩
    have uu := rw0.2.1 u (by omega) (by omega)
    have sk : (¬ y_uk s p u ∨ ∀ i : Int, s 3221 u ≤ i → i < s 3221 u + s 3222 u → ¬ y_hm s w i) → z_T (fX12_at_J146 fu s 309 p w u (fun w2 v3 => fX12_at_L46 fu 309 p w F w2 v3 k) k) P := fun q => by
      refine T_of (fX12_at_J146.eq_1 ..) ?_
      refine T_let (u + 1) (v_wid (by omega)) ?_
      refine ih F (u + 1) (by omega) (by omega) (by omega) (fun v i kk z p1 q1 => ?_)
      by_cases e : v = u
      · rw [e] at kk p1 q1
        rcases q with q | q
        · exact absurd kk q
        · exact q i p1 q1
      · exact g v i kk (by omega) p1 q1
    have go : y_uk s p u → z_T (fX12_at_J81 fu s 309 p w u (fun w2 v3 => fX12_at_L46 fu 309 p w F w2 v3 k) k) P := fun kk => by
      refine T_of (fX12_at_J81.eq_1 ..) ?_
      refine T_if1 v_ob309 ?_
      refine T_let 3221 v_gm22 ?_
      refine T_if1 (v_x3221 (by omega)) ?_
      refine T_let (s 3221 u) rfl ?_
      exact em_atI (p := p) rw0 ⟨by omega, by omega⟩ (fun x p1 q1 hx f => fd x (Or.inr ⟨u, kk, ⟨p1, q1⟩, hx, f, fun v i k2 z p2 q2 => g v i k2 z p2 q2⟩)) (fun n => sk (Or.inr n)) (s 3222 u).toNat fu (s 3221 u) (by omega) (by omega) (Int.le_refl _) (fun j p1 q1 => by omega)
    refine T_of (fX12_at_L46.eq_2 ..) ?_
    refine T_if1 v_ob309 ?_
    refine T_let 3438 v_gm45 ?_
    refine T_let (p + 1) (v_wid (by omega)) ?_
    refine T_if1 (v_x3438 (by omega)) ?_
    refine T_let (s 3438 (p + 1)) rfl ?_
    refine T_if0 (by omega) ?_
    refine T_if1 v_ob309 ?_
    refine T_let 3220 v_gm21 ?_
    refine T_if1 (v_x3220 (by omega)) ?_
    refine T_let (s 3220 u) rfl ?_
    refine T_ite (fun hA => ?_) (fun hA => ?_)
    · exact go ⟨⟨h2, by omega⟩, by omega⟩
    · refine T_if1 v_ob309 ?_
      refine T_let 3445 v_gm52 ?_
      refine T_if1 (v_x3445 (by omega)) ?_
      refine T_let (s 3445 u) rfl ?_
      refine T_ite (fun hB => ?_) (fun hB => ?_)
      · exact go ⟨⟨h2, by omega⟩, by omega⟩
      · exact sk (Or.inl (fun kk => by have z := kk.2; omega))
theorem em_at {fu : Nat} (hfu : 8589934592 ≤ fu) {s : z_M} (h : y_GY s) {p w : Int} : z_T (fX12_at fu s 309 p w) (fun v s' => ∃ y, v = vI y ∧ y_ARY s s' (fun sl => 0 ≤ p ∧ p < sl 309 44) y (fun sl y => y_Rf (y_uk sl p) (sl 3221) (sl 3222) (y_hm sl w) y)) := by
  refine T_of (fX12_at.eq_1 ..) ?_
  refine T_if1 v_ob309 ?_
  refine T_upg h.1 bd_309_0 (by decide) (fun s1 c1 g g2 e0 => ?_)
  have h1 := h.z c1 g g2
  refine T_if1 v_ob309 ?_
  refine T_useN (em_lay hfu h1) (fun v sl hq => ?_)
  obtain ⟨rfl, rl⟩ := hq
  refine T_vN ?_
  have rm := rl.m g g2
  have e1 : sl 309 0 = 0 := (rl.k 309 0 (by omega)).trans e0
  have nn := CI_b rl.1 (k := 309) (j := 44) bd_309_44
  refine T_if1 v_ob309 ?_
  refine T_let (sl 309 44) rfl ?_
  refine T_let (sl 309 44 - 1) (v_wid (by omega)) ?_
  refine T_bI (T_of em_in (T_rI ?_))
  by_cases hp : 0 ≤ p ∧ p ≤ sl 309 44 - 1
  · rw [if_pos hp]
    refine T_if1 (by decide) ?_
    refine T_of (fX12_at_J29.eq_1 ..) ?_
    refine T_if1 v_ob309 ?_
    refine T_bI (T_of (em_bad0 e1) (T_rI ?_))
    refine T_if1 rfl ?_
    refine T_if1 v_ob309 ?_
    refine T_let 3438 v_gm45 ?_
    refine T_if1 (v_x3438 (by omega)) ?_
    refine T_let (sl 3438 p) rfl ?_
    obtain ⟨nx, cc, ls, _⟩ := rl.2.2.1
    have rr := ls.at hp.1 (by have z := ls.2.2.1; omega)
    have fin : ∀ x : Int, y_Rf (y_uk sl p) (sl 3221) (sl 3222) (y_hm sl w) x → ∃ y, vI x = vI y ∧ y_ARY s sl (fun sl => 0 ≤ p ∧ p < sl 309 44) y (fun sl y => y_Rf (y_uk sl p) (sl 3221) (sl 3222) (y_hm sl w) y) := fun x q => ⟨x, rfl, sl, rm, Or.inr ⟨⟨hp.1, by omega⟩, e1, q⟩⟩
    exact em_atL hfu rl.2.2.2.1.1.1 ⟨hp.1, by omega⟩ rr.1 rr.2.2 (fun x q => T_ret (fin x q)) (fun q => T_ret (fin (-1) q)) (sl 3438 (p + 1) - sl 3438 p).toNat fu _ (by omega) (by have z := rl.2.2.2.1.1.1.1; omega) (Int.le_refl _) (fun v i kk z _ _ => by have y := kk.1.1; omega)
  · rw [if_neg hp]
    refine T_if0 (by decide) ?_
    refine T_of (fX12_at_J29.eq_1 ..) ?_
    refine T_if1 v_ob309 ?_
    refine T_useI (em_bad1 e1 (by decide) (Or.inl rfl)) (fun v s3 hq => ?_)
    obtain ⟨rfl, q1, _⟩ := hq
    refine T_vI ?_
    refine T_if0 (by decide) ?_
    exact T_ret ⟨_, rfl, sl, rm, Or.inl ⟨by omega, q1⟩⟩
/-- a sign's length -/
theorem y_BT.ln {g s : z_M} (b : y_BT g s) {u i : Int} (h0 : 0 ≤ u) (h1 : u < s 309 20) (i0 : s 3221 u ≤ i) (i1 : i < s 3221 u + s 3222 u) : g 217 i = y_lm s i := by
  obtain ⟨U, X, p, c, _, st⟩ := b
  have n0 := y_n0 c
  obtain ⟨e1, e2, e3⟩ := X.1.EU U.2.1 p
  obtain ⟨x1, x2, x3⟩ := e2 u h0 h1
  have mr := (U.2.2 (X.tok n0.1)).1 u h0 (by omega)
  have BS := X.1.BS X.2.2 rfl
  have ea : y_ac g u = y_am s u := by
    unfold y_ac y_am
    rw [x3, x2, st, st]
  have w := p.in0 h0 h1 i0 i1
  have v := p.of0 BS w.1 w.2.1
  rw [w.2.2] at v
  rw [(mr.2.2.2.2 i (by omega) (by omega)).1, ea, x3, v.2.2.2.1]
  unfold y_one1
  by_cases a : y_am s u = 0
  · rw [if_pos a]
    exact y_sl_lm X w.1 w.2.1 (fun _ => by rw [w.2.2]; exact a)
  · rw [if_neg a]
    have k2 : s 3220 u = 2 := by
      by_cases z : s 3220 u = 2
      · exact z
      · exact absurd (if_neg (fun q => z q.1)) a
    unfold y_lm
    rw [if_neg (show ¬ s 346 i = 1 by omega), if_pos (show s 346 i = 2 by omega), w.2.2, if_neg a]
theorem q_at {g s s' : z_M} (b : y_BT g s) (ok : y_OKc g) (yc : y_YC g) (h : y_RM s s') {p w x y : Int} (hp : 0 ≤ p ∧ p < s' 309 44) (r : y_Rf (fun u => y_fr (y_dc g) (g 248 p) (g 248 (p + 1) - 1) ≤ u ∧ u ≤ y_to (y_dc g) (g 248 p) (g 248 (p + 1) - 1)) (g 195) (g 197) (y_hc g w) x) (r' : y_Rf (y_uk s' p) (s' 3221) (s' 3222) (y_hm s' w) y) : x = y := by
  obtain ⟨⟨⟨c44, c200, lr, at'⟩, l2, l3, l4, l5⟩, b'⟩ := b.le ok yc h
  have a0 := lr p hp.1 (by omega)
  have a1 := lr (p + 1) (by omega) (by omega)
  have rr := at' p hp.1 (by omega)
  rw [a0, a1, b'.D] at r
  have ft := y_ft (D := y_dm s') (a := s' 3438 p) (b := s' 3438 (p + 1) - 1) (by omega)
  have nn := h.2.2.2.1.1.1.1
  have DF := h.2.2.2.1.1.2.1
  have lnu : ∀ u : Int, s' 3438 p ≤ u → u < s' 3438 (p + 1) → s' 3441 u = p := fun u q1 q2 => by
    obtain ⟨_, ⟨w0, w1⟩, w2, w3⟩ := l3 u (by omega) (by omega)
    have le : ∀ (m : Nat) (i j : Int), (m : Int) = j - i → 0 ≤ i → j ≤ g 240 6 → s' 3438 i ≤ s' 3438 j := fun m i j q3 q4 q5 => y_r_le (r := s' 3438) (c := g 240 6) (fun i q6 q7 => by have z := at' i q6 q7; omega) m i j q3 q4 q5
    rcases Int.lt_trichotomy (s' 3441 u) p with z | z | z
    · have z1 := le (p - (s' 3441 u + 1)).toNat (s' 3441 u + 1) p (by omega) (by omega) (by omega)
      omega
    · exact z
    · have z1 := le (s' 3441 u - (p + 1)).toNat (p + 1) (s' 3441 u) (by omega) (by omega) (by omega)
      omega
  have eU : ∀ u : Int, (y_fr (y_dm s') (s' 3438 p) (s' 3438 (p + 1) - 1) ≤ u ∧ u ≤ y_to (y_dm s') (s' 3438 p) (s' 3438 (p + 1) - 1)) ↔ y_uk s' p u := fun u => by
    have key : s' 3438 p ≤ u → u < s' 3438 (p + 1) → s' 3445 u = y_w (y_dm s') (s' 3438 p) (s' 3438 (p + 1) - 1) u ∧ s' 3220 u = y_dm s' 0 u := fun q1 q2 => by
      have z := (y_LBm.pl h.2.2.2.1 h.2.2.1 (u := u) (by omega) (by omega)).1
      rw [lnu u q1 q2] at z
      exact ⟨z, (y_dm0 ⟨by omega, by omega⟩).symm⟩
    constructor
    · intro q
      have q1 : s' 3438 p ≤ u := by omega
      have q2 : u < s' 3438 (p + 1) := by omega
      refine ⟨⟨q1, q2⟩, ?_⟩
      obtain ⟨k1, k2⟩ := key q1 q2
      by_cases z : s' 3220 u = 6
      · right
        have d := (DF u (by omega) (by omega)).2.2.1 (by omega)
        have nt : u ≠ y_to (y_dm s') (s' 3438 p) (s' 3438 (p + 1) - 1) := fun e => by
          have z2 := ft.2.2.2.2.1 (by omega)
          rw [← e] at z2
          omega
        rw [k1]
        unfold y_w
        rw [if_neg (by omega), if_neg (fun e => nt e.2), d]
        decide
      · exact Or.inl z
    · intro q
      obtain ⟨⟨q1, q2⟩, q3⟩ := q
      obtain ⟨k1, k2⟩ := key q1 q2
      by_cases z : u < y_fr (y_dm s') (s' 3438 p) (s' 3438 (p + 1) - 1) ∨ y_to (y_dm s') (s' 3438 p) (s' 3438 (p + 1) - 1) < u
      · exfalso
        have w0 : s' 3445 u = 0 := by rw [k1]; unfold y_w; rw [if_pos z]
        have k6 : y_dm s' 0 u = 6 := by
          rcases z with z | z
          · exact ft.2.2.1 u q1 z
          · exact ft.2.2.2.1 u z (by omega)
        omega
      · omega
  have e2 : ∀ u : Int, 0 ≤ u → u < s' 309 20 → g 195 u = s' 3221 u ∧ g 197 u = s' 3222 u := fun u q1 q2 => by
    obtain ⟨U, X, pu, c, _, _⟩ := b'
    obtain ⟨x1, x2, _⟩ := (X.1.EU U.2.1 pu).2.1 u q1 q2
    exact ⟨x1, x2⟩
  refine y_Rf_eq eU (fun u k => e2 u (by omega) (by omega)) (fun u i k p1 q1 => ?_) r r'
  have u0 : 0 ≤ u := by omega
  have u1 : u < s' 309 20 := by omega
  obtain ⟨x1, x2⟩ := e2 u u0 u1
  have ln := b'.ln u0 u1 (i := i) (by omega) (by omega)
  have pl := (y_LBm.pl h.2.2.2.1 h.2.2.1 u0 u1).2 i (by omega) (by omega)
  have lb := y_lm_b (s := s') (i := i)
  have uu := h.2.2.2.1.1.1.2.1 u u0 u1
  have i1 : i < s' 316 0 := by
    obtain ⟨U, X, pu, c, _, _⟩ := b'
    have z := pu.un u0 u1
    omega
  have e4 := l4 i (by omega) i1
  unfold y_hc y_hm
  rw [e4, ln, v_wid (x := s' 3443 i + y_lm s' i) (by omega), v_wid (x := s' 3443 i + y_lm s' i - 1) (by omega)]
  constructor <;> intro q <;> omega
