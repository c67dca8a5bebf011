/-! where lines may end, partners: both sides -/
theorem y_tg_in {K W : Int → Int} {T : Int} : ∀ (n : Nat) (v : Int), y_tg K W T n v = 1 ↔ ∃ u : Int, 0 ≤ u ∧ u < n ∧ K u = 4 ∧ y_pt K n u ≠ -1 ∧ y_TD W T u (y_pt K n u) ∧ u ≤ v ∧ v < y_pt K n u := by
  intro n
  induction n with
  | zero =>
    intro v
    constructor
    · intro h; exact absurd (show (0 : Int) = 1 from h) (by decide)
    · rintro ⟨u, h0, h1, _⟩; omega
  | succ n ih =>
    intro v
    rw [y_tg_s, y_pt_s]
    by_cases M : K n = 5 ∧ y_lo K (y_pt K n) n ≠ -1
    · have lb := y_lo_b (K := K) (p := y_pt K n) n
      have l4 := y_lo_4 (K := K) (p := y_pt K n) n M.2
      have M1 := M.1
      have M2 := M.2
      rw [if_pos M]
      generalize y_lo K (y_pt K n) n = q at *
      have other : ∀ u : Int, 0 ≤ u → u < n → K u = 4 → y_pt K n u ≠ -1 → (if u = (n : Int) then q else if u = q then (n : Int) else y_pt K n u) = y_pt K n u := fun u a b c d => by
        rw [if_neg (by omega), if_neg (fun w => d (by rw [w]; exact l4.2))]
      by_cases t : y_TD W T q n
      · rw [if_pos ⟨M, t⟩]
        show (if q ≤ v ∧ v < (n : Int) then (1 : Int) else y_tg K W T n v) = 1 ↔ _
        constructor
        · intro h
          by_cases c : q ≤ v ∧ v < (n : Int)
          · refine ⟨q, by omega, by omega, l4.1, ?_⟩
            show (if q = (n : Int) then q else if q = q then (n : Int) else y_pt K n q) ≠ -1 ∧ y_TD W T q (if q = (n : Int) then q else if q = q then (n : Int) else y_pt K n q) ∧ q ≤ v ∧ v < (if q = (n : Int) then q else if q = q then (n : Int) else y_pt K n q)
            rw [if_neg (show ¬ q = (n : Int) by omega), if_pos rfl]
            exact ⟨by omega, t, c.1, c.2⟩
          · rw [if_neg c] at h
            obtain ⟨u, h0, h1, h2, h3, h4, h5, h6⟩ := (ih v).mp h
            refine ⟨u, h0, by omega, h2, ?_⟩
            show (if u = (n : Int) then q else if u = q then (n : Int) else y_pt K n u) ≠ -1 ∧ y_TD W T u (if u = (n : Int) then q else if u = q then (n : Int) else y_pt K n u) ∧ u ≤ v ∧ v < (if u = (n : Int) then q else if u = q then (n : Int) else y_pt K n u)
            rw [other u h0 h1 h2 h3]
            exact ⟨h3, h4, h5, h6⟩
        · rintro ⟨u, h0, h1, h2, h3⟩
          have h3' : (if u = (n : Int) then q else if u = q then (n : Int) else y_pt K n u) ≠ -1 ∧ y_TD W T u (if u = (n : Int) then q else if u = q then (n : Int) else y_pt K n u) ∧ u ≤ v ∧ v < (if u = (n : Int) then q else if u = q then (n : Int) else y_pt K n u) := h3
          by_cases c : q ≤ v ∧ v < (n : Int)
          · rw [if_pos c]
          · rw [if_neg c]
            have un : u ≠ (n : Int) := fun w => by rw [w, M1] at h2; exact absurd h2 (by decide)
            rw [if_neg un] at h3'
            by_cases z : u = q
            · rw [if_pos z] at h3'
              exact absurd ⟨by omega, h3'.2.2.2⟩ c
            · rw [if_neg z] at h3'
              exact (ih v).mpr ⟨u, h0, by omega, h2, h3'⟩
      · rw [if_neg (fun w => t w.2)]
        constructor
        · intro h
          obtain ⟨u, h0, h1, h2, h3, h4, h5, h6⟩ := (ih v).mp h
          refine ⟨u, h0, by omega, h2, ?_⟩
          show (if u = (n : Int) then q else if u = q then (n : Int) else y_pt K n u) ≠ -1 ∧ y_TD W T u (if u = (n : Int) then q else if u = q then (n : Int) else y_pt K n u) ∧ u ≤ v ∧ v < (if u = (n : Int) then q else if u = q then (n : Int) else y_pt K n u)
          rw [other u h0 h1 h2 h3]
          exact ⟨h3, h4, h5, h6⟩
        · rintro ⟨u, h0, h1, h2, h3⟩
          have h3' : (if u = (n : Int) then q else if u = q then (n : Int) else y_pt K n u) ≠ -1 ∧ y_TD W T u (if u = (n : Int) then q else if u = q then (n : Int) else y_pt K n u) ∧ u ≤ v ∧ v < (if u = (n : Int) then q else if u = q then (n : Int) else y_pt K n u) := h3
          have un : u ≠ (n : Int) := fun w => by rw [w, M1] at h2; exact absurd h2 (by decide)
          rw [if_neg un] at h3'
          by_cases z : u = q
          · rw [if_pos z, z] at h3'
            exact absurd h3'.2.1 t
          · rw [if_neg z] at h3'
            exact (ih v).mpr ⟨u, h0, by omega, h2, h3'⟩
    · rw [if_neg M, if_neg (fun w => M w.1), ih v]
      constructor
      · rintro ⟨u, h0, h1, h2⟩
        exact ⟨u, h0, by omega, h2⟩
      · rintro ⟨u, h0, h1, h2, h3, h4⟩
        refine ⟨u, h0, ?_, h2, h3, h4⟩
        by_cases z : u = (n : Int)
        · rw [z, y_pt_ge n n (Int.le_refl _)] at h3
          exact absurd rfl h3
        · omega
/-- a line may end behind a unit -/
def y_me (D : z_M) (T n u : Int) : Int := if u + 1 < n ∧ D 0 u ≠ 4 ∧ D 0 (u + 1) ≠ 3 ∧ D 0 (u + 1) ≠ 5 ∧ y_tg (D 0) (D 1) T n.toNat u = 0 then 1 else 0
theorem y_me_01 {D : z_M} {T n u : Int} : y_me D T n u = 0 ∨ y_me D T n u = 1 := by
  unfold y_me
  by_cases h : u + 1 < n ∧ D 0 u ≠ 4 ∧ D 0 (u + 1) ≠ 3 ∧ D 0 (u + 1) ≠ 5 ∧ y_tg (D 0) (D 1) T n.toNat u = 0
  · rw [if_pos h]; exact Or.inr rfl
  · rw [if_neg h]; exact Or.inl rfl
/-- the kinds that pairs are told by are those below n alone -/
theorem y_tg_cg {K K' W W' : Int → Int} {T : Int} : ∀ n : Nat, (∀ i : Int, 0 ≤ i → i < n → K i = K' i ∧ W i = W' i) → y_tg K W T n = y_tg K' W' T n := by
  intro n
  induction n with
  | zero => intro _; rfl
  | succ n ih =>
    intro h
    have i := ih (fun i a b => h i a (by omega))
    have p := (y_pt_cg (K := K) (K' := K') n (fun i a b => (h i a (by omega)).1)).1
    have l := y_lo_cg (K := K) (p := y_pt K n) (K' := K') (p' := y_pt K' n) n (fun i a b => ⟨(h i a (by omega)).1, by rw [p]⟩)
    have lb := y_lo_b (K := K') (p := y_pt K' n) n
    rw [y_tg_s, y_tg_s, i, l, (h n (by omega) (by omega)).1]
    by_cases q : y_lo K' (y_pt K' n) n = -1
    · rw [if_neg (fun w => w.1.2 q), if_neg (fun w => w.1.2 q)]
    · have ws : y_sum W (y_lo K' (y_pt K' n) n) ((n : Int) + 1 - y_lo K' (y_pt K' n) n).toNat = y_sum W' (y_lo K' (y_pt K' n) n) ((n : Int) + 1 - y_lo K' (y_pt K' n) n).toNat := y_sum_cg _ (fun j a b => (h j (by omega) (by omega)).2)
      unfold y_TD
      rw [ws]
/-- the class's row -/
theorem y_U2.me {g : z_M} (u : y_U2 g) (t : y_TOK g) (n : 0 ≤ g 191 16 ∧ g 191 16 ≤ 200) (d : y_DF (y_dc g) (g 191 16)) (w4 : ∀ x : Int, 0 ≤ x → x < g 191 16 → g 193 x = 4 → 1 ≤ g 199 x) {v : Int} (h0 : 0 ≤ v) (h1 : v < g 191 16) : g 209 v = y_me (y_dc g) (g 3 7) (g 191 16) v := by
  have ud := u.2.2 t
  have pr := ud.2.2.1.1
  have K : ∀ x : Int, 0 ≤ x → x < g 191 16 → y_dc g 0 x = g 193 x ∧ y_dc g 1 x = g 199 x := fun x a b => ⟨y_dc0 ⟨a, b⟩, y_dc1 ⟨a, b⟩⟩
  have ep := (y_pt_cg (K := g 193) (K' := y_dc g 0) (g 191 16).toNat (fun i a b => ((K i a (by omega)).1).symm)).1
  -- tied pairs alike
  have tie : y_in g (g 191 16) v ↔ y_tg (y_dc g 0) (y_dc g 1) (g 3 7) (g 191 16).toNat v = 1 := by
    rw [y_tg_in]
    constructor
    · rintro ⟨x, a, b, ⟨k4, p1, p2⟩, c, e⟩
      have px := pr x a b
      have pk := (y_pt_ok (K := g 193) (g 191 16).toNat x (by rw [← px]; exact p1)).1
      rw [← px] at pk
      have dx := pk.2.2
      have lt : x < g 207 x := by omega
      refine ⟨x, a, by omega, by rw [(K x a b).1]; exact k4, by rw [← ep, ← px]; exact p1, ?_, c, by rw [← ep, ← px]; exact e⟩
      rw [← ep, ← px]
      have b1 := (ud.2.1 (g 207 x + 1) (by omega) (by omega)).1
      have b2 := (ud.2.1 x a (by omega)).1
      have eb := y_bef (D := fun _ => g 199) (x := x) (y := g 207 x + 1) a (by omega)
      have es : y_sum (y_dc g 1) x (g 207 x + 1 - x).toNat = y_sum (g 199) x (g 207 x + 1 - x).toNat := y_sum_cg _ (fun j q r => (K j (by omega) (by omega)).2)
      have eb2 : y_sum (g 199) 0 (g 207 x + 1).toNat - y_sum (g 199) 0 x.toNat = y_sum (g 199) x (g 207 x + 1 - x).toNat := eb
      have pos : 1 ≤ y_sum (g 199) x (g 207 x + 1 - x).toNat := by
        have s1 := y_sum_pt (f := g 199) (a := x) (x := x + 1) (y := g 207 x + 1) (by omega) (by omega)
        have s2 := y_sum_r (f := g 199) (a := x + 1) (m := 2400) (g 207 x + 1 - (x + 1)).toNat (fun j q r => by rw [← (K j (by omega) (by omega)).2]; exact (d j (by omega) (by omega)).2.1)
        have s3 : y_sum (g 199) x (x + 1 - x).toNat = g 199 x := by
          rw [show (x + 1 - x).toNat = 0 + 1 by omega, y_sum_s]
          show 0 + g 199 (x + ((0 : Nat) : Int)) = g 199 x
          rw [show x + ((0 : Nat) : Int) = x by omega, Int.zero_add]
        have := w4 x a b k4
        omega
      exact ⟨by omega, by rw [es]; omega⟩
    · rintro ⟨x, a, b, k4, p1, ⟨_, p2⟩, c, e⟩
      have bx : x < g 191 16 := by omega
      rw [(K x a bx).1] at k4
      have px := pr x a bx
      rw [← ep, ← px] at p1 p2 e
      have pk := (y_pt_ok (K := g 193) (g 191 16).toNat x (by rw [← px]; exact p1)).1
      rw [← px] at pk
      have b1 := (ud.2.1 (g 207 x + 1) (by omega) (by omega)).1
      have b2 := (ud.2.1 x a (by omega)).1
      have eb : y_sum (g 199) 0 (g 207 x + 1).toNat - y_sum (g 199) 0 x.toNat = y_sum (g 199) x (g 207 x + 1 - x).toNat := y_bef (D := fun _ => g 199) (x := x) (y := g 207 x + 1) a (by omega)
      have es : y_sum (y_dc g 1) x (g 207 x + 1 - x).toNat = y_sum (g 199) x (g 207 x + 1 - x).toNat := y_sum_cg _ (fun j q r => (K j (by omega) (by omega)).2)
      exact ⟨x, a, bx, ⟨k4, p1, by omega⟩, c, e⟩
  have t01 := y_tg_01 (K := y_dc g 0) (W := y_dc g 1) (T := g 3 7) (g 191 16).toNat v
  unfold y_me
  rcases ud.2.2.2.1 v h0 h1 with ⟨q, e⟩ | ⟨q, e⟩
  · rw [e, if_neg (fun w => by have := tie.mp q; omega)]
  · rw [e]
    have t0 : y_tg (y_dc g 0) (y_dc g 1) (g 3 7) (g 191 16).toNat v = 0 := by
      rcases t01 with z | z
      · exact z
      · exact absurd (tie.mpr z) q
    unfold y_ae
    by_cases c : v < g 191 16 - 1
    · have k1 := (K v h0 h1).1
      have k2 := (K (v + 1) (by omega) (by omega)).1
      rw [k1, k2]
      by_cases c2 : g 193 v ≠ 4 ∧ g 193 (v + 1) ≠ 3 ∧ g 193 (v + 1) ≠ 5
      · rw [if_pos ⟨c, c2⟩, if_pos ⟨by omega, c2.1, c2.2.1, c2.2.2, t0⟩]
      · rw [if_neg (fun w => c2 w.2), if_neg (fun w => c2 ⟨w.2.1, w.2.2.1, w.2.2.2.1⟩)]
    · rw [if_neg (fun w => c w.1), if_neg (fun w => c (by have := w.1; omega))]
theorem em_mayEnd {fu : Nat} (hfu : 8589934592 ≤ fu) {D s : z_M} (h : y_MU2 D s) (hT : 0 ≤ s 312 7 ∧ s 312 7 ≤ 1000) (hk : s 309 36 = 0 ∨ y_KF D s) {u : Int} (hu : 0 ≤ u ∧ u < s 309 20) :
    z_T (fX12_mayEnd fu s 309 u) (fun v s' => v = vI (y_me D (s 312 7) (s 309 20) u) ∧ s' 309 36 ≠ 0 ∧ y_KF D s' ∧ (s 309 36 ≠ 0 → s' = s) ∧ (s 309 36 = 0 → s' 309 43 = 0) ∧ ∀ x b : Int, ¬ y_fw x b → s' x b = s x b) := by
  have nn := h.1.1
  refine T_of (fX12_mayEnd.eq_1 ..) ?_
  refine T_if1 v_ob309 ?_
  refine T_useN (em_freshens hfu h hT hk) (fun v s1 hq => ?_)
  obtain ⟨rfl, n36, kf, same, z43, f1⟩ := hq
  refine T_vN ?_
  have e20 : s1 309 20 = s 309 20 := f1 _ _ (by omega)
  have e7 : s1 312 7 = s 312 7 := f1 _ _ (by omega)
  have h1 : y_MU2 D s1 := h.fr e20 (fun x b p r => f1 x b (by omega)) (fun j r => f1 _ _ (by omega))
  have fin : ∀ x : Int, (x = 0 ∨ x = 1) → x = y_me D (s 312 7) (s 309 20) u → z_T (fX12_mayEnd_J48 fu s1 x) (fun v s' => v = vI (y_me D (s 312 7) (s 309 20) u) ∧ s' 309 36 ≠ 0 ∧ y_KF D s' ∧ (s 309 36 ≠ 0 → s' = s) ∧ (s 309 36 = 0 → s' 309 43 = 0) ∧ ∀ x b : Int, ¬ y_fw x b → s' x b = s x b) := fun x hx e => by
    refine T_of (fX12_mayEnd_J48.eq_1 ..) ?_
    refine T_if1 (show z_bl x from hx) ?_
    rw [e]
    exact T_ret ⟨rfl, n36, kf, same, z43, f1⟩
  have no : ¬ (u + 1 < s 309 20 ∧ D 0 u ≠ 4 ∧ D 0 (u + 1) ≠ 3 ∧ D 0 (u + 1) ≠ 5 ∧ y_tg (D 0) (D 1) (s 312 7) (s 309 20).toNat u = 0) → z_T (fX12_mayEnd_J47 fu s1) (fun v s' => v = vI (y_me D (s 312 7) (s 309 20) u) ∧ s' 309 36 ≠ 0 ∧ y_KF D s' ∧ (s 309 36 ≠ 0 → s' = s) ∧ (s 309 36 = 0 → s' 309 43 = 0) ∧ ∀ x b : Int, ¬ y_fw x b → s' x b = s x b) := fun w => by
    refine T_of (fX12_mayEnd_J47.eq_1 ..) ?_
    refine fin 0 (Or.inl rfl) ?_
    unfold y_me
    rw [if_neg w]
  have u2 : 0 ≤ u ∧ u < 200 := by omega
  refine T_let (u + 1) (v_wid (by omega)) ?_
  refine T_if1 v_ob309 ?_
  refine T_let (s 309 20) e20 ?_
  refine T_ite (fun q => no (fun w => by have := w.1; omega)) (fun q => ?_)
  have u3 : 0 ≤ u + 1 ∧ u + 1 < 200 := by omega
  refine T_if1 v_ob309 ?_
  refine T_let 3220 v_gm21 ?_
  refine T_if1 (v_x3220 u2) ?_
  refine T_let (D 0 u) (h1.2.2.1 u (by omega) (by omega)).1 ?_
  refine T_ite (fun q2 => no (fun w => w.2.1 q2)) (fun q2 => ?_)
  refine T_let (u + 1) (v_wid (by omega)) ?_
  refine T_if1 v_ob309 ?_
  refine T_bI (T_of (em_isPoint u3) (T_rI ?_))
  rw [(h1.2.2.1 (u + 1) (by omega) (by omega)).1]
  by_cases p : D 0 (u + 1) = 3 ∨ D 0 (u + 1) = 5
  · rw [if_pos p]
    refine T_if1 (by decide) ?_
    exact no (fun w => p.elim w.2.2.1 w.2.2.2.1)
  · rw [if_neg p]
    refine T_if0 (by decide) ?_
    refine T_if1 v_ob309 ?_
    refine T_let 3437 v_gm42 ?_
    refine T_if1 (v_x3437 u2) ?_
    have e37 : s1 3437 u = y_tg (D 0) (D 1) (s 312 7) (s 309 20).toNat u := by
      have := kf.2.2.2.1 u hu.1 (by omega)
      rw [e7, e20] at this
      exact this
    refine T_let (y_tg (D 0) (D 1) (s 312 7) (s 309 20).toNat u) e37 ?_
    refine T_ite (fun q3 => no (fun w => q3 w.2.2.2.2)) (fun q3 => ?_)
    refine fin 1 (Or.inr rfl) ?_
    unfold y_me
    rw [if_pos ⟨by omega, q2, fun w => p (Or.inl w), fun w => p (Or.inr w), by omega⟩]
theorem em_isUnit {fu : Nat} {s : z_M} {u : Int} (hn : 0 ≤ s 309 20 ∧ s 309 20 ≤ 200) : fX12_isUnit fu s 309 u = some (vI (if 0 ≤ u ∧ u < s 309 20 then 1 else 0), s) := by
  unfold fX12_isUnit
  simp only [z_let, if_pos v_ob309, em_in, zb_I]
  rw [v_wid (show -2147483648 ≤ s 309 20 - 1 ∧ s 309 20 - 1 ≤ 2147483647 by omega)]
  by_cases h : 0 ≤ u ∧ u < s 309 20
  · rw [if_pos h, if_pos (show 0 ≤ u ∧ u ≤ s 309 20 - 1 by omega), if_pos bl1]
  · rw [if_neg h, if_neg (show ¬ (0 ≤ u ∧ u ≤ s 309 20 - 1) by omega), if_pos bl0]
