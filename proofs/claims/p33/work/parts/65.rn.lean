/-! RUNS of signs turned, or not: both sides -/
/-- from j on as far as T is v -/
def y_re (T : Int → Int) (n v : Int) : Nat → Int → Int
  | 0, j => j
  | m + 1, j => if n ≤ j then j else if T j = v then y_re T n v m (j + 1) else j
def y_rv (T : Int → Int) (n k w : Int) : Nat → Int → Int → Int
  | 0, _, _ => -1
  | m + 1, i, r => if n ≤ i then -1 else if r = k then (if w = 0 then i else if w = 1 then y_re T n (T i) (n - i).toNat (i + 1) - i else T i) else y_rv T n k w m (y_re T n (T i) (n - i).toNat (i + 1)) (r + 1)
theorem y_re_e {T : Int → Int} {n v j : Int} {m : Nat} : y_re T n v (m + 1) j = if n ≤ j then j else if T j = v then y_re T n v m (j + 1) else j := rfl
theorem y_rv_e {T : Int → Int} {n k w i r : Int} {m : Nat} : y_rv T n k w (m + 1) i r = if n ≤ i then -1 else if r = k then (if w = 0 then i else if w = 1 then y_re T n (T i) (n - i).toNat (i + 1) - i else T i) else y_rv T n k w m (y_re T n (T i) (n - i).toNat (i + 1)) (r + 1) := rfl
theorem y_re_b {T : Int → Int} {n v : Int} : ∀ (m : Nat) (j : Int), j ≤ y_re T n v m j ∧ (y_re T n v m j ≤ n ∨ y_re T n v m j = j) := by
  intro m
  induction m with
  | zero => intro j; exact ⟨Int.le_refl _, Or.inr rfl⟩
  | succ m ih =>
    intro j
    rw [y_re_e]
    by_cases h : n ≤ j
    · rw [if_pos h]; exact ⟨Int.le_refl _, Or.inr rfl⟩
    · rw [if_neg h]
      by_cases g : T j = v
      · rw [if_pos g]
        have := ih (j + 1)
        omega
      · rw [if_neg g]; exact ⟨Int.le_refl _, Or.inr rfl⟩
theorem y_re_1 {T : Int → Int} {n v : Int} : ∀ (m : Nat) (j : Int), n - j ≤ m → y_re T n v (m + 1) j = y_re T n v m j := by
  intro m
  induction m with
  | zero =>
    intro j h
    rw [y_re_e, if_pos (by omega)]; rfl
  | succ m ih =>
    intro j h
    rw [y_re_e (m := m + 1) (j := j), y_re_e (m := m) (j := j)]
    by_cases h : n ≤ j
    · rw [if_pos h, if_pos h]
    · rw [if_neg h, if_neg h]
      by_cases g : T j = v
      · rw [if_pos g, if_pos g]; exact ih (j + 1) (by omega)
      · rw [if_neg g, if_neg g]
theorem y_re_s {T : Int → Int} {n v : Int} {a b : Nat} {j : Int} (ha : n - j ≤ a) (hb : n - j ≤ b) : y_re T n v a j = y_re T n v b j := by
  have k : ∀ (d : Nat) (m : Nat), n - j ≤ m → y_re T n v (m + d) j = y_re T n v m j := by
    intro d
    induction d with
    | zero => intro m _; rfl
    | succ d ih => intro m hm; rw [← ih m hm]; exact y_re_1 (m + d) j (by omega)
  by_cases q : a ≤ b
  · obtain ⟨d, rfl⟩ : ∃ d, b = a + d := ⟨b - a, by omega⟩
    exact (k d a ha).symm
  · obtain ⟨d, rfl⟩ : ∃ d, a = b + d := ⟨a - b, by omega⟩
    exact k d b hb
theorem y_re_cg {T T' : Int → Int} {n : Int} (e : ∀ i : Int, 0 ≤ i → i < n → T i = T' i) (v : Int) : ∀ (m : Nat) (j : Int), 0 ≤ j → y_re T n v m j = y_re T' n v m j := by
  intro m
  induction m with
  | zero => intro j _; rfl
  | succ m ih =>
    intro j h
    rw [y_re_e, y_re_e]
    by_cases h2 : n ≤ j
    · rw [if_pos h2, if_pos h2]
    · rw [if_neg h2, if_neg h2, e j h (by omega), ih (j + 1) (by omega)]
theorem y_rv_cg {T T' : Int → Int} {n k w : Int} (e : ∀ i : Int, 0 ≤ i → i < n → T i = T' i) : ∀ (m : Nat) (i r : Int), 0 ≤ i → y_rv T n k w m i r = y_rv T' n k w m i r := by
  intro m
  induction m with
  | zero => intro i r _; rfl
  | succ m ih =>
    intro i r h
    rw [y_rv_e, y_rv_e]
    by_cases h2 : n ≤ i
    · rw [if_pos h2, if_pos h2]
    · rw [if_neg h2, if_neg h2, e i h (by omega), y_re_cg e _ _ _ (show 0 ≤ i + 1 by omega)]
      rw [ih _ _ (by have := (y_re_b (T := T') (n := n) (v := T' i) (n - i).toNat (i + 1)).1; omega)]
/-- one step more -/
theorem y_rv_1 {T : Int → Int} {n k w : Int} : ∀ (m : Nat) (i r : Int), n - i ≤ m → y_rv T n k w (m + 1) i r = y_rv T n k w m i r := by
  intro m
  induction m with
  | zero =>
    intro i r h
    rw [y_rv_e, if_pos (by omega)]; rfl
  | succ m ih =>
    intro i r h
    rw [y_rv_e (m := m + 1) (i := i) (r := r), y_rv_e (m := m) (i := i) (r := r)]
    by_cases h2 : n ≤ i
    · rw [if_pos h2, if_pos h2]
    · rw [if_neg h2, if_neg h2]
      by_cases g : r = k
      · rw [if_pos g, if_pos g]
      · rw [if_neg g, if_neg g]
        exact ih _ _ (by have := (y_re_b (T := T) (n := n) (v := T i) (n - i).toNat (i + 1)).1; omega)
theorem y_rv_s {T : Int → Int} {n k w : Int} {a b : Nat} {i r : Int} (ha : n - i ≤ a) (hb : n - i ≤ b) : y_rv T n k w a i r = y_rv T n k w b i r := by
  have q : ∀ (d : Nat) (m : Nat), n - i ≤ m → y_rv T n k w (m + d) i r = y_rv T n k w m i r := by
    intro d
    induction d with
    | zero => intro m _; rfl
    | succ d ih => intro m hm; rw [← ih m hm]; exact y_rv_1 (m + d) i r (by omega)
  by_cases z : a ≤ b
  · obtain ⟨d, rfl⟩ : ∃ d, b = a + d := ⟨b - a, by omega⟩
    exact (q d a ha).symm
  · obtain ⟨d, rfl⟩ : ∃ d, a = b + d := ⟨a - b, by omega⟩
    exact q d b hb
/-! the class -/
theorem v_r218' : z_rw 218 ∧ z_gr 218 0 = 219 ∧ z_ln 218 = 200 := v_r218
theorem v_g1_2' : z_gr 1 2 = 6 ∧ z_gr 1 6 = 191 := by decide +kernel
theorem e_run74 {fu : Nat} {s : z_M} {k w r f j t : Int} {rr : z_M → Int → Int → Int → z_O} {kk : z_M → z_O} (hr : 0 ≤ r ∧ r ≤ 1000) (hj : 0 ≤ j ∧ j ≤ 1000) (hf : 0 ≤ f ∧ f ≤ 1000) : fX11_run_J74 fu s 1 k w r f j t rr kk = if r = k then some (vI (if w = 0 then f else if w = 1 then j - f else t), s) else rr s (r + 1) j (j + 1) := by
  unfold fX11_run_J74 fX11_run_J111 fX11_run_J103
  simp only [z_let]
  by_cases h : r ≠ k
  · rw [if_pos h, if_neg h, v_wid (by omega), v_wid (by omega)]
  · rw [if_neg h, if_pos (show r = k by omega)]
    by_cases h0 : w ≠ 0
    · rw [if_pos h0, if_neg (show ¬ w = 0 from h0)]
      by_cases h1 : w ≠ 1
      · rw [if_pos h1, if_neg (show ¬ w = 1 from h1)]
      · rw [if_neg h1, if_pos (show w = 1 by omega), v_wid (by omega)]
    · rw [if_neg h0, if_pos (show w = 0 by omega)]
theorem e_runL {fu : Nat} {s : z_M} {k w n : Int} (hn : s 6 6 = n) (h2 : 0 ≤ n ∧ n ≤ 200) : ∀ (m F : Nat) (r f j : Int), (m : Int) = n + 1 - j → m < F → 0 ≤ f → f < j → j ≤ n + 1 → 0 ≤ r → r ≤ f → (j = n + 1 → f = n ∨ n = 0) →
    (j ≤ n → y_re (s 219) n (s 219 f) (n - f).toNat (f + 1) = y_re (s 219) n (s 219 f) (n - j).toNat j) → fX11_run_L19 fu 1 k w F s r f j (fun s18 => some (vI (-1), s18)) = some (vI (y_rv (s 219) n k w (n - f).toNat f r), s) := by
  intro m
  induction m with
  | zero =>
    intro F r f j h1 hF h3 h4 h5 h6 h7 h8 h9
    obtain ⟨F, rfl⟩ : ∃ F2, F = F2 + 1 := ⟨F - 1, by omega⟩
    rw [fX11_run_L19.eq_2]
    simp only [z_let, if_pos v_ob1, v_g1_2'.1, if_pos v_ob6, hn]
    rw [if_pos (by omega)]
    by_cases q : f = n
    · rw [show (n - f).toNat = 0 by omega]; rfl
    · have := h8 (by omega)
      rw [show (n - f).toNat = 0 by omega]; rfl
  | succ m ih =>
    intro F r f j h1 hF h3 h4 h5 h6 h7 h8 h9
    obtain ⟨F, rfl⟩ : ∃ F2, F = F2 + 1 := ⟨F - 1, by omega⟩
    have hj := h9 (by omega)
    have er : ∀ e : Int, y_re (s 219) n (s 219 f) (n - f).toNat (f + 1) = e → y_rv (s 219) n k w (n - f).toNat f r = if r = k then (if w = 0 then f else if w = 1 then e - f else s 219 f) else y_rv (s 219) n k w (n - e).toNat e (r + 1) := by
      intro e he
      have be := (y_re_b (T := s 219) (n := n) (v := s 219 f) (n - f).toNat (f + 1)).1
      obtain ⟨d, hd⟩ : ∃ d, (n - f).toNat = d + 1 := ⟨(n - f).toNat - 1, by omega⟩
      have e1 : y_rv (s 219) n k w (n - f).toNat f r = y_rv (s 219) n k w (d + 1) f r := by rw [hd]
      rw [e1, y_rv_e, if_neg (by omega), he, y_rv_s (a := d) (b := (n - e).toNat) (by omega) (by omega)]
    rw [fX11_run_L19.eq_2]
    simp only [z_let, if_pos v_ob1, v_g1_2'.1, v_g1_2'.2, if_pos v_ob6, if_pos v_ob191, v_u15, if_pos v_r218.1.1, e_get v_r218.1, v_rgn v_r218.2.1 v_r218.2.2 (show 0 ≤ f ∧ f < 200 by omega), zb_I, hn]
    rw [if_neg (by omega)]
    by_cases q : j = n
    · rw [if_pos q, e_run74 (by omega) (by omega) (by omega), er j (by rw [hj, q, show (n - n).toNat = 0 by omega]; rfl)]
      by_cases z : r = k
      · rw [if_pos z, if_pos z]
      · rw [if_neg z, if_neg z]
        exact ih F _ _ _ (by omega) (by omega) (by omega) (by omega) (by omega) (by omega) (by omega) (fun _ => Or.inl q) (fun y => absurd y (by omega))
    · rw [if_neg q]
      simp only [v_rgn v_r218.2.1 v_r218.2.2 (show 0 ≤ j ∧ j < 200 by omega), zb_I]
      obtain ⟨d, hd⟩ : ∃ d, (n - j).toNat = d + 1 := ⟨(n - j).toNat - 1, by omega⟩
      have st : y_re (s 219) n (s 219 f) (n - j).toNat j = if s 219 j = s 219 f then y_re (s 219) n (s 219 f) d (j + 1) else j := by
        rw [hd, y_re_e, if_neg (by omega)]
      by_cases y : s 219 j = s 219 f
      · rw [if_pos y]
        unfold fX11_run_J111
        simp only [z_let]
        rw [v_wid (by omega)]
        refine ih F _ _ _ (by omega) (by omega) (by omega) (by omega) (by omega) (by omega) (by omega) (fun _ => by omega) (fun _ => ?_)
        rw [hj, st, if_pos y]
        exact y_re_s (by omega) (by omega)
      · rw [if_neg y, e_run74 (by omega) (by omega) (by omega), er j (by rw [hj, st, if_neg y])]
        by_cases z : r = k
        · rw [if_pos z, if_pos z]
        · rw [if_neg z, if_neg z]
          exact ih F _ _ _ (by omega) (by omega) (by omega) (by omega) (by omega) (by omega) (by omega) (fun _ => by omega) (fun _ => y_re_s (by omega) (by omega))
