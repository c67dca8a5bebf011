/-! UNITS: both sides part the signs alike -/
def y_cn (st : Int → Int) : Nat → Int
  | 0 => 0
  | n + 1 => y_cn st n + st n
def y_01 (st : Int → Int) : Prop := ∀ i, st i = 0 ∨ st i = 1
theorem y_cn_cg {st st' : Int → Int} : ∀ n : Nat, (∀ j : Nat, j < n → st j = st' j) → y_cn st n = y_cn st' n := by
  intro n
  induction n with
  | zero => intro _; rfl
  | succ n ih =>
    intro h
    show y_cn st n + st n = y_cn st' n + st' n
    rw [ih (fun j hj => h j (by omega)), h n (by omega)]
theorem y_cn_b {st : Int → Int} (h : y_01 st) : ∀ n : Nat, 0 ≤ y_cn st n ∧ y_cn st n ≤ n := by
  intro n
  induction n with
  | zero => exact ⟨Int.le_refl 0, Int.le_refl 0⟩
  | succ n ih =>
    have q := h n
    show 0 ≤ y_cn st n + st n ∧ y_cn st n + st n ≤ ((n + 1 : Nat) : Int)
    omega
theorem y_cn_mono {st : Int → Int} (h : y_01 st) {m : Nat} : ∀ n : Nat, m ≤ n → y_cn st m ≤ y_cn st n := by
  intro n
  induction n with
  | zero => intro q; rw [show m = 0 by omega]; exact Int.le_refl _
  | succ n ih =>
    intro q
    by_cases z : m = n + 1
    · rw [z]; exact Int.le_refl _
    · have := ih (by omega)
      have w := h n
      show y_cn st m ≤ y_cn st n + st n
      omega
theorem y_cn_s {st : Int → Int} {j : Nat} (h : st j = 1) : y_cn st (j + 1) = y_cn st j + 1 := by
  show y_cn st j + st j = _
  rw [h]
theorem y_cn_nth {st : Int → Int} (h : y_01 st) : ∀ (n : Nat) (u : Int), 0 ≤ u → u < y_cn st n → ∃ j : Nat, j < n ∧ st j = 1 ∧ y_cn st j = u := by
  intro n
  induction n with
  | zero => intro u h0 h1; have : u < 0 := h1; omega
  | succ n ih =>
    intro u h0 h1
    by_cases q : u < y_cn st n
    · obtain ⟨j, a, b, c⟩ := ih u h0 q
      exact ⟨j, by omega, b, c⟩
    · have h2 : u < y_cn st n + st n := h1
      have w := h n
      exact ⟨n, by omega, by omega, by omega⟩
/-- the first n signs are parted: c units -/
def y_PT (st K f z k u : Int → Int) (c : Int) (n : Nat) : Prop := c = y_cn st n ∧ (∀ j : Nat, j < n → st j = 1 → f (y_cn st j) = j ∧ k (y_cn st j) = K j) ∧ (∀ j : Nat, j < n → u j = y_cn st (j + 1) - 1) ∧ ∀ v : Int, 0 ≤ v → v < c → f v + z v = if v + 1 < c then f (v + 1) else (n : Int)
theorem y_PT.z {st K f z k u : Int → Int} : y_PT st K f z k u 0 0 := ⟨rfl, fun j hj => absurd hj (Nat.not_lt_zero j), fun j hj => absurd hj (Nat.not_lt_zero j), fun v a b => by omega⟩
theorem y_PT.new {st K f z k u f' z' k' u' : Int → Int} {c c' : Int} {n : Nat} (h : y_PT st K f z k u c n) (h01 : y_01 st) (hs : st n = 1) (hc : c' = c + 1) (f1 : f' c = n) (f2 : ∀ b, b < c → f' b = f b) (z1 : z' c = 1) (z2 : ∀ b, b < c → z' b = z b) (k1 : k' c = K n) (k2 : ∀ b, b < c → k' b = k b) (u1 : u' n = c) (u2 : ∀ j : Nat, j < n → u' j = u j) : y_PT st K f' z' k' u' c' (n + 1) := by
  subst hc
  obtain ⟨a1, a2, a3, a4⟩ := h
  refine ⟨by rw [y_cn_s hs, a1], fun j hj sj => ?_, fun j hj => ?_, fun v h0 h1 => ?_⟩
  · by_cases q : j = n
    · subst q
      rw [← a1]; exact ⟨f1, k1⟩
    · have lt : y_cn st j < c := by
        have := y_cn_mono h01 n (show j + 1 ≤ n by omega)
        rw [y_cn_s sj] at this
        omega
      rw [f2 _ lt, k2 _ lt]
      exact a2 j (by omega) sj
  · by_cases q : j = n
    · subst q
      rw [y_cn_s hs, u1]; omega
    · rw [u2 j (by omega)]; exact a3 j (by omega)
  · by_cases q : v = c
    · subst q
      rw [f1, z1, if_neg (by omega)]
      omega
    · have e := a4 v h0 (by omega)
      rw [f2 v (by omega), z2 v (by omega), e, if_pos (show v + 1 < c + 1 by omega)]
      by_cases q2 : v + 1 < c
      · rw [if_pos q2, f2 _ q2]
      · rw [if_neg q2, show v + 1 = c by omega, f1]
theorem y_PT.inc {st K f z k u f' z' k' u' : Int → Int} {c c1 : Int} {n : Nat} (h : y_PT st K f z k u c n) (hs : st n = 0) (hc : c1 = c - 1) (h1 : 1 ≤ c) (f2 : ∀ b, b < c → f' b = f b) (z1 : z' c1 = z c1 + 1) (z2 : ∀ b, b < c1 → z' b = z b) (k2 : ∀ b, b < c → k' b = k b) (u1 : u' n = c1) (u2 : ∀ j : Nat, j < n → u' j = u j) (h01 : y_01 st) : y_PT st K f' z' k' u' c (n + 1) := by
  subst hc
  obtain ⟨a1, a2, a3, a4⟩ := h
  have e1 : y_cn st (n + 1) = y_cn st n := by
    show y_cn st n + st n = _
    rw [hs]; omega
  refine ⟨by rw [e1, a1], fun j hj sj => ?_, fun j hj => ?_, fun v h0 h3 => ?_⟩
  · by_cases q : j = n
    · subst q; omega
    · have lt : y_cn st j < c := by
        have := y_cn_mono h01 n (show j + 1 ≤ n by omega)
        rw [y_cn_s sj] at this
        omega
      rw [f2 _ lt, k2 _ lt]
      exact a2 j (by omega) sj
  · by_cases q : j = n
    · subst q
      rw [e1, u1]; omega
    · rw [u2 j (by omega)]; exact a3 j (by omega)
  · have e := a4 v h0 h3
    by_cases q : v = c - 1
    · subst q
      rw [if_neg (by omega)] at e ⊢
      rw [f2 _ h3, z1]
      omega
    · rw [f2 v h3, z2 v (by omega), e, if_pos (show v + 1 < c by omega), if_pos (show v + 1 < c by omega), f2 _ (by omega)]
theorem y_PT.cg {st K st' K' f z k u : Int → Int} {c : Int} {n : Nat} (h : y_PT st K f z k u c n) (e : ∀ j : Nat, j < n → st j = st' j ∧ K j = K' j) : y_PT st' K' f z k u c n := by
  obtain ⟨a1, a2, a3, a4⟩ := h
  have ec : ∀ m : Nat, m ≤ n → y_cn st m = y_cn st' m := fun m hm => y_cn_cg m (fun j hj => (e j (by omega)).1)
  refine ⟨by rw [← ec n (Nat.le_refl n)]; exact a1, fun j hj sj => ?_, fun j hj => ?_, a4⟩
  · rw [← (e j hj).1] at sj
    rw [← ec j (by omega), ← (e j hj).2]
    exact a2 j hj sj
  · rw [← ec (j + 1) (by omega)]; exact a3 j hj
theorem y_PT.fr {st K f z k u f' z' k' u' : Int → Int} {c : Int} {n : Nat} (h : y_PT st K f z k u c n) (h01 : y_01 st) (f2 : ∀ b, b < c → f' b = f b) (z2 : ∀ b, b < c → z' b = z b) (k2 : ∀ b, b < c → k' b = k b) (u2 : ∀ j : Nat, j < n → u' j = u j) : y_PT st K f' z' k' u' c n := by
  obtain ⟨a1, a2, a3, a4⟩ := h
  refine ⟨a1, fun j hj sj => ?_, fun j hj => ?_, fun v h0 h3 => ?_⟩
  · have lt : y_cn st j < c := by
      have := y_cn_mono h01 n (show j + 1 ≤ n by omega)
      rw [y_cn_s sj] at this
      omega
    rw [f2 _ lt, k2 _ lt]
    exact a2 j (by omega) sj
  · rw [u2 j hj]; exact a3 j hj
  · rw [f2 v h3, z2 v h3, a4 v h0 h3]
    by_cases q : v + 1 < c
    · rw [if_pos q, if_pos q, f2 _ q]
    · rw [if_neg q, if_neg q]
/-- there is but one way -/
theorem y_PT.eq {st K st' K' f z k u f' z' k' u' : Int → Int} {c c' : Int} {n : Nat} (h : y_PT st K f z k u c n) (h' : y_PT st' K' f' z' k' u' c' n) (h01 : y_01 st) (e : ∀ j : Nat, j < n → st j = st' j ∧ K j = K' j) : c = c' ∧ (∀ v : Int, 0 ≤ v → v < c → f v = f' v ∧ z v = z' v ∧ k v = k' v) ∧ ∀ j : Nat, j < n → u j = u' j := by
  have h2 := h'.cg (fun j hj => ⟨(e j hj).1.symm, (e j hj).2.symm⟩)
  obtain ⟨a1, a2, a3, a4⟩ := h
  obtain ⟨b1, b2, b3, b4⟩ := h2
  have ec : c' = c := by rw [a1, b1]
  subst ec
  have ef : ∀ v : Int, 0 ≤ v → v < c' → f v = f' v ∧ k v = k' v := fun v h0 h1 => by
    obtain ⟨j, x1, x2, x3⟩ := y_cn_nth h01 n v h0 (by omega)
    have p := a2 j x1 x2
    have q := b2 j x1 x2
    rw [x3] at p q
    exact ⟨by rw [p.1, q.1], by rw [p.2, q.2]⟩
  refine ⟨rfl, fun v h0 h1 => ⟨(ef v h0 h1).1, ?_, (ef v h0 h1).2⟩, fun j hj => by rw [a3 j hj, b3 j hj]⟩
  have p := a4 v h0 h1
  have q := b4 v h0 h1
  by_cases y : v + 1 < c'
  · rw [if_pos y] at p q
    have r := (ef (v + 1) (by omega) y).1
    have r2 := (ef v h0 h1).1
    omega
  · rw [if_neg y] at p q
    have r2 := (ef v h0 h1).1
    omega
/-- where a unit begins -/
theorem y_PT.at {st K f z k u : Int → Int} {c : Int} {n : Nat} (h : y_PT st K f z k u c n) (h01 : y_01 st) {v : Int} (h0 : 0 ≤ v) (h1 : v < c) : ∃ j : Nat, j < n ∧ st j = 1 ∧ y_cn st j = v ∧ f v = j ∧ k v = K j := by
  obtain ⟨a1, a2, a3, a4⟩ := h
  obtain ⟨j, x1, x2, x3⟩ := y_cn_nth h01 n v h0 (by omega)
  have p := a2 j x1 x2
  rw [x3] at p
  exact ⟨j, x1, x2, x3, p.1, p.2⟩
/-- where it ends -/
theorem y_PT.to {st K f z k u : Int → Int} {c : Int} {n : Nat} (h : y_PT st K f z k u c n) (h01 : y_01 st) {v : Int} (h0 : 0 ≤ v) (h1 : v < c) : ∃ m : Nat, m ≤ n ∧ f v + z v = m ∧ f v < m ∧ (m = n ∨ st m = 1) ∧ y_cn st m = v + 1 := by
  obtain ⟨j, x1, x2, x3, x4, _⟩ := h.at h01 h0 h1
  have e := h.2.2.2 v h0 h1
  have hj := y_cn_s x2
  by_cases y : v + 1 < c
  · rw [if_pos y] at e
    obtain ⟨m, y1, y2, y3, y4, _⟩ := h.at h01 (show 0 ≤ v + 1 by omega) y
    refine ⟨m, by omega, by omega, ?_, Or.inr y2, y3⟩
    by_cases q : j < m
    · omega
    · have := y_cn_mono h01 j (show m ≤ j by omega)
      omega
  · rw [if_neg y] at e
    have := h.1
    exact ⟨n, Nat.le_refl n, e, by omega, Or.inl rfl, by omega⟩
/-- units are in their order -/
theorem y_PT.le {st K f z k u : Int → Int} {c : Int} {n : Nat} (h : y_PT st K f z k u c n) (h01 : y_01 st) {v w : Int} (h0 : 0 ≤ v) (hw : v ≤ w) (h1 : w < c) : f v ≤ f w := by
  obtain ⟨j, x1, x2, x3, x4, _⟩ := h.at h01 h0 (by omega)
  obtain ⟨m, y1, y2, y3, y4, _⟩ := h.at h01 (by omega) h1
  by_cases q : j ≤ m
  · omega
  · have := y_cn_mono h01 j (show m + 1 ≤ j by omega)
    rw [y_cn_s y2] at this
    omega
