/-! UNITS of the class: sums, pairs, ends, ties -/
def y_fl (s : z_M) (v : Int) : Int := if s 193 v = 6 ∨ s 193 v = 3 then 0 else s 199 v
theorem e_au99 {fu : Nat} {s : z_M} {u j x y : Int} {r : z_M → Int → z_O} {k : z_M → z_O} (hu : 0 ≤ u ∧ u < 200) (hj : 0 ≤ j ∧ j < 201) (h : 0 ≤ x ∧ x ≤ 1000000 ∧ 0 ≤ y ∧ y ≤ 1000000) : fX10_addUp_J99 fu s 191 u 212 j x y r k = r (z_up s 213 j (x + y)) (u + 1) := by
  unfold fX10_addUp_J99
  simp only [z_let, z_wid (show z_I (x + y) by unfold z_I; omega), if_pos v_r212.1.1, e_put v_r212.1, zb_N, v_rpn v_r212.2.1 v_r212.2.2 hj, z_wid (show z_I (u + 1) by unfold z_I; omega)]
theorem e_au40 {fu : Nat} {s : z_M} {u t : Int} {r : z_M → Int → z_O} {k : z_M → z_O} (hu : 0 ≤ u ∧ u < 200) (ht : t = 0 ∨ t = 1) (hb : 0 ≤ s 211 u ∧ s 211 u ≤ 1000000) (hs : 0 ≤ s 213 u ∧ s 213 u ≤ 1000000) (hw : 0 ≤ s 199 u ∧ s 199 u ≤ 2400) : fX10_addUp_J40 fu s 191 u t r k = r (z_up (z_up s 211 (u + 1) (s 211 u + s 199 u)) 213 (u + 1) (s 213 u + (if t = 0 then s 199 u else 0))) (u + 1) := by
  have h1 : 0 ≤ u ∧ u < 201 := by omega
  have h2 : 0 ≤ u + 1 ∧ u + 1 < 201 := by omega
  unfold fX10_addUp_J40
  simp only [z_let, if_pos v_ob191, v_u11, v_u12, v_u5, z_wid (show z_I (u + 1) by unfold z_I; omega), if_pos v_r210.1.1, if_pos v_r212.1.1, if_pos v_r198.1.1, e_get v_r210.1, e_get v_r212.1, e_get v_r198.1, e_put v_r210.1, zb_I, zb_N, v_rgn v_r210.2.1 v_r210.2.2 h1, v_rg v_r198.2.1 v_r198.2.2 hu, v_rpn v_r210.2.1 v_r210.2.2 h2, v_rgn v_r212.2.1 v_r212.2.2 h1, z_wid (show z_I (s 211 u + s 199 u) by unfold z_I; omega), z_up_k (show (213 : Int) ≠ 211 by decide), z_up_k (show (199 : Int) ≠ 211 by decide)]
  rcases ht with rfl | rfl
  · rw [if_pos rfl, e_au99 hu h2 (by omega), if_pos rfl]
  · rw [if_neg (by decide), e_au99 hu h2 (by omega), if_neg (by decide)]
theorem e_addUpL {fu : Nat} {n : Int} {s0 : z_M} {k : z_M → z_O} {P : z_V → z_M → Prop} (hn : n ≤ 200) (hW : ∀ v : Int, 0 ≤ v → v < n → 0 ≤ s0 199 v ∧ s0 199 v ≤ 2400) (hk : ∀ s' : z_M, (∀ v : Int, 0 ≤ v → v ≤ n → s' 211 v = y_sum (s0 199) 0 v.toNat ∧ s' 213 v = y_sum (y_fl s0) 0 v.toNat) → (∀ a b : Int, a ≠ 211 → a ≠ 213 → s' a b = s0 a b) → z_T (k s') P) :
    ∀ (m F : Nat) (s : z_M) (u : Int), (m : Int) = n - u → m < F → 0 ≤ u → s0 191 16 = n → (∀ v : Int, 0 ≤ v → v ≤ u → s 211 v = y_sum (s0 199) 0 v.toNat ∧ s 213 v = y_sum (y_fl s0) 0 v.toNat) → (∀ a b : Int, a ≠ 211 → a ≠ 213 → s a b = s0 a b) → z_T (fX10_addUp_L2 fu 191 F s u k) P := by
  have sb : ∀ u : Nat, (u : Int) ≤ n → (0 ≤ y_sum (s0 199) 0 u ∧ y_sum (s0 199) 0 u ≤ 2400 * u) ∧ (0 ≤ y_sum (y_fl s0) 0 u ∧ y_sum (y_fl s0) 0 u ≤ 2400 * u) := by
    intro u
    induction u with
    | zero => intro _; exact ⟨⟨Int.le_refl 0, Int.le_refl 0⟩, Int.le_refl 0, Int.le_refl 0⟩
    | succ u ih =>
      intro h
      have a := ih (by omega)
      have w := hW (0 + u) (by omega) (by omega)
      have w2 : 0 ≤ y_fl s0 (0 + u) ∧ y_fl s0 (0 + u) ≤ 2400 := by unfold y_fl; split <;> omega
      show (0 ≤ y_sum (s0 199) 0 u + s0 199 (0 + u) ∧ y_sum (s0 199) 0 u + s0 199 (0 + u) ≤ 2400 * ((u + 1 : Nat) : Int)) ∧ (0 ≤ y_sum (y_fl s0) 0 u + y_fl s0 (0 + u) ∧ y_sum (y_fl s0) 0 u + y_fl s0 (0 + u) ≤ 2400 * ((u + 1 : Nat) : Int))
      omega
  intro m
  induction m with
  | zero =>
    intro F s u h1 h2 h3 h4 h5 h6
    obtain ⟨F, rfl⟩ : ∃ F2, F = F2 + 1 := ⟨F - 1, by omega⟩
    have e : u = n := by omega
    subst e
    refine T_of (fX10_addUp_L2.eq_2 ..) ?_
    refine T_if1 v_ob191 ?_
    refine T_let u ((h6 _ _ (by decide) (by decide)).trans h4) ?_
    refine T_if1 (Int.le_refl _) ?_
    exact hk s h5 h6
  | succ m ih =>
    intro F s u h1 h2 h3 h4 h5 h6
    obtain ⟨F, rfl⟩ : ∃ F2, F = F2 + 1 := ⟨F - 1, by omega⟩
    have hu : 0 ≤ u ∧ u < 200 := by omega
    have s5 := h5 u h3 (Int.le_refl _)
    have bb := sb u.toNat (by omega)
    have wu := hW u h3 (by omega)
    have e199 : s 199 u = s0 199 u := h6 _ _ (by decide) (by decide)
    have e193 : s 193 u = s0 193 u := h6 _ _ (by decide) (by decide)
    have go : ∀ t : Int, ((t = 1 ∧ (s0 193 u = 6 ∨ s0 193 u = 3)) ∨ (t = 0 ∧ s0 193 u ≠ 6 ∧ s0 193 u ≠ 3)) → z_T (fX10_addUp_J40 fu s 191 u t (fun w v1 => fX10_addUp_L2 fu 191 F w v1 k) k) P := fun t ht => by
      refine T_of (e_au40 hu (by omega) (by omega) (by omega) (by omega)) ?_
      refine ih F _ (u + 1) (by omega) (by omega) (by omega) h4 (fun v p q => ?_) (fun a b p q => by rw [z_up_k q, z_up_k p]; exact h6 a b p q)
      by_cases z : v = u + 1
      · subst z
        rw [z_up_k (by decide), z_up_s, z_up_s, s5.1, s5.2, e199, show (u + 1).toNat = u.toNat + 1 by omega]
        refine ⟨?_, ?_⟩
        · show _ = y_sum (s0 199) 0 u.toNat + s0 199 (0 + (u.toNat : Nat))
          rw [show (0 : Int) + ((u.toNat : Nat) : Int) = u by omega]
        · show _ = y_sum (y_fl s0) 0 u.toNat + y_fl s0 (0 + (u.toNat : Nat))
          rw [show (0 : Int) + ((u.toNat : Nat) : Int) = u by omega]
          unfold y_fl
          rcases ht with ⟨t1, t2⟩ | ⟨t1, t2, t3⟩
          · rw [if_neg (by omega), if_pos t2]
          · rw [if_pos t1, if_neg (by omega)]
      · rw [z_up_k (by decide), z_up_j z, z_up_j z, z_up_k (by decide)]
        exact h5 v p (by omega)
    refine T_of (fX10_addUp_L2.eq_2 ..) ?_
    refine T_if1 v_ob191 ?_
    refine T_let n ((h6 _ _ (by decide) (by decide)).trans h4) ?_
    refine T_if0 (by omega) ?_
    refine T_if1 v_ob191 ?_
    refine T_let 192 v_g2 ?_
    refine T_if1 v_rw192.1 ?_
    refine T_bI (T_of ((e_get v_rw192).trans (by rw [v_rg v_c192 v_l192 hu, e193])) (T_rI ?_))
    refine T_ite (fun q => ?_) (fun q => ?_)
    · refine T_of (fX10_addUp_J35.eq_1 ..) ?_
      exact go 1 (Or.inl ⟨rfl, Or.inl q⟩)
    · refine T_if1 v_ob191 ?_
      refine T_let 192 v_g2 ?_
      refine T_if1 v_rw192.1 ?_
      refine T_bI (T_of ((e_get v_rw192).trans (by rw [v_rg v_c192 v_l192 hu, e193])) (T_rI ?_))
      refine T_ite (fun q2 => ?_) (fun q2 => ?_)
      · exact go 0 (Or.inr ⟨rfl, q, q2⟩)
      · refine T_of (fX10_addUp_J35.eq_1 ..) ?_
        refine go 1 (Or.inl ⟨rfl, Or.inr ?_⟩)
        by_cases z : s0 193 u = 3
        · exact z
        · exact absurd z q2
theorem e_addUp {fu : Nat} (hfu : 8589934592 ≤ fu) {s : z_M} (hn : 0 ≤ s 191 16 ∧ s 191 16 ≤ 200) (hW : ∀ v : Int, 0 ≤ v → v < s 191 16 → 0 ≤ s 199 v ∧ s 199 v ≤ 2400) (h0 : s 211 0 = 0 ∧ s 213 0 = 0) : z_T (fX10_addUp fu s 191) (fun v s' => v = vN ∧ (∀ v : Int, 0 ≤ v → v ≤ s 191 16 → s' 211 v = y_sum (s 199) 0 v.toNat ∧ s' 213 v = y_sum (y_fl s) 0 v.toNat) ∧ ∀ a b : Int, a ≠ 211 → a ≠ 213 → s' a b = s a b) := by
  refine T_of (fX10_addUp.eq_1 ..) ?_
  refine e_addUpL (n := s 191 16) (s0 := s) hn.2 hW (fun s' g1 g2 => T_ret ⟨rfl, g1, g2⟩) (s 191 16).toNat fu s 0 (by omega) (by omega) (Int.le_refl _) rfl (fun v p q => ?_) (fun _ _ _ _ => rfl)
  have e : v = 0 := by omega
  subst e
  exact ⟨h0.1, h0.2⟩
/-! pairs -/
def y_lo (K p : Int → Int) : Nat → Int
  | 0 => -1
  | n + 1 => if K n = 4 ∧ p n = -1 then n else y_lo K p n
def y_pt (K : Int → Int) : Nat → Int → Int
  | 0 => fun _ => -1
  | n + 1 => if K n = 5 ∧ y_lo K (y_pt K n) n ≠ -1 then (fun x : Int => if x = n then y_lo K (y_pt K n) n else if x = y_lo K (y_pt K n) n then n else y_pt K n x) else y_pt K n
def y_pc (K : Int → Int) : Nat → Int
  | 0 => 0
  | n + 1 => if K n = 5 ∧ y_lo K (y_pt K n) n ≠ -1 then y_pc K n + 1 else y_pc K n
theorem y_lo_b {K p : Int → Int} : ∀ n : Nat, -1 ≤ y_lo K p n ∧ y_lo K p n < n := by
  intro n
  induction n with
  | zero => exact ⟨Int.le_refl _, by show (-1 : Int) < ((0 : Nat) : Int); decide⟩
  | succ n ih =>
    show -1 ≤ (if K n = 4 ∧ p n = -1 then (n : Int) else y_lo K p n) ∧ (if K n = 4 ∧ p n = -1 then (n : Int) else y_lo K p n) < ((n + 1 : Nat) : Int)
    split <;> omega
theorem y_lo_cg {K p K' p' : Int → Int} : ∀ n : Nat, (∀ i : Int, 0 ≤ i → i < n → K i = K' i ∧ p i = p' i) → y_lo K p n = y_lo K' p' n := by
  intro n
  induction n with
  | zero => intro _; rfl
  | succ n ih =>
    intro h
    show (if K n = 4 ∧ p n = -1 then (n : Int) else y_lo K p n) = (if K' n = 4 ∧ p' n = -1 then (n : Int) else y_lo K' p' n)
    rw [ih (fun i a b => h i a (by omega)), (h n (by omega) (by omega)).1, (h n (by omega) (by omega)).2]
theorem y_lo_4 {K p : Int → Int} : ∀ n : Nat, y_lo K p n ≠ -1 → K (y_lo K p n) = 4 ∧ p (y_lo K p n) = -1 := by
  intro n
  induction n with
  | zero => intro h; exact absurd rfl h
  | succ n ih =>
    intro h
    have e : y_lo K p (n + 1) = if K n = 4 ∧ p n = -1 then (n : Int) else y_lo K p n := rfl
    rw [e] at h ⊢
    by_cases q : K n = 4 ∧ p n = -1
    · rw [if_pos q]; exact q
    · rw [if_neg q] at h ⊢; exact ih h
theorem y_pt_ge {K : Int → Int} : ∀ (n : Nat) (x : Int), (n : Int) ≤ x → y_pt K n x = -1 := by
  intro n
  induction n with
  | zero => intro x _; rfl
  | succ n ih =>
    intro x hx
    have b := y_lo_b (K := K) (p := y_pt K n) n
    have e : y_pt K (n + 1) = if K n = 5 ∧ y_lo K (y_pt K n) n ≠ -1 then (fun x : Int => if x = n then y_lo K (y_pt K n) n else if x = y_lo K (y_pt K n) n then (n : Int) else y_pt K n x) else y_pt K n := rfl
    rw [e]
    split
    · show (if x = n then _ else if x = _ then _ else _) = _
      rw [if_neg (by omega), if_neg (by omega)]
      exact ih x (by omega)
    · exact ih x (by omega)
theorem y_pt_cg {K K' : Int → Int} : ∀ n : Nat, (∀ i : Int, 0 ≤ i → i < n → K i = K' i) → y_pt K n = y_pt K' n ∧ y_pc K n = y_pc K' n := by
  intro n
  induction n with
  | zero => intro _; exact ⟨rfl, rfl⟩
  | succ n ih =>
    intro h
    obtain ⟨a, b⟩ := ih (fun i p q => h i p (by omega))
    have l : y_lo K (y_pt K n) n = y_lo K' (y_pt K' n) n := y_lo_cg n (fun i p q => ⟨h i p (by omega), by rw [a]⟩)
    have e := h n (by omega) (by omega)
    refine ⟨?_, ?_⟩
    · show (if K n = 5 ∧ y_lo K (y_pt K n) n ≠ -1 then (fun x : Int => if x = n then y_lo K (y_pt K n) n else if x = y_lo K (y_pt K n) n then (n : Int) else y_pt K n x) else y_pt K n) = (if K' n = 5 ∧ y_lo K' (y_pt K' n) n ≠ -1 then (fun x : Int => if x = n then y_lo K' (y_pt K' n) n else if x = y_lo K' (y_pt K' n) n then (n : Int) else y_pt K' n x) else y_pt K' n)
      rw [l, a, e]
    · show (if K n = 5 ∧ y_lo K (y_pt K n) n ≠ -1 then y_pc K n + 1 else y_pc K n) = (if K' n = 5 ∧ y_lo K' (y_pt K' n) n ≠ -1 then y_pc K' n + 1 else y_pc K' n)
      rw [l, b, e]
theorem y_pc_b {K : Int → Int} : ∀ n : Nat, 0 ≤ y_pc K n ∧ y_pc K n ≤ n := by
  intro n
  induction n with
  | zero => exact ⟨Int.le_refl _, Int.le_refl _⟩
  | succ n ih =>
    show 0 ≤ (if K n = 5 ∧ y_lo K (y_pt K n) n ≠ -1 then y_pc K n + 1 else y_pc K n) ∧ (if K n = 5 ∧ y_lo K (y_pt K n) n ≠ -1 then y_pc K n + 1 else y_pc K n) ≤ ((n + 1 : Nat) : Int)
    split <;> omega
theorem e_latestL {fu : Nat} {s : z_M} : ∀ (n F : Nat), n < F → n ≤ 200 → fX10_latestOpen_L4 fu 191 F s ((n : Int) - 1) (fun s9 => some (vI (-1), s9)) = some (vI (y_lo (s 193) (s 207) n), s) := by
  intro n
  induction n with
  | zero =>
    intro F h _
    obtain ⟨F, rfl⟩ : ∃ F2, F = F2 + 1 := ⟨F - 1, by omega⟩
    rw [fX10_latestOpen_L4.eq_2, if_pos (by omega)]
    rfl
  | succ n ih =>
    intro F h hn
    obtain ⟨F, rfl⟩ : ∃ F2, F = F2 + 1 := ⟨F - 1, by omega⟩
    have e : ((n + 1 : Nat) : Int) - 1 = n := by omega
    have hu : 0 ≤ (n : Int) ∧ (n : Int) < 200 := by omega
    have nx : fX10_latestOpen_J34 fu s 191 n (fun w v2 => fX10_latestOpen_L4 fu 191 F w v2 (fun s9 => some (vI (-1), s9))) (fun s9 => some (vI (-1), s9)) = some (vI (y_lo (s 193) (s 207) n), s) := by
      unfold fX10_latestOpen_J34
      simp only [z_let, z_wid (show z_I ((n : Int) + -1) by unfold z_I; omega)]
      exact ih F (by omega) (by omega)
    rw [fX10_latestOpen_L4.eq_2, e, if_neg (by omega)]
    simp only [z_let, if_pos v_ob191, v_g2, v_u9, if_pos v_rw192.1, if_pos v_r206.1.1, e_get v_rw192, e_get v_r206.1, zb_I, v_rg v_c192 v_l192 hu, v_rg v_r206.2.1 v_r206.2.2 hu]
    have el : y_lo (s 193) (s 207) (n + 1) = if s 193 n = 4 ∧ s 207 n = -1 then (n : Int) else y_lo (s 193) (s 207) n := rfl
    rw [el]
    by_cases q : s 193 n = 4
    · rw [if_neg (fun z => z q)]
      by_cases q2 : s 207 n = -1
      · rw [if_neg (fun z => z q2), if_pos ⟨q, q2⟩]
      · rw [if_pos q2, if_neg (fun z => q2 z.2)]; exact nx
    · rw [if_pos q, if_neg (fun z => q z.1)]; exact nx
theorem e_latestOpen {fu : Nat} (hfu : 8589934592 ≤ fu) {s : z_M} {u : Int} (hu : 0 ≤ u ∧ u < 200) : fX10_latestOpen fu s 191 u = some (vI (y_lo (s 193) (s 207) u.toNat), s) := by
  unfold fX10_latestOpen
  simp only [z_let, z_wid (show z_I (u - 1) by unfold z_I; omega)]
  have w := e_latestL (fu := fu) (s := s) u.toNat fu (by omega) (by omega)
  rw [show ((u.toNat : Nat) : Int) - 1 = u - 1 by omega] at w
  exact w
theorem e_pairUpL {fu : Nat} (hfu : 8589934592 ≤ fu) {n : Int} {s0 : z_M} {k : z_M → z_O} {P : z_V → z_M → Prop} (hn : n ≤ 200) (hk : ∀ s' : z_M, (∀ x : Int, 0 ≤ x → x < n → s' 207 x = y_pt (s0 193) n.toNat x) → s' 191 17 = y_pc (s0 193) n.toNat → (∀ a b : Int, a ≠ 207 → ¬ (a = 191 ∧ b = 17) → s' a b = s0 a b) → z_T (k s') P) :
    ∀ (m F : Nat) (s : z_M) (u : Int), (m : Int) = n - u → m < F → 0 ≤ u → s0 191 16 = n → (∀ x : Int, 0 ≤ x → x < u → s 207 x = y_pt (s0 193) u.toNat x) → s 191 17 = y_pc (s0 193) u.toNat → (∀ a b : Int, a ≠ 207 → ¬ (a = 191 ∧ b = 17) → s a b = s0 a b) → z_T (fX10_pairUp_L7 fu 191 F s u k) P := by
  intro m
  induction m with
  | zero =>
    intro F s u h1 h2 h3 h4 h5 h6 h7
    obtain ⟨F, rfl⟩ : ∃ F2, F = F2 + 1 := ⟨F - 1, by omega⟩
    have e : u = n := by omega
    subst e
    refine T_of (fX10_pairUp_L7.eq_2 ..) ?_
    refine T_if1 v_ob191 ?_
    refine T_let u ((h7 _ _ (by decide) (by decide)).trans h4) ?_
    refine T_if1 (Int.le_refl _) ?_
    exact hk s h5 h6 h7
  | succ m ih =>
    intro F s u h1 h2 h3 h4 h5 h6 h7
    obtain ⟨F, rfl⟩ : ∃ F2, F = F2 + 1 := ⟨F - 1, by omega⟩
    have hu : 0 ≤ u ∧ u < 200 := by omega
    have eu : ((u.toNat : Nat) : Int) = u := by omega
    have e193 : ∀ b, s 193 b = s0 193 b := fun b => h7 _ _ (by decide) (by omega)
    have lb := y_lo_b (K := s0 193) (p := y_pt (s0 193) u.toNat) u.toNat
    have pcb := y_pc_b (K := s0 193) u.toNat
    rw [eu] at lb
    have ept : y_pt (s0 193) (u.toNat + 1) = if s0 193 (u.toNat : Nat) = 5 ∧ y_lo (s0 193) (y_pt (s0 193) u.toNat) u.toNat ≠ -1 then (fun x : Int => if x = (u.toNat : Nat) then y_lo (s0 193) (y_pt (s0 193) u.toNat) u.toNat else if x = y_lo (s0 193) (y_pt (s0 193) u.toNat) u.toNat then ((u.toNat : Nat) : Int) else y_pt (s0 193) u.toNat x) else y_pt (s0 193) u.toNat := rfl
    have epc : y_pc (s0 193) (u.toNat + 1) = if s0 193 (u.toNat : Nat) = 5 ∧ y_lo (s0 193) (y_pt (s0 193) u.toNat) u.toNat ≠ -1 then y_pc (s0 193) u.toNat + 1 else y_pc (s0 193) u.toNat := rfl
    rw [eu] at ept epc
    have en : (u + 1).toNat = u.toNat + 1 := by omega
    obtain ⟨lo, hlo⟩ : ∃ lo, y_lo (s0 193) (y_pt (s0 193) u.toNat) u.toNat = lo := ⟨_, rfl⟩
    rw [hlo] at lb ept epc
    -- the state with NONE at u
    obtain ⟨s1, hs1⟩ : ∃ s1, z_up s 207 u (-1) = s1 := ⟨_, rfl⟩
    have o1 : ∀ a b : Int, a ≠ 207 → ¬ (a = 191 ∧ b = 17) → s1 a b = s0 a b := fun a b p q => by rw [← hs1, z_up_k p]; exact h7 a b p q
    have p1 : ∀ x : Int, 0 ≤ x → x < u → s1 207 x = y_pt (s0 193) u.toNat x := fun x p q => by rw [← hs1, z_up_j (by omega)]; exact h5 x p q
    have p1u : s1 207 u = -1 := by rw [← hs1, z_up_s]
    have c1 : s1 191 17 = y_pc (s0 193) u.toNat := by rw [← hs1, z_up_k (by decide)]; exact h6
    have none : ¬ (s0 193 u = 5 ∧ lo ≠ -1) → z_T (fX10_pairUp_J45 fu s1 191 u (-1) (fun w v1 => fX10_pairUp_L7 fu 191 F w v1 k) k) P := fun q => by
      rw [if_neg q] at ept epc
      refine T_of (fX10_pairUp_J45.eq_1 ..) ?_
      refine T_if1 rfl ?_
      refine T_of (fX10_pairUp_J79.eq_1 ..) ?_
      refine T_let (u + 1) (z_wid (by unfold z_I; omega)) ?_
      refine ih F s1 (u + 1) (by omega) (by omega) (by omega) h4 (fun x p r => ?_) (by rw [en, epc]; exact c1) o1
      rw [en, ept]
      by_cases z : x = u
      · rw [z, p1u, y_pt_ge _ _ (by omega)]
      · exact p1 x p (by omega)
    refine T_of (fX10_pairUp_L7.eq_2 ..) ?_
    refine T_if1 v_ob191 ?_
    refine T_let n ((h7 _ _ (by decide) (by decide)).trans h4) ?_
    refine T_if0 (by omega) ?_
    refine T_if1 v_ob191 ?_
    refine T_let 206 v_u9 ?_
    refine T_if1 v_r206.1.1 ?_
    refine T_bN (T_of ((e_put v_r206.1).trans (by rw [v_rp v_r206.2.1 v_r206.2.2 hu, hs1])) (T_rN ?_))
    refine T_if1 v_ob191 ?_
    refine T_let 192 v_g2 ?_
    refine T_if1 v_rw192.1 ?_
    refine T_bI (T_of ((e_get v_rw192).trans (by rw [v_rg v_c192 v_l192 hu, o1 193 u (by decide) (by omega)])) (T_rI ?_))
    refine T_ite (fun q => ?_) (fun q => ?_)
    · exact none (fun z => q z.1)
    · have q5 : s0 193 u = 5 := by
        by_cases z : s0 193 u = 5
        · exact z
        · exact absurd z q
      refine T_if1 v_ob191 ?_
      have el : y_lo (s1 193) (s1 207) u.toNat = lo := by
        rw [← hlo]
        exact y_lo_cg _ (fun i a b => ⟨o1 _ _ (by decide) (by omega), p1 i a (by omega)⟩)
      refine T_bI (T_of ((e_latestOpen hfu hu).trans (by rw [el])) (T_rI ?_))
      by_cases ql : lo = -1
      · rw [ql]
        exact none (fun z => z.2 ql)
      · rw [if_pos ⟨q5, ql⟩] at ept epc
        refine T_of (fX10_pairUp_J45.eq_1 ..) ?_
        refine T_if0 ql ?_
        refine T_if1 v_ob191 ?_
        refine T_let 206 v_u9 ?_
        refine T_if1 v_r206.1.1 ?_
        refine T_bN (T_of ((e_put v_r206.1).trans (by rw [v_rp v_r206.2.1 v_r206.2.2 hu])) (T_rN ?_))
        refine T_if1 v_ob191 ?_
        refine T_let 206 v_u9 ?_
        refine T_if1 v_r206.1.1 ?_
        refine T_bN (T_of ((e_put v_r206.1).trans (by rw [v_rp v_r206.2.1 v_r206.2.2 (show 0 ≤ lo ∧ lo < 200 by omega)])) (T_rN ?_))
        refine T_if1 v_ob191 ?_
        refine T_let (y_pc (s0 193) u.toNat) (by rw [z_up_k (by decide), z_up_k (by decide)]; exact c1) ?_
        refine T_let (y_pc (s0 193) u.toNat + 1) (z_wid (by unfold z_I; omega)) ?_
        refine T_if1 v_ob191 ?_
        refine T_up ?_
        refine T_of (fX10_pairUp_J79.eq_1 ..) ?_
        refine T_let (u + 1) (z_wid (by unfold z_I; omega)) ?_
        refine ih F _ (u + 1) (by omega) (by omega) (by omega) h4 (fun x p r => ?_) (by rw [z_up_s, en, epc]) (fun a b p r => ?_)
        · rw [en, ept, z_up_k (by decide)]
          show _ = if x = u then lo else if x = lo then u else y_pt (s0 193) u.toNat x
          by_cases z : x = u
          · rw [if_pos z, z, z_up_j (by omega), z_up_s]
          · rw [if_neg z]
            by_cases z2 : x = lo
            · rw [if_pos z2, z2, z_up_s]
            · rw [if_neg z2, z_up_j z2, z_up_j z]
              exact p1 x p (by omega)
        · rw [← o1 a b p r]
          by_cases z : a = 191
          · subst z
            rw [z_up_j (fun y => r ⟨rfl, y⟩), z_up_k p, z_up_k p]
          · rw [z_up_k z, z_up_k p, z_up_k p]
theorem e_pairUp {fu : Nat} (hfu : 8589934592 ≤ fu) {s : z_M} (hn : 0 ≤ s 191 16 ∧ s 191 16 ≤ 200) : z_T (fX10_pairUp fu s 191) (fun v s' => v = vN ∧ (∀ x : Int, 0 ≤ x → x < s 191 16 → s' 207 x = y_pt (s 193) (s 191 16).toNat x) ∧ s' 191 17 = y_pc (s 193) (s 191 16).toNat ∧ ∀ a b : Int, a ≠ 207 → ¬ (a = 191 ∧ b = 17) → s' a b = s a b) := by
  refine T_of (fX10_pairUp.eq_1 ..) ?_
  refine T_if1 v_ob191 ?_
  refine T_up ?_
  have o : ∀ a b : Int, ¬ (a = 191 ∧ b = 17) → z_up s 191 17 0 a b = s a b := fun a b h => by
    by_cases q : a = 191
    · subst q; exact z_up_j (fun r => h ⟨rfl, r⟩)
    · exact z_up_k q
  exact e_pairUpL hfu (n := s 191 16) (s0 := s) hn.2 (fun s' g1 g2 g3 => T_ret ⟨rfl, g1, g2, g3⟩) (s 191 16).toNat fu _ 0 (by omega) (by omega) (Int.le_refl _) rfl (fun x p q => by omega) z_up_s (fun a b p q => o a b q)
