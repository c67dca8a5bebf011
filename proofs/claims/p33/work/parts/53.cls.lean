/-! The class's texts: cleared, cut, kept, taken back -/
theorem e_cl9 {fu : Nat} {s : z_M} : fX9_clear fu s 19 = some (vN, z_up (z_up (z_up s 19 6 0) 19 7 0) 19 8 0) := by
  unfold fX9_clear
  simp only [z_let, if_pos ob19]
theorem v_txh : ∀ j : Int, 0 ≤ j → j ≤ 11 → y_tx (35 + 13 * j) := fun j h0 h1 => by
  rcases (show j = 0 ∨ j = 1 ∨ j = 2 ∨ j = 3 ∨ j = 4 ∨ j = 5 ∨ j = 6 ∨ j = 7 ∨ j = 8 ∨ j = 9 ∨ j = 10 ∨ j = 11 by omega) with rfl | rfl | rfl | rfl | rfl | rfl | rfl | rfl | rfl | rfl | rfl | rfl
  · exact txh0
  · exact txh1
  · exact txh2
  · exact txh3
  · exact txh4
  · exact txh5
  · exact txh6
  · exact txh7
  · exact txh8
  · exact txh9
  · exact txh10
  · exact txh11
theorem v_ob33 : z_ob 33 2 := by decide +kernel
theorem v_g33 : z_gr 33 0 = 34 := by decide +kernel
theorem v_g34 : ∀ j : Int, 0 ≤ j → j ≤ 11 → z_gr 34 j = 35 + 13 * j ∧ z_ix 34 104 j := fun j h0 h1 => by
  rcases (show j = 0 ∨ j = 1 ∨ j = 2 ∨ j = 3 ∨ j = 4 ∨ j = 5 ∨ j = 6 ∨ j = 7 ∨ j = 8 ∨ j = 9 ∨ j = 10 ∨ j = 11 by omega) with rfl | rfl | rfl | rfl | rfl | rfl | rfl | rfl | rfl | rfl | rfl | rfl <;> exact ⟨by decide +kernel, by decide +kernel⟩
theorem v_l34 : z_ob 34 104 ∧ z_I ((z_sh 34).2 : Nat) := by decide +kernel
theorem v_n34 : (((z_sh 34).2 : Nat) : Int) = 12 := by decide +kernel
theorem v_l34' : z_ob 34 104 ∧ z_I 12 := by decide +kernel
theorem e_place {fu : Nat} {s : z_M} (h : 0 ≤ s 33 1 ∧ s 33 1 ≤ 11) : fX2_place fu s 33 = some (vR (35 + 13 * s 33 1), s) := by
  unfold fX2_place fX2_place_J32
  have g := v_g34 (s 33 1) h.1 h.2
  simp only [z_let, if_pos v_ob33, v_g33, v_n34, if_pos v_l34', if_neg (show ¬ s 33 1 < 0 by omega), if_neg (show ¬ (12 : Int) ≤ s 33 1 by omega), if_pos g.2, g.1]
/-- the present text is kept -/
def y_nx (i : Int) : Int := if 12 ≤ i + 1 then 0 else i + 1
def y_HKc (s s' : z_M) : Prop := s' 33 1 = y_nx (s 33 1) ∧ s' 33 2 = (if s 33 2 < 12 then s 33 2 + 1 else 12) ∧ y_TE s s' (35 + 13 * s 33 1) 6 ∧ ∀ a b : Int, 35 ≤ a ∧ a ≤ 190 → a < 35 + 13 * s 33 1 ∨ 35 + 13 * s 33 1 + 12 < a → s' a b = s a b
theorem e_keepJ {fu : Nat} {s : z_M} {x : Int} (h2 : 0 ≤ s 33 2 ∧ s 33 2 ≤ 12) : fX2_keep_J36 fu s 33 33 x = some (vN, z_up (z_up s 33 1 x) 33 2 (if s 33 2 < 12 then s 33 2 + 1 else 12)) := by
  unfold fX2_keep_J36
  have e : z_up s 33 1 x 33 2 = s 33 2 := z_up_j (by decide)
  have w : z_w (s 33 2 + 1) = s 33 2 + 1 := z_wid (by unfold z_I; omega)
  have m : z_min (s 33 2 + 1) 12 = if s 33 2 < 12 then s 33 2 + 1 else 12 := by
    unfold z_min
    by_cases q : s 33 2 < 12
    · rw [if_pos q, if_neg (by omega)]
    · rw [if_neg q, if_pos (by omega)]
  simp only [z_let, if_pos v_ob33, e, w, m]
theorem e_keep {fu : Nat} (hfu : 8589934592 ≤ fu) {s : z_M} (h : 0 ≤ s 33 1 ∧ s 33 1 ≤ 11) (h2 : 0 ≤ s 33 2 ∧ s 33 2 ≤ 12) (hn : 0 ≤ s 6 6 ∧ s 6 6 ≤ 200) : z_T (fX2_keep fu s 33 6) (fun v s' => v = vN ∧ y_HKc s s' ∧ ∀ a b : Int, a < 33 ∨ 190 < a → s' a b = s a b) := by
  refine T_of (fX2_keep.eq_1 ..) ?_
  refine T_if1 v_ob33 ?_
  refine T_bR (T_of (e_place h) (T_rR ?_))
  refine T_if1 (by omega) ?_
  have tx := v_txh (s 33 1) h.1 h.2
  refine T_if1 tx.1 ?_
  refine T_useN (e_cp9 hfu tx tx6 (by omega) hn) (fun v s3 hq => ?_)
  obtain ⟨rfl, te, f⟩ := hq
  refine T_vN ?_
  refine T_if1 v_ob33 ?_
  have e1 : s3 33 1 = s 33 1 := f _ _ (by omega)
  have e2 : s3 33 2 = s 33 2 := f _ _ (by omega)
  refine T_let (s 33 1) e1 ?_
  refine T_let (s 33 1 + 1) (z_wid (by unfold z_I; omega)) ?_
  have fin : ∀ (x : Int), x = y_nx (s 33 1) → z_T (fX2_keep_J36 fu s3 33 33 x) (fun v s' => v = vN ∧ y_HKc s s' ∧ ∀ a b : Int, a < 33 ∨ 190 < a → s' a b = s a b) := fun x hx => by
    refine T_of (e_keepJ (by rw [e2]; exact h2)) (T_ret ⟨rfl, ⟨?_, ?_, ?_, fun a b p q => ?_⟩, fun a b p => ?_⟩)
    · rw [z_up_j (by decide), z_up_s]; exact hx
    · rw [z_up_s, e2]
    · obtain ⟨t1, t2, t3, t4⟩ := te
      refine ⟨by rw [z_up_k (by omega), z_up_k (by omega)]; exact t1, by rw [z_up_k (by omega), z_up_k (by omega)]; exact t2, by rw [z_up_k (by omega), z_up_k (by omega)]; exact t3, fun i p q => ?_⟩
      rw [z_up_k (by omega), z_up_k (by omega), z_up_k (by omega), z_up_k (by omega), z_up_k (by omega), z_up_k (by omega), z_up_k (by omega), z_up_k (by omega), z_up_k (by omega), z_up_k (by omega), z_up_k (by omega), z_up_k (by omega)]
      exact t4 i p q
    · rw [z_up_k (by omega), z_up_k (by omega)]; exact f _ _ q
    · rw [z_up_k (by omega), z_up_k (by omega)]; exact f _ _ (by omega)
  refine T_ite (fun q => ?_) (fun q => ?_)
  · exact fin 0 (by unfold y_nx; rw [if_pos q])
  · refine T_if1 v_ob33 ?_
    refine T_let (s 33 1) e1 ?_
    refine T_let (s 33 1 + 1) (z_wid (by unfold z_I; omega)) ?_
    exact fin _ (by unfold y_nx; rw [if_neg q])
/-- the text is taken back -/
def y_pv (i : Int) : Int := if i ≤ 0 then 11 else i - 1
def y_HBc (s s' : z_M) : Prop := s' 33 1 = y_pv (s 33 1) ∧ s' 33 2 = s 33 2 - 1 ∧ y_TE s s' 6 (35 + 13 * y_pv (s 33 1)) ∧ ∀ a b : Int, 35 ≤ a ∧ a ≤ 190 → s' a b = s a b
theorem y_pv_b {i : Int} (h : 0 ≤ i ∧ i ≤ 11) : 0 ≤ y_pv i ∧ y_pv i ≤ 11 := by
  unfold y_pv
  split <;> omega
theorem e_takeJ {fu : Nat} (hfu : 8589934592 ≤ fu) {s : z_M} {x : Int} (hx : 0 ≤ x ∧ x ≤ 11) (hn : 0 ≤ s (35 + 13 * x) 6 ∧ s (35 + 13 * x) 6 ≤ 200) : z_T (fX2_takeBack_J38 fu s 33 6 33 x) (fun v s' => v = vI 1 ∧ s' 33 1 = x ∧ y_TE s s' 6 (35 + 13 * x) ∧ ∀ a b : Int, (a < 6 ∨ 18 < a) → (a ≠ 33 ∨ b ≠ 1) → s' a b = s a b) := by
  refine T_of (fX2_takeBack_J38.eq_1 ..) ?_
  refine T_if1 v_ob33 ?_
  refine T_up ?_
  refine T_if1 v_ob33 ?_
  have e : z_up s 33 1 x 33 1 = x := z_up_s
  refine T_bR (T_of (e_place (by rw [e]; exact hx)) (T_rR ?_))
  rw [e]
  refine T_if1 (by omega) ?_
  refine T_if1 tx6.1 ?_
  have tx := v_txh x hx.1 hx.2
  refine T_useN (e_cp9 hfu tx6 tx (by omega) (by rw [z_up_k (by omega)]; exact hn)) (fun v s3 hq => ?_)
  obtain ⟨rfl, te, f⟩ := hq
  refine T_vN ?_
  refine T_if1 bl1 ?_
  refine T_ret ⟨rfl, ?_, ?_, fun a b p q => ?_⟩
  · rw [f _ _ (by omega)]; exact z_up_s
  · obtain ⟨t1, t2, t3, t4⟩ := te
    rw [z_up_k (by omega)] at t1 t2 t3
    refine ⟨t1, t2, t3, fun i p q => ?_⟩
    have w := t4 i p (by rw [z_up_k (by omega)]; exact q)
    rw [z_up_k (by omega), z_up_k (by omega), z_up_k (by omega), z_up_k (by omega), z_up_k (by omega), z_up_k (by omega)] at w
    exact w
  · rw [f _ _ (by omega)]
    by_cases r : a = 33
    · subst r; exact z_up_j (by omega)
    · exact z_up_k r
theorem e_takeBack {fu : Nat} (hfu : 8589934592 ≤ fu) {s : z_M} (c : z_CI s) (h : 0 ≤ s 33 1 ∧ s 33 1 ≤ 11) (h2 : 0 ≤ s 33 2 ∧ s 33 2 ≤ 12) : z_T (fX2_takeBack fu s 33 6) (fun v s' => (s 33 2 = 0 ∧ v = vI 0 ∧ s' = s) ∨ (1 ≤ s 33 2 ∧ v = vI 1 ∧ y_HBc s s' ∧ ∀ a b : Int, (a < 6 ∨ 18 < a) → a ≠ 33 → s' a b = s a b)) := by
  refine T_of (fX2_takeBack.eq_1 ..) ?_
  refine T_if1 v_ob33 ?_
  refine T_let (s 33 2) rfl ?_
  refine T_ite (fun q => ?_) (fun q => ?_)
  · refine T_if1 v_ob33 ?_
    refine T_let (s 33 2) rfl ?_
    refine T_let (s 33 2 - 1) (z_wid (by unfold z_I; omega)) ?_
    refine T_if1 v_ob33 ?_
    refine T_up ?_
    obtain ⟨s4, h4⟩ : ∃ s4, z_up s 33 2 (s 33 2 - 1) = s4 := ⟨_, rfl⟩
    rw [h4]
    have e1 : s4 33 1 = s 33 1 := by rw [← h4]; exact z_up_j (by decide)
    have e2 : s4 33 2 = s 33 2 - 1 := by rw [← h4]; exact z_up_s
    have eo : ∀ a b : Int, a ≠ 33 → s4 a b = s a b := fun a b q => by rw [← h4]; exact z_up_k q
    have pb := y_pv_b h
    have fin : ∀ x : Int, x = y_pv (s 33 1) → z_T (fX2_takeBack_J38 fu s4 33 6 33 x) (fun v s' => (s 33 2 = 0 ∧ v = vI 0 ∧ s' = s) ∨ (1 ≤ s 33 2 ∧ v = vI 1 ∧ y_HBc s s' ∧ ∀ a b : Int, (a < 6 ∨ 18 < a) → a ≠ 33 → s' a b = s a b)) := fun x hx => by
      have hb : 0 ≤ x ∧ x ≤ 11 := by rw [hx]; exact pb
      have hn : 0 ≤ s4 (35 + 13 * x) 6 ∧ s4 (35 + 13 * x) 6 ≤ 200 := by
        rw [eo _ _ (by omega)]
        rcases (show x = 0 ∨ x = 1 ∨ x = 2 ∨ x = 3 ∨ x = 4 ∨ x = 5 ∨ x = 6 ∨ x = 7 ∨ x = 8 ∨ x = 9 ∨ x = 10 ∨ x = 11 by omega) with r | r | r | r | r | r | r | r | r | r | r | r <;> (rw [r]; exact CI_b c (by decide +kernel))
      refine T_mono (e_takeJ hfu hb hn) (fun v s' hq => ?_)
      obtain ⟨hv, g1, g2, g3⟩ := hq
      refine Or.inr ⟨by omega, hv, ⟨g1.trans hx, ?_, ?_, fun a b p => ?_⟩, fun a b p q => ?_⟩
      · rw [g3 _ _ (by decide) (by decide)]; exact e2
      · rw [hx] at g2 hb
        obtain ⟨t1, t2, t3, t4⟩ := g2
        rw [eo _ _ (by omega)] at t1 t2 t3
        refine ⟨t1, t2, t3, fun i p q => ?_⟩
        have w := t4 i p (by rw [eo _ _ (by omega)]; exact q)
        rw [eo _ _ (by omega), eo _ _ (by omega), eo _ _ (by omega), eo _ _ (by omega), eo _ _ (by omega), eo _ _ (by omega)] at w
        exact w
      · rw [g3 _ _ (by omega) (by omega)]; exact eo _ _ (by omega)
      · rw [g3 _ _ p (by omega)]; exact eo _ _ q
    refine T_if1 v_ob33 ?_
    refine T_let (s 33 1) e1 ?_
    refine T_ite (fun q2 => ?_) (fun q2 => ?_)
    · exact fin 11 (by unfold y_pv; rw [if_pos q2])
    · refine T_if1 v_ob33 ?_
      refine T_let (s 33 1) e1 ?_
      refine T_let (s 33 1 - 1) (z_wid (by unfold z_I; omega)) ?_
      exact fin _ (by unfold y_pv; rw [if_neg q2])
  · refine T_if1 bl0 ?_
    exact T_ret (Or.inl ⟨by omega, rfl, rfl⟩)
/-- groups, counted -/
def y_gc (G : Int → Int) : Nat → Int
  | 0 => 0
  | i + 1 => if G i = -1 then y_gc G i else if i ≠ 0 ∧ G ((i : Int) - 1) = G i then y_gc G i else y_gc G i + 1
def y_rn (G : Int → Int) (i : Nat) : Int := if G i = -1 then -1 else y_gc G (i + 1) - 1
theorem y_gc_b {G : Int → Int} : ∀ i : Nat, 0 ≤ y_gc G i ∧ y_gc G i ≤ i := by
  intro i
  induction i with
  | zero => exact ⟨Int.le_refl 0, Int.le_refl 0⟩
  | succ i ih =>
    show 0 ≤ (if G i = -1 then y_gc G i else if i ≠ 0 ∧ G ((i : Int) - 1) = G i then y_gc G i else y_gc G i + 1) ∧ (if G i = -1 then y_gc G i else if i ≠ 0 ∧ G ((i : Int) - 1) = G i then y_gc G i else y_gc G i + 1) ≤ ((i + 1 : Nat) : Int)
    split
    · omega
    · split <;> omega
theorem y_gc_1 {G : Int → Int} : ∀ i : Nat, G i ≠ -1 → 1 ≤ y_gc G (i + 1) := by
  intro i
  induction i with
  | zero =>
    intro h
    show 1 ≤ (if G ((0 : Nat) : Int) = -1 then y_gc G 0 else if 0 ≠ 0 ∧ G (((0 : Nat) : Int) - 1) = G ((0 : Nat) : Int) then y_gc G 0 else y_gc G 0 + 1)
    rw [if_neg h, if_neg (fun q => q.1 rfl)]
    exact Int.le_refl 1
  | succ i ih =>
    intro h
    show 1 ≤ (if G ((i + 1 : Nat) : Int) = -1 then y_gc G (i + 1) else if i + 1 ≠ 0 ∧ G (((i + 1 : Nat) : Int) - 1) = G ((i + 1 : Nat) : Int) then y_gc G (i + 1) else y_gc G (i + 1) + 1)
    rw [if_neg h]
    split
    · rename_i q
      refine ih ?_
      rw [show (i : Int) = ((i + 1 : Nat) : Int) - 1 by omega, q.2]; exact h
    · have := (y_gc_b (G := G) (i + 1)).1
      omega
theorem y_rn_ne {G : Int → Int} {i : Nat} : y_rn G i = -1 ↔ G i = -1 := by
  unfold y_rn
  by_cases h : G i = -1
  · rw [if_pos h]; exact ⟨fun _ => h, fun _ => rfl⟩
  · rw [if_neg h]
    have := y_gc_1 i h
    exact ⟨fun q => by omega, fun q => absurd q h⟩
theorem v_up2 {s : z_M} {a b j v : Int} (h : ¬ (a = 6 ∧ b = 7)) (h2 : a ≠ 12) : z_up (z_up s 6 7 v) 12 j (v - 1) a b = s a b := by
  rw [z_up_k h2]
  by_cases q : a = 6
  · subst q; exact z_up_j (fun r => h ⟨rfl, r⟩)
  · exact z_up_k q
theorem e_rn64 {fu : Nat} {s : z_M} {i o : Int} {r : z_M → Int → Int → z_O} {k : z_M → z_O} (h : 0 ≤ i ∧ i < 200) : fX9_renumber_J64 fu s 6 i o r k = r s o (i + 1) := by
  unfold fX9_renumber_J64
  simp only [z_let, z_wid (show z_I (i + 1) by unfold z_I; omega)]
theorem e_rn46 {fu : Nat} {s : z_M} {i o x y : Int} {r : z_M → Int → Int → z_O} {k : z_M → z_O} (h : 0 ≤ i ∧ i < 200) (hb : 0 ≤ x + y ∧ x + y ≤ 1000) : fX9_renumber_J46 fu s 6 i o 6 x y r k = r (z_up (z_up s 6 7 (x + y)) 12 i (x + y - 1)) o (i + 1) := by
  unfold fX9_renumber_J46
  have e : z_up s 6 7 (x + y) 6 7 = x + y := z_up_s
  simp only [z_let, z_wid (show z_I (x + y) by unfold z_I; omega), if_pos tx6.1, v_t2, e, z_wid (show z_I (x + y - 1) by unfold z_I; omega), if_pos v_rw11.1, e_put v_rw11, zb_N, v_rp v_c11 v_l11 h, e_rn64 h]
theorem e_rnL {fu : Nat} {G : Int → Int} {n : Nat} {s0 : z_M} {k : z_M → z_O} {P : z_V → z_M → Prop} (hn : n ≤ 200) (hk : ∀ s' : z_M, (∀ j : Nat, j < n → s' 12 j = y_rn G j) → s' 6 7 = y_gc G n → (∀ a b : Int, ¬ (a = 6 ∧ b = 7) → a ≠ 12 → s' a b = s0 a b) → z_T (k s') P) :
    ∀ (m F i : Nat) (s : z_M) (o : Int), i + m = n → m < F → s 6 6 = n → (∀ j : Nat, i ≤ j → j < n → s 12 j = G j) → (∀ j : Nat, j < i → s 12 j = y_rn G j) → s 6 7 = y_gc G i → o = (if i = 0 then -1 else G ((i : Int) - 1)) → (∀ a b : Int, ¬ (a = 6 ∧ b = 7) → a ≠ 12 → s a b = s0 a b) → z_T (fX9_renumber_L9 fu 6 F s o i k) P := by
  intro m
  induction m with
  | zero =>
    intro F i s o h1 h2 h3 h4 h5 h6 h7 h8
    obtain ⟨F, rfl⟩ : ∃ F2, F = F2 + 1 := ⟨F - 1, by omega⟩
    have e : i = n := by omega
    subst e
    refine T_of (fX9_renumber_L9.eq_2 ..) ?_
    refine T_if1 tx6.1 ?_
    refine T_let (i : Int) h3 ?_
    refine T_if1 (Int.le_refl _) ?_
    exact hk s h5 h6 h8
  | succ m ih =>
    intro F i s o h1 h2 h3 h4 h5 h6 h7 h8
    obtain ⟨F, rfl⟩ : ∃ F2, F = F2 + 1 := ⟨F - 1, by omega⟩
    have hi : 0 ≤ (i : Int) ∧ (i : Int) < 200 := by omega
    have eg := h4 i (Nat.le_refl i) (by omega)
    have gb := y_gc_b (G := G) i
    refine T_of (fX9_renumber_L9.eq_2 ..) ?_
    refine T_if1 tx6.1 ?_
    refine T_let (n : Int) h3 ?_
    refine T_if0 (by omega) ?_
    refine T_if1 tx6.1 ?_
    refine T_let 11 v_t2 ?_
    refine T_if1 v_rw11.1 ?_
    refine T_bI (T_of ((e_get v_rw11).trans (by rw [v_rg v_c11 v_l11 hi, eg])) (T_rI ?_))
    have o1 : G i = (if i + 1 = 0 then -1 else G (((i + 1 : Nat) : Int) - 1)) := by
      rw [if_neg (by omega), show (((i + 1 : Nat) : Int) - 1) = i by omega]
    refine T_ite (fun q => ?_) (fun q => ?_)
    · refine T_of (e_rn64 hi) ?_
      refine ih F (i + 1) s (G i) (by omega) (by omega) h3 (fun j p r => h4 j (by omega) r) (fun j p => ?_) ?_ o1 h8
      · by_cases z : j = i
        · subst z; rw [eg]; unfold y_rn; rw [if_pos q]; exact q
        · exact h5 j (by omega)
      · rw [h6]
        show y_gc G i = (if G i = -1 then y_gc G i else _)
        rw [if_pos q]
    · refine T_if1 tx6.1 ?_
      refine T_let (y_gc G i) h6 ?_
      have go : ∀ y : Int, y_gc G i + y = y_gc G (i + 1) → (y = 0 ∨ y = 1) → z_T (fX9_renumber_J46 fu s 6 i (G i) 6 (y_gc G i) y (fun w v1 v2 => fX9_renumber_L9 fu 6 F w v1 v2 k) k) P := fun y hy h01 => by
        refine T_of (e_rn46 hi (by omega)) ?_
        rw [hy]
        refine ih F (i + 1) _ (G i) (by omega) (by omega) ((v_up2 (by decide) (by decide)).trans h3) (fun j p r => ?_) (fun j p => ?_) ?_ o1 (fun a b p r => (v_up2 p r).trans (h8 a b p r))
        · rw [z_up_j (by omega), z_up_k (by decide)]; exact h4 j (by omega) r
        · by_cases z : j = i
          · subst z; rw [z_up_s]; unfold y_rn; rw [if_neg q]
          · rw [z_up_j (by omega), z_up_k (by decide)]; exact h5 j (by omega)
        · rw [z_up_k (by decide), z_up_s]
      have e0 : y_gc G (i + 1) = if i ≠ 0 ∧ G ((i : Int) - 1) = G i then y_gc G i else y_gc G i + 1 := by
        show (if G i = -1 then y_gc G i else _) = _
        rw [if_neg q]
      refine T_ite (fun q2 => ?_) (fun q2 => ?_)
      · refine go 1 ?_ (Or.inr rfl)
        rw [e0, if_neg]
        intro z
        rw [h7, if_neg z.1] at q2
        exact q2 z.2.symm
      · refine go 0 ?_ (Or.inl rfl)
        have q3 : G i = o := by
          by_cases z : G i = o
          · exact z
          · exact absurd z q2
        rw [e0, if_pos, Int.add_zero]
        by_cases z : i = 0
        · rw [h7, if_pos z] at q3; exact absurd q3 q
        · rw [h7, if_neg z] at q3; exact ⟨z, q3.symm⟩
theorem e_renumber {fu : Nat} (hfu : 8589934592 ≤ fu) {s : z_M} (hn : 0 ≤ s 6 6 ∧ s 6 6 ≤ 200) : z_T (fX9_renumber fu s 6) (fun v s' => v = vN ∧ (∀ j : Nat, (j : Int) < s 6 6 → s' 12 j = y_rn (fun i => s 12 i) j) ∧ s' 6 7 = y_gc (fun i => s 12 i) (s 6 6).toNat ∧ ∀ a b : Int, ¬ (a = 6 ∧ b = 7) → a ≠ 12 → s' a b = s a b) := by
  refine T_of (fX9_renumber.eq_1 ..) ?_
  refine T_if1 tx6.1 ?_
  refine T_up ?_
  have o : ∀ a b : Int, ¬ (a = 6 ∧ b = 7) → z_up s 6 7 0 a b = s a b := fun a b h => by
    by_cases q : a = 6
    · subst q; exact z_up_j (fun r => h ⟨rfl, r⟩)
    · exact z_up_k q
  refine e_rnL (G := fun i => s 12 i) (n := (s 6 6).toNat) (s0 := s) (by omega) (fun s' g1 g2 g3 => T_ret ⟨rfl, fun j hj => g1 j (by omega), g2, g3⟩) (s 6 6).toNat fu 0 _ _ (by omega) (by omega) ?_ (fun j _ _ => o _ _ (by omega)) (fun j h => absurd h (Nat.not_lt_zero j)) z_up_s rfl (fun a b p _ => o a b p)
  rw [o _ _ (by decide)]; omega
theorem v_cs {s : z_M} {k c A B n j : Int} (hc : z_gr k 0 = c) (l : z_ln k = 200) (hn : n ≤ 200) (h : 0 ≤ A ∧ A ≤ B ∧ B ≤ n) (hj : 0 ≤ j ∧ j < n - (B - A)) : z_cs s k A B n c j = s c (y_sc A B j) := by
  unfold z_cs y_sc
  by_cases q : j < A
  · rw [if_neg (by omega), if_pos q]
  · rw [if_pos ⟨hc.symm, by omega, by omega, by rw [l]; omega⟩, if_neg q, v_rg hc l ⟨by omega, by omega⟩]
theorem v_cso {s : z_M} {k c A B n a j : Int} (hc : z_gr k 0 = c) (h : a ≠ c) : z_cs s k A B n a j = s a j := by
  unfold z_cs
  rw [if_neg (fun q => h (q.1.trans hc))]
def y_DR (s s' : z_M) (A B : Int) : Prop := s' 6 6 = s 6 6 - (B - A) ∧ s' 6 8 = s 6 8 ∧ s' 6 7 = y_gc (fun i => s 12 (y_sc A B i)) (s 6 6 - (B - A)).toNat ∧
  ∀ j : Nat, (j : Int) < s 6 6 - (B - A) → s' 8 j = s 8 (y_sc A B j) ∧ s' 10 j = s 10 (y_sc A B j) ∧ s' 12 j = y_rn (fun i => s 12 (y_sc A B i)) j ∧ s' 14 j = s 14 (y_sc A B j) ∧ s' 16 j = s 16 (y_sc A B j) ∧ s' 18 j = s 18 (y_sc A B j)
theorem y_gc_cg {G G' : Int → Int} : ∀ n : Nat, (∀ j : Nat, j < n → G j = G' j) → y_gc G n = y_gc G' n := by
  intro n
  induction n with
  | zero => intro _; rfl
  | succ n ih =>
    intro h
    show (if G n = -1 then y_gc G n else if n ≠ 0 ∧ G ((n : Int) - 1) = G n then y_gc G n else y_gc G n + 1) = (if G' n = -1 then y_gc G' n else if n ≠ 0 ∧ G' ((n : Int) - 1) = G' n then y_gc G' n else y_gc G' n + 1)
    rw [ih (fun j hj => h j (by omega)), h n (by omega)]
    by_cases q : n = 0
    · rw [if_neg (c := n ≠ 0 ∧ _) (fun z => z.1 q), if_neg (c := n ≠ 0 ∧ _) (fun z => z.1 q)]
    · rw [show ((n : Int) - 1) = ((n - 1 : Nat) : Int) by omega, h (n - 1) (by omega)]
theorem y_rn_cg {G G' : Int → Int} {n : Nat} (h : ∀ j : Nat, j ≤ n → G j = G' j) : y_rn G n = y_rn G' n := by
  unfold y_rn
  rw [h n (Nat.le_refl n), y_gc_cg (n + 1) (fun j hj => h j (by omega))]
theorem e_drop {fu : Nat} (hfu : 8589934592 ≤ fu) {s : z_M} {A B : Int} (hn : 0 ≤ s 6 6 ∧ s 6 6 ≤ 200) (h : 0 ≤ A ∧ A ≤ B ∧ B ≤ s 6 6) : z_T (fX9_drop fu s 6 A B) (fun v s' => v = vN ∧ y_DR s s' A B ∧ ∀ a b : Int, a < 6 ∨ 18 < a → s' a b = s a b) := by
  refine T_of (fX9_drop.eq_1 ..) ?_
  have t := tx6.2
  have g1 : z_gr 6 0 = 7 := t.1.1
  have g2 : z_gr 6 1 = 9 := t.1.2.1
  have g3 : z_gr 6 2 = 11 := t.1.2.2.1
  have g4 : z_gr 6 3 = 13 := t.1.2.2.2.1
  have g5 : z_gr 6 4 = 15 := t.1.2.2.2.2.1
  have g6 : z_gr 6 5 = 17 := t.1.2.2.2.2.2
  have r1 : z_rw 7 ∧ z_gr 7 0 = 8 ∧ z_ln 7 = 200 := t.2.1
  have r2 : z_rw 9 ∧ z_gr 9 0 = 10 ∧ z_ln 9 = 200 := t.2.2.1
  have r3 : z_rw 11 ∧ z_gr 11 0 = 12 ∧ z_ln 11 = 200 := t.2.2.2.1
  have r4 : z_rw 13 ∧ z_gr 13 0 = 14 ∧ z_ln 13 = 200 := t.2.2.2.2.1
  have r5 : z_lr 15 ∧ z_gr 15 0 = 16 ∧ z_ln 15 = 200 := t.2.2.2.2.2.1
  have r6 : z_lr 17 ∧ z_gr 17 0 = 18 ∧ z_ln 17 = 200 := t.2.2.2.2.2.2
  obtain ⟨n, en⟩ : ∃ n, s 6 6 = n := ⟨_, rfl⟩
  rw [en] at hn h
  have hb : 0 ≤ A ∧ A ≤ B ∧ B ≤ n := h
  refine T_if1 tx6.1 ?_
  refine T_let 7 g1 ?_
  refine T_if1 tx6.1 ?_
  refine T_let n en ?_
  refine T_if1 r1.1.1 ?_
  refine T_bN (T_of (e_close hfu r1.1 h.1 h.2.1 (by omega)) (T_rN ?_))
  obtain ⟨s1, h1⟩ : ∃ s1, z_cs s 7 A B n = s1 := ⟨_, rfl⟩
  rw [h1]
  have o1 : ∀ a b : Int, a ≠ 8 → s1 a b = s a b := fun a b q => by rw [← h1]; exact v_cso r1.2.1 q
  refine T_if1 tx6.1 ?_
  refine T_let 9 g2 ?_
  refine T_if1 tx6.1 ?_
  refine T_let n ((o1 _ _ (by decide)).trans en) ?_
  refine T_if1 r2.1.1 ?_
  refine T_bN (T_of (e_close hfu r2.1 h.1 h.2.1 (by omega)) (T_rN ?_))
  obtain ⟨s2, h2⟩ : ∃ s2, z_cs s1 9 A B n = s2 := ⟨_, rfl⟩
  rw [h2]
  have o2 : ∀ a b : Int, a ≠ 10 → s2 a b = s1 a b := fun a b q => by rw [← h2]; exact v_cso r2.2.1 q
  refine T_if1 tx6.1 ?_
  refine T_let 11 g3 ?_
  refine T_if1 tx6.1 ?_
  refine T_let n ((o2 _ _ (by decide)).trans ((o1 _ _ (by decide)).trans en)) ?_
  refine T_if1 r3.1.1 ?_
  refine T_bN (T_of (e_close hfu r3.1 h.1 h.2.1 (by omega)) (T_rN ?_))
  obtain ⟨s3, h3⟩ : ∃ s3, z_cs s2 11 A B n = s3 := ⟨_, rfl⟩
  rw [h3]
  have o3 : ∀ a b : Int, a ≠ 12 → s3 a b = s2 a b := fun a b q => by rw [← h3]; exact v_cso r3.2.1 q
  have p3 : ∀ a b : Int, a ≠ 8 → a ≠ 10 → a ≠ 12 → s3 a b = s a b := fun a b q1 q2 q3 => by rw [o3 a b q3, o2 a b q2, o1 a b q1]
  refine T_if1 tx6.1 ?_
  refine T_let 13 g4 ?_
  refine T_if1 tx6.1 ?_
  refine T_let n ((p3 _ _ (by decide) (by decide) (by decide)).trans en) ?_
  refine T_if1 r4.1.1 ?_
  refine T_bN (T_of (e_close hfu r4.1 h.1 h.2.1 (by omega)) (T_rN ?_))
  obtain ⟨s4, h4⟩ : ∃ s4, z_cs s3 13 A B n = s4 := ⟨_, rfl⟩
  rw [h4]
  have o4 : ∀ a b : Int, a ≠ 14 → s4 a b = s3 a b := fun a b q => by rw [← h4]; exact v_cso r4.2.1 q
  refine T_if1 tx6.1 ?_
  refine T_let 15 g5 ?_
  refine T_if1 tx6.1 ?_
  refine T_let n ((o4 _ _ (by decide)).trans ((p3 _ _ (by decide) (by decide) (by decide)).trans en)) ?_
  refine T_if1 r5.1.1 ?_
  refine T_bN (T_of (e_lclose hfu r5.1 h.1 h.2.1 (by omega)) (T_rN ?_))
  obtain ⟨s5, h5⟩ : ∃ s5, z_cs s4 15 A B n = s5 := ⟨_, rfl⟩
  rw [h5]
  have o5 : ∀ a b : Int, a ≠ 16 → s5 a b = s4 a b := fun a b q => by rw [← h5]; exact v_cso r5.2.1 q
  refine T_if1 tx6.1 ?_
  refine T_let 17 g6 ?_
  refine T_if1 tx6.1 ?_
  refine T_let n ((o5 _ _ (by decide)).trans ((o4 _ _ (by decide)).trans ((p3 _ _ (by decide) (by decide) (by decide)).trans en))) ?_
  refine T_if1 r6.1.1 ?_
  refine T_bN (T_of (e_lclose hfu r6.1 h.1 h.2.1 (by omega)) (T_rN ?_))
  obtain ⟨s6, h6⟩ : ∃ s6, z_cs s5 17 A B n = s6 := ⟨_, rfl⟩
  rw [h6]
  have o6 : ∀ a b : Int, a ≠ 18 → s6 a b = s5 a b := fun a b q => by rw [← h6]; exact v_cso r6.2.1 q
  have p6 : ∀ a b : Int, a ≠ 8 → a ≠ 10 → a ≠ 12 → a ≠ 14 → a ≠ 16 → a ≠ 18 → s6 a b = s a b := fun a b q1 q2 q3 q4 q5 q6 => by rw [o6 a b q6, o5 a b q5, o4 a b q4, p3 a b q1 q2 q3]
  refine T_if1 tx6.1 ?_
  refine T_let n ((p6 _ _ (by decide) (by decide) (by decide) (by decide) (by decide) (by decide)).trans en) ?_
  refine T_let (B - A) (z_wid (by unfold z_I; omega)) ?_
  refine T_let (n - (B - A)) (z_wid (by unfold z_I; omega)) ?_
  refine T_if1 tx6.1 ?_
  refine T_up ?_
  obtain ⟨s7, h7⟩ : ∃ s7, z_up s6 6 6 (n - (B - A)) = s7 := ⟨_, rfl⟩
  rw [h7]
  have e7 : s7 6 6 = n - (B - A) := by rw [← h7]; exact z_up_s
  have o7 : ∀ a b : Int, a ≠ 6 → s7 a b = s6 a b := fun a b q => by rw [← h7]; exact z_up_k q
  have e78 : s7 6 8 = s 6 8 := by rw [← h7, z_up_j (by decide)]; exact p6 _ _ (by decide) (by decide) (by decide) (by decide) (by decide) (by decide)
  have c8 : ∀ j : Nat, (j : Int) < n - (B - A) → s7 8 j = s 8 (y_sc A B j) := fun j hj => by
    rw [o7 _ _ (by decide), o6 _ _ (by decide), o5 _ _ (by decide), o4 _ _ (by decide), o3 _ _ (by decide), o2 _ _ (by decide), ← h1]
    exact v_cs r1.2.1 r1.2.2 hn.2 hb ⟨by omega, hj⟩
  have c10 : ∀ j : Nat, (j : Int) < n - (B - A) → s7 10 j = s 10 (y_sc A B j) := fun j hj => by
    rw [o7 _ _ (by decide), o6 _ _ (by decide), o5 _ _ (by decide), o4 _ _ (by decide), o3 _ _ (by decide), ← h2, v_cs r2.2.1 r2.2.2 hn.2 hb ⟨by omega, hj⟩]
    exact o1 _ _ (by decide)
  have c12 : ∀ j : Nat, (j : Int) < n - (B - A) → s7 12 j = s 12 (y_sc A B j) := fun j hj => by
    rw [o7 _ _ (by decide), o6 _ _ (by decide), o5 _ _ (by decide), o4 _ _ (by decide), ← h3, v_cs r3.2.1 r3.2.2 hn.2 hb ⟨by omega, hj⟩, o2 _ _ (by decide)]
    exact o1 _ _ (by decide)
  have c14 : ∀ j : Nat, (j : Int) < n - (B - A) → s7 14 j = s 14 (y_sc A B j) := fun j hj => by
    rw [o7 _ _ (by decide), o6 _ _ (by decide), o5 _ _ (by decide), ← h4, v_cs r4.2.1 r4.2.2 hn.2 hb ⟨by omega, hj⟩]
    exact p3 _ _ (by decide) (by decide) (by decide)
  have c16 : ∀ j : Nat, (j : Int) < n - (B - A) → s7 16 j = s 16 (y_sc A B j) := fun j hj => by
    rw [o7 _ _ (by decide), o6 _ _ (by decide), ← h5, v_cs r5.2.1 r5.2.2 hn.2 hb ⟨by omega, hj⟩, o4 _ _ (by decide)]
    exact p3 _ _ (by decide) (by decide) (by decide)
  have c18 : ∀ j : Nat, (j : Int) < n - (B - A) → s7 18 j = s 18 (y_sc A B j) := fun j hj => by
    rw [o7 _ _ (by decide), ← h6, v_cs r6.2.1 r6.2.2 hn.2 hb ⟨by omega, hj⟩, o5 _ _ (by decide), o4 _ _ (by decide)]
    exact p3 _ _ (by decide) (by decide) (by decide)
  refine T_if1 tx6.1 ?_
  refine T_useN (e_renumber hfu (by rw [e7]; omega)) (fun v s8 hq => ?_)
  obtain ⟨rfl, q1, q2, q3⟩ := hq
  refine T_vN ?_
  rw [e7] at q1 q2
  unfold y_DR
  rw [en]
  refine T_ret ⟨rfl, ⟨?_, ?_, ?_, fun j hj => ⟨?_, ?_, ?_, ?_, ?_, ?_⟩⟩, fun a b p => ?_⟩
  · rw [q3 _ _ (by omega) (by decide)]; exact e7
  · rw [q3 _ _ (by omega) (by decide)]; exact e78
  · rw [q2]; exact y_gc_cg _ (fun j hj => c12 j (by omega))
  · rw [q3 _ _ (by omega) (by decide)]; exact c8 j hj
  · rw [q3 _ _ (by omega) (by decide)]; exact c10 j hj
  · rw [q1 j hj]; exact y_rn_cg (fun i hi => c12 i (by omega))
  · rw [q3 _ _ (by omega) (by decide)]; exact c14 j hj
  · rw [q3 _ _ (by omega) (by decide)]; exact c16 j hj
  · rw [q3 _ _ (by omega) (by decide)]; exact c18 j hj
  · rw [q3 _ _ (by omega) (by omega), o7 _ _ (by omega)]
    exact p6 _ _ (by omega) (by omega) (by omega) (by omega) (by omega) (by omega)
