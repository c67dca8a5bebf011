/-! READING, 4: the states of reading on both sides -/
theorem y_TX.g {g g' s : z_M} {t bb : Int} (h : y_TX g 19 s t bb) (k : ∀ a b : Int, a ≠ 32 → g' a b = g a b) : y_TX g' 19 s t bb := by
  obtain ⟨a1, a2, a3, a4⟩ := h
  refine ⟨by rw [k _ _ (by decide)]; exact a1, by rw [k _ _ (by decide)]; exact a2, by rw [k _ _ (by decide)]; exact a3, fun i p q => ?_⟩
  rw [k _ _ (by decide), k _ _ (by decide), k _ _ (by decide), k _ _ (by decide)]
  exact a4 i p q
theorem y_TX.bb {g s : z_M} {k t bb bb' : Int} (h : y_TX g k s t bb) (e : bb ≤ bb') : y_TX g k s t bb' := ⟨h.1, h.2.1, h.2.2.1, fun i p q => ⟨by have := (h.2.2.2 i p q).1; omega, (h.2.2.2 i p q).2⟩⟩
/-- the same draft of the reference -/
def y_SD (s s' : z_M) : Prop := s' 329 0 = s 329 0 ∧ s' 329 2 = s 329 2 ∧ (∀ b, s' 344 b = s 344 b) ∧ (∀ b, s' 359 b = s 359 b) ∧ (∀ b, s' 374 b = s 374 b) ∧ ∀ b, s' 389 b = s 389 b
theorem y_TX.s {g s s' : z_M} {bb : Int} (h : y_TX g 19 s 13 bb) (k : y_SD s s') : y_TX g 19 s' 13 bb := by
  have e1 : (316 + 13 : Int) = 329 := by decide
  have e2 : (331 + 13 : Int) = 344 := by decide
  have e3 : (346 + 13 : Int) = 359 := by decide
  have e4 : (361 + 13 : Int) = 374 := by decide
  have e5 : (376 + 13 : Int) = 389 := by decide
  obtain ⟨a1, a2, a3, a4⟩ := h
  obtain ⟨k1, k2, k3, k4, k5, k6⟩ := k
  rw [e1] at a1 a2 a4
  refine ⟨by rw [e1, k1]; exact a1, by rw [e1, k2]; exact a2, a3, fun i p q => ?_⟩
  rw [e1, k1] at q
  obtain ⟨b1, b2⟩ := a4 i p q
  rw [e4] at b1
  refine ⟨by rw [e4, k5]; exact b1, y_sg.cg (fun b _ => ?_) (fun b _ => ?_) (fun b _ => ?_) (fun b _ => ?_) b2⟩
  · rw [e2]; exact k3 b
  · rw [e3]; exact k4 b
  · rw [e4]; exact k5 b
  · rw [e5]; exact k6 b
/-- steps over bytes: from place p to place p' -/
def y_gw (b : Int → Int) (p : Int) (g : z_M) : Nat → z_M
  | 0 => g
  | m + 1 => z_up (y_st (y_gw b p g m) (b (p + m))).2 32 7 (p + m + 1)
def y_W (b : Int → Int) (p : Int) (g : z_M) (p' : Int) (g' : z_M) : Prop := ∃ m : Nat, p' = p + m ∧ g' = y_gw b p g m ∧ ∀ i : Nat, i < m → (y_st (y_gw b p g i) (b (p + i))).1 = 0
theorem y_W.rf {b : Int → Int} {p : Int} {g : z_M} : y_W b p g p g := ⟨0, by omega, rfl, fun i h => absurd h (Nat.not_lt_zero i)⟩
theorem y_gw_add {b : Int → Int} {p : Int} {g : z_M} {m : Nat} : ∀ n : Nat, y_gw b p g (m + n) = y_gw b (p + m) (y_gw b p g m) n := by
  intro n
  induction n with
  | zero => rfl
  | succ n ih =>
    show z_up (y_st (y_gw b p g (m + n)) (b (p + (m + n : Nat)))).2 32 7 (p + (m + n : Nat) + 1) = z_up (y_st (y_gw b (p + m) (y_gw b p g m) n) (b (p + m + n))).2 32 7 (p + m + n + 1)
    rw [ih, show p + ((m + n : Nat) : Int) = p + m + n by omega]
theorem y_W.tr {b : Int → Int} {p p1 p2 : Int} {g g1 g2 : z_M} (h : y_W b p g p1 g1) (k : y_W b p1 g1 p2 g2) : y_W b p g p2 g2 := by
  obtain ⟨m, e1, e2, e3⟩ := h
  obtain ⟨n, f1, f2, f3⟩ := k
  subst e1; subst e2
  refine ⟨m + n, by omega, by rw [f2, y_gw_add], fun i hi => ?_⟩
  by_cases q : i < m
  · exact e3 i q
  · have w := f3 (i - m) (by omega)
    have r : m + (i - m) = i := by omega
    rw [← y_gw_add, r, show p + m + ((i - m : Nat) : Int) = p + i by omega] at w
    exact w
theorem y_W.one {b : Int → Int} {p p' c : Int} {g : z_M} (h : (y_st g c).1 = 0) (hc : b p = c) (hp : p' = p + 1) : y_W b p g p' (z_up (y_st g c).2 32 7 p') := by
  subst hp
  refine ⟨1, by omega, ?_, fun i hi => ?_⟩
  · show _ = z_up (y_st g (b (p + (0 : Nat)))).2 32 7 (p + (0 : Nat) + 1)
    rw [show p + ((0 : Nat) : Int) = p by omega, hc]
  · have : i = 0 := by omega
    subst this
    show (y_st g (b (p + (0 : Nat)))).1 = 0
    rw [show p + ((0 : Nat) : Int) = p by omega, hc]; exact h
theorem y_gw_gi {b : Int → Int} {g : z_M} : ∀ m : Nat, y_gw b 0 g m = y_gi b g m := by
  intro m
  induction m with
  | zero => rfl
  | succ m ih =>
    show z_up (y_st (y_gw b 0 g m) (b (0 + m))).2 32 7 (0 + m + 1) = z_up (y_st (y_gi b g m) (b m)).2 32 7 (m + 1)
    rw [ih, show (0 : Int) + (m : Int) = m by omega]
/-- outside; a base is due (nb bases before it); in a base (n signs); behind its signs; in a reading (side d, n letters) -/
def y_O (g s : z_M) : Prop := g 32 1 = 0 ∧ g 19 7 ≤ g 19 6 ∧ y_TX g 19 s 13 (s 329 1) ∧ y_XO g s (s 329 1) (y_gd s)
def y_BD (g s : z_M) (nb gr : Int) : Prop := g 32 1 = 1 ∧ g 32 2 = nb ∧ (1 ≤ g 19 7 ∧ g 19 7 ≤ g 19 6 + 1) ∧ y_TX g 19 s 13 (s 329 1) ∧ y_XO g s (s 329 1) (gr + 1) ∧ y_CE2 (g 25) (s 329 0) (gr + 1)
def y_IB (g s : z_M) (n nb bs gr : Int) : Prop := g 32 1 = 2 ∧ g 32 2 = nb ∧ g 32 3 = n ∧ (1 ≤ g 19 7 ∧ g 19 7 ≤ g 19 6) ∧ y_TX g 19 s 13 (bs + 1) ∧ 1 ≤ s 329 0 ∧ s 359 (s 329 0 - 1) = 7 ∧ s 374 (s 329 0 - 1) = bs ∧ (0 ≤ bs ∧ bs ≤ 199) ∧ y_XO g s bs (gr + 1) ∧ y_CE2 (g 25) (s 329 0) (gr + 1) ∧ y_XC g s bs gr ∧ y_X0 g s bs
def y_JB (g s : z_M) (nb gr : Int) : Prop := g 32 1 = 2 ∧ g 32 2 = nb ∧ (1 ≤ g 19 7 ∧ g 19 7 ≤ g 19 6) ∧ y_TX g 19 s 13 (s 329 1) ∧ (1 ≤ s 329 1 ∧ s 329 1 ≤ 200) ∧ y_XO g s (s 329 1 - 1) (gr + 1) ∧ y_CE2 (g 25) (s 329 0) (gr + 1) ∧ y_XC g s (s 329 1 - 1) gr ∧ y_X0 g s (s 329 1 - 1) ∧ s 404 (s 329 1 - 1) = gr ∧ s (3020 + (s 329 1 - 1)) 10 = 0
def y_IR (g s : z_M) (d n nb gr : Int) : Prop := g 32 1 = 3 ∧ g 32 2 = nb ∧ g 32 4 = n ∧ g 32 6 = d ∧ (1 ≤ g 19 7 ∧ g 19 7 ≤ g 19 6) ∧ y_TX g 19 s 13 (s 329 1) ∧ (1 ≤ s 329 1 ∧ s 329 1 ≤ 200) ∧ y_XO g s (s 329 1 - 1) (gr + 1) ∧ y_CE2 (g 25) (s 329 0) (gr + 1) ∧ y_XC g s (s 329 1 - 1) gr ∧ s 404 (s 329 1 - 1) = gr ∧ y_XQ g s (s 329 1 - 1) d n
theorem y_7 {g : z_M} {p a b : Int} (h : ¬ (a = 32 ∧ b = 7)) : z_up g 32 7 p a b = g a b := by
  by_cases e : a = 32
  · subst e; exact z_up_j (fun q => h ⟨rfl, q⟩)
  · exact z_up_k e
theorem y_TX.n {g s : z_M} {bb : Int} (h : y_TX g 19 s 13 bb) : g 19 6 = s 329 0 := h.1
theorem y_as0 {g : z_M} {code grp hd mk : Int} (h : g 19 6 < 200) : y_as g code grp hd mk = (0, y_add g code grp hd mk) := if_pos h
theorem y_as2 {g : z_M} {code grp hd mk : Int} (h : ¬ g 19 6 < 200) : y_as g code grp hd mk = (2, g) := if_neg h
section ZT
variable {g s s' : z_M} {c p n nb bs d kd : Int}
theorem t_pen (h : y_O g s) (v : Int) (hc : (c = 42 ∧ v = 1) ∨ (c = 95 ∧ v = 2)) (k0 : s' 329 0 = s 329 0) (k1 : s' 329 1 = s 329 1) (k2 : s' 329 2 = z_xor (s 329 2) v) (kr : ∀ a b : Int, a = 344 ∨ a = 359 ∨ a = 374 ∨ a = 389 → s' a b = s a b) (gs : y_GS s s') (b200 : s 329 1 ≤ 200) : (y_st g c).1 = 0 ∧ y_O (z_up (y_st g c).2 32 7 p) s' := by
  obtain ⟨h1, h2, h3, hx⟩ := h
  have e : y_st g c = (0, z_up g 19 8 (z_xor (g 19 8) v)) := by
    unfold y_st y_so
    rw [if_pos h1]
    rcases hc with ⟨rfl, rfl⟩ | ⟨rfl, rfl⟩
    · rw [if_pos rfl]
    · rw [if_neg (by decide), if_pos rfl]
  rw [e]
  refine ⟨rfl, ?_, ?_, ?_, ?_⟩
  · show z_up (z_up g 19 8 _) 32 7 p 32 1 = 0
    rw [y_7 (by decide), z_up_k (by decide)]; exact h1
  · show z_up (z_up g 19 8 _) 32 7 p 19 7 ≤ z_up (z_up g 19 8 _) 32 7 p 19 6
    rw [y_7 (by decide), y_7 (by decide), z_up_j (by decide), z_up_j (by decide)]; exact h2
  · have e1 : (316 + 13 : Int) = 329 := by decide
    have e2 : (331 + 13 : Int) = 344 := by decide
    have e3 : (346 + 13 : Int) = 359 := by decide
    have e4 : (361 + 13 : Int) = 374 := by decide
    have e5 : (376 + 13 : Int) = 389 := by decide
    obtain ⟨a1, a2, a3, a4⟩ := h3
    rw [e1] at a1 a2 a4
    refine ⟨?_, ?_, ?_, fun i x y => ?_⟩
    · show z_up (z_up g 19 8 _) 32 7 p 19 6 = _
      rw [y_7 (by decide), z_up_j (by decide), e1, k0]; exact a1
    · show z_up (z_up g 19 8 _) 32 7 p 19 8 = _
      rw [y_7 (by decide), z_up_s, e1, k2, a2]
    · show 0 ≤ z_up (z_up g 19 8 _) 32 7 p 19 7
      rw [y_7 (by decide), z_up_j (by decide)]; exact a3
    · rw [e1, k0] at y
      obtain ⟨b1, b2⟩ := a4 i x y
      rw [e4] at b1
      refine ⟨by rw [e4, kr _ _ (by decide), k1]; exact b1, ?_⟩
      show y_sg (z_up (z_up g 19 8 _) 32 7 p (19 + 2) i) (z_up (z_up g 19 8 _) 32 7 p (19 + 4) i) (z_up (z_up g 19 8 _) 32 7 p (19 + 6) i) (z_up (z_up g 19 8 _) 32 7 p (19 + 8) i) s' 13 i
      rw [z_up_k (by decide), z_up_k (by decide), z_up_k (by decide), z_up_k (by decide), z_up_k (by decide), z_up_k (by decide), z_up_k (by decide), z_up_k (by decide)]
      refine y_sg.cg (fun b _ => ?_) (fun b _ => ?_) (fun b _ => ?_) (fun b _ => ?_) b2
      · rw [e2]; exact kr _ _ (by decide)
      · rw [e3]; exact kr _ _ (by decide)
      · rw [e4]; exact kr _ _ (by decide)
      · rw [e5]; exact kr _ _ (by decide)
  · rw [k1, y_gd_cg gs k1]
    have x := y_XO.s (s' := s') hx (Int.le_refl _) k0 (fun b => kr 359 b (by decide)) (fun b => kr 374 b (by decide)) (fun b p q => ⟨gs.1 b, gs.2 _ _ (by omega) (by omega), gs.2 _ _ (by omega) (by omega)⟩)
    generalize hG : z_up (z_up g 19 8 (z_xor (g 19 8) v)) 32 7 p = G
    have f : ∀ a : Int, a ≠ 19 → a ≠ 32 → G a = g a := fun a q1 q2 => funext fun b => by rw [← hG, z_up_k q2, z_up_k q1]
    have g7 : G 19 7 = g 19 7 := by rw [← hG, y_7 (by decide), z_up_j (by decide)]
    have g8 : G 19 8 = z_xor (g 19 8) v := by rw [← hG, y_7 (by decide), z_up_s]
    obtain ⟨x1, x2, x3, x4, x5, x6⟩ := x
    unfold y_XO y_XD
    rw [f 25 (by decide) (by decide), f 27 (by decide) (by decide), f 29 (by decide) (by decide), f 31 (by decide) (by decide), f 23 (by decide) (by decide), g7, g8]
    exact ⟨x1, x2, x3, x4, z_xor3 x5 (by omega), x6⟩
theorem t_opn (h : y_O g s) (cs : z_CI s) (hc : c = 123) : (y_st g c).1 = 0 ∧ y_BD (z_up (y_st g c).2 32 7 p) s 0 (y_gd s) := by
  obtain ⟨h1, h2, h3, hx⟩ := h
  have w := CI_b cs (k := 329) (j := 0) bd_329_0
  have hn := h3.n
  have h7 := h3.2.2.1
  have ez : z_w (g 19 7 + 1) = g 19 7 + 1 := z_wid (by unfold z_I; omega)
  have e : y_st g c = (0, z_up (z_up (z_up g 19 7 (z_w (g 19 7 + 1))) 32 2 0) 32 1 1) := by
    unfold y_st y_so
    rw [if_pos h1, if_neg (by omega), if_neg (by omega), if_pos hc]
  rw [e]
  refine ⟨rfl, ?_, ?_, ?_, ?_, ?_⟩
  · show z_up (z_up (z_up (z_up g 19 7 _) 32 2 0) 32 1 1) 32 7 p 32 1 = 1
    rw [y_7 (by decide), z_up_s]
  · show z_up (z_up (z_up (z_up g 19 7 _) 32 2 0) 32 1 1) 32 7 p 32 2 = 0
    rw [y_7 (by decide), z_up_j (by decide), z_up_s]
  · have k7 : z_up (z_up (z_up (z_up g 19 7 (z_w (g 19 7 + 1))) 32 2 0) 32 1 1) 32 7 p 19 7 = g 19 7 + 1 := by
      rw [z_up_k (by decide), z_up_k (by decide), z_up_k (by decide), z_up_s, ez]
    have k6 : z_up (z_up (z_up (z_up g 19 7 (z_w (g 19 7 + 1))) 32 2 0) 32 1 1) 32 7 p 19 6 = g 19 6 := by
      rw [z_up_k (by decide), z_up_k (by decide), z_up_k (by decide), z_up_j (by decide)]
    show 1 ≤ z_up (z_up (z_up (z_up g 19 7 _) 32 2 0) 32 1 1) 32 7 p 19 7 ∧ z_up (z_up (z_up (z_up g 19 7 _) 32 2 0) 32 1 1) 32 7 p 19 7 ≤ z_up (z_up (z_up (z_up g 19 7 _) 32 2 0) 32 1 1) 32 7 p 19 6 + 1
    rw [k7, k6]
    omega
  · have k : ∀ a b : Int, a ≠ 19 → a ≠ 32 → z_up (z_up (z_up (z_up g 19 7 (z_w (g 19 7 + 1))) 32 2 0) 32 1 1) 32 7 p a b = g a b := fun a b x y => by
      rw [z_up_k y, z_up_k y, z_up_k y, z_up_k x]
    obtain ⟨a1, a2, a3, a4⟩ := h3
    refine ⟨?_, ?_, ?_, fun i x y => ?_⟩
    · show z_up (z_up (z_up (z_up g 19 7 _) 32 2 0) 32 1 1) 32 7 p 19 6 = _
      rw [z_up_k (by decide), z_up_k (by decide), z_up_k (by decide), z_up_j (by decide)]; exact a1
    · show z_up (z_up (z_up (z_up g 19 7 _) 32 2 0) 32 1 1) 32 7 p 19 8 = _
      rw [z_up_k (by decide), z_up_k (by decide), z_up_k (by decide), z_up_j (by decide)]; exact a2
    · show 0 ≤ z_up (z_up (z_up (z_up g 19 7 _) 32 2 0) 32 1 1) 32 7 p 19 7
      rw [z_up_k (by decide), z_up_k (by decide), z_up_k (by decide), z_up_s, ez]; omega
    · show _ ∧ y_sg (z_up (z_up (z_up (z_up g 19 7 _) 32 2 0) 32 1 1) 32 7 p (19 + 2) i) (z_up (z_up (z_up (z_up g 19 7 _) 32 2 0) 32 1 1) 32 7 p (19 + 4) i) (z_up (z_up (z_up (z_up g 19 7 _) 32 2 0) 32 1 1) 32 7 p (19 + 6) i) (z_up (z_up (z_up (z_up g 19 7 _) 32 2 0) 32 1 1) 32 7 p (19 + 8) i) s 13 i
      rw [k _ _ (by decide) (by decide), k _ _ (by decide) (by decide), k _ _ (by decide) (by decide), k _ _ (by decide) (by decide)]
      exact a4 i x y
  · generalize hG : z_up (z_up (z_up (z_up g 19 7 (z_w (g 19 7 + 1))) 32 2 0) 32 1 1) 32 7 p = G
    have f : ∀ a : Int, a ≠ 19 → a ≠ 32 → G a = g a := fun a q1 q2 => funext fun b => by rw [← hG, z_up_k q2, z_up_k q2, z_up_k q2, z_up_k q1]
    have g7 : G 19 7 = g 19 7 + 1 := by rw [← hG, z_up_k (by decide), z_up_k (by decide), z_up_k (by decide), z_up_s, ez]
    unfold y_XO y_XD
    have g8 : G 19 8 = g 19 8 := by rw [← hG, z_up_k (by decide), z_up_k (by decide), z_up_k (by decide), z_up_j (by decide)]
    rw [f 25 (by decide) (by decide), f 27 (by decide) (by decide), f 29 (by decide) (by decide), f 31 (by decide) (by decide), f 23 (by decide) (by decide), g7, g8]
    exact ⟨⟨hx.1, by rw [hx.2.1], hx.2.2.1, hx.2.2.2.1.up (by omega), hx.2.2.2.2⟩, y_CE2.new hx.2.2.2.1⟩
theorem t_pln (h : y_O g s) (cs : z_CI s) (hk : kd = y_ki c) (h0 : 0 ≤ kd) (hc : c = s 311 (s 309 4)) (m : y_MA s s' kd (-1)) (b0 : 0 ≤ s 329 1) (gs : y_GS s s') : (y_st g c).1 = 0 ∧ y_O (z_up (y_st g c).2 32 7 p) s' := by
  obtain ⟨h1, h2, h3, hx⟩ := h
  have w := CI_b cs (k := 329) (j := 0) bd_329_0
  have hn := h3.n
  have h8 : g 19 8 = s 329 2 := h3.2.1
  have m0 := m.1
  have m1 := m.2.1
  have m3 := m.2.2.2.1
  have kc := y_ki_cases c
  have e : y_st g c = (0, y_add g c (-1) 0 (if kd = 0 ∨ kd = 7 then s 329 2 else 0)) := by
    unfold y_st y_so
    unfold y_alo y_sml y_big at kc
    rw [if_pos h1]
    by_cases hb : y_big c
    · have : kd = 0 := by unfold y_big at hb; omega
      rw [if_neg (by unfold y_big at hb; omega), if_neg (by unfold y_big at hb; omega), if_neg (by unfold y_big at hb; omega), if_pos hb, y_as0 (by omega), if_pos (Or.inl this), h8]
    · have ha : y_alo c := by unfold y_alo y_sml; unfold y_big at hb; omega
      have n0 : ¬ (kd = 0 ∨ kd = 7) := by unfold y_big at hb; omega
      rw [if_neg (by unfold y_alo y_sml at ha; omega), if_neg (by unfold y_alo y_sml at ha; omega), if_neg (by unfold y_alo y_sml at ha; omega), if_neg hb, if_pos ha, y_as0 (by omega), if_neg n0]
  rw [e]
  have v := y_add_v (g := g) (code := c) (grp := -1) (hd := 0) (mk := if kd = 0 ∨ kd = 7 then s 329 2 else 0) ⟨by omega, by omega⟩
  refine ⟨rfl, ?_, ?_, ?_, ?_⟩
  · show z_up (y_add g c _ _ _) 32 7 p 32 1 = 0
    rw [y_7 (by decide), v.2.2.2.1]; exact h1
  · show z_up (y_add g c _ _ _) 32 7 p 19 7 ≤ z_up (y_add g c _ _ _) 32 7 p 19 6
    rw [y_7 (by decide), y_7 (by decide), v.1, v.2.1]; omega
  · refine y_TX.g (h3.add cs m (bb' := s' 329 1) (by omega) (by omega) hc rfl (Or.inr ⟨hk, by omega, rfl, rfl, rfl⟩)) (fun a b q => z_up_k q)
  · rw [y_gd_cg gs m1, m1]
    have w1 := CI_b cs (k := 329) (j := 1) bd_329_1
    have h7 := h3.2.2.1
    have e7 := hx.2.1
    have p8 := hx.2.2.2.2.1
    refine y_XO.g (hx.add cs hn m gs (by omega) (Or.inl (by omega)) (by omega) (by split <;> omega) ?_) (fun a b q => z_up_k q)
    have v2 := v.2.2.2.2.2.2
    rw [hn] at v2
    exact y_CT.pl hx.2.2.1 m0 v2.1 (fun i z => (v2.2.2 i z).2.2.1)
end ZT
