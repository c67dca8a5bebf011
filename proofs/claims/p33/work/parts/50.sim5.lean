/-! READING, 5: the other steps; the faults -/
section ZT
variable {g s s' : z_M} {c p n nb bs d kd gr : Int}
theorem y_st1 (h : g 32 1 = 1) : y_st g c = y_sd g c := by
  unfold y_st; rw [if_neg (by omega), if_pos h]
theorem y_st2 (h : g 32 1 = 2) : y_st g c = y_si g c := by
  unfold y_st; rw [if_neg (by omega), if_neg (by omega), if_pos h]
theorem y_st3 (h : g 32 1 = 3) : y_st g c = y_sr g c := by
  unfold y_st; rw [if_neg (by omega), if_neg (by omega), if_neg (by omega)]
theorem t_bas (h : y_BD g s nb gr) (cs : z_CI s) (hb : y_big c) (h4 : 0 ≤ nb ∧ nb < 4) (hc : c = s 311 (s 309 4)) (m : y_MA s s' 7 (s 329 1)) (b0 : 0 ≤ s 329 1) (b199 : s 329 1 ≤ 199) (gs : y_GS s s') : (y_st g c).1 = 0 ∧ y_IB (z_up (y_st g c).2 32 7 p) s' 1 (nb + 1) (s 329 1) gr := by
  obtain ⟨h1, h2, h3, h5, hx, hy⟩ := h
  have w := CI_b cs (k := 329) (j := 0) bd_329_0
  have hn := h5.n
  have h8 : g 19 8 = s 329 2 := h5.2.1
  obtain ⟨m0, m1, m2, m3, m4, m5, m6, m7, m8⟩ := id m
  have ez : z_w (g 32 2 + 1) = nb + 1 := by rw [h2]; exact z_wid (by unfold z_I; omega)
  have eg : z_w (g 19 7 - 1) = g 19 7 - 1 := z_wid (by unfold z_I; omega)
  generalize hG : z_up (z_up (z_up (z_up g 32 2 (z_w (g 32 2 + 1))) 32 3 1) 32 5 (g 19 6)) 32 1 2 = G
  have kG : ∀ a b : Int, a ≠ 32 → G a b = g a b := fun a b q => by
    rw [← hG, z_up_k q, z_up_k q, z_up_k q, z_up_k q]
  have e : y_st g c = (0, y_add G c (g 19 7 - 1) 1 (g 19 8)) := by
    rw [y_st1 h1]
    unfold y_sd
    rw [if_neg (by omega), if_pos hb, hG, eg, y_as0 (by rw [kG _ _ (by decide)]; omega)]
  have g1 : G 32 1 = 2 := by rw [← hG, z_up_s]
  have g2 : G 32 2 = nb + 1 := by rw [← hG, z_up_j (by decide), z_up_j (by decide), z_up_j (by decide), z_up_s, ez]
  have g3 : G 32 3 = 1 := by rw [← hG, z_up_j (by decide), z_up_j (by decide), z_up_s]
  have g5 : G 32 5 = g 19 6 := by rw [← hG, z_up_j (by decide), z_up_s]
  have g6 : G 19 6 = g 19 6 := kG _ _ (by decide)
  have g7 : G 19 7 = g 19 7 := kG _ _ (by decide)
  rw [e]
  have v := y_add_v (g := G) (code := c) (grp := g 19 7 - 1) (hd := 1) (mk := g 19 8) ⟨by omega, by omega⟩
  have hT := (y_TX.g h5 kG).add cs m (bb' := s 329 1 + 1) (by omega) (by omega) (code := c) (grp := g 19 7 - 1) (hd := 1) (mk := g 19 8) hc (by rw [if_pos (Or.inr rfl), h8]) (Or.inl ⟨rfl, by omega, hb, Or.inl ⟨rfl, (by
    by_cases q : s 329 0 = 0
    · exact Or.inl q
    · refine Or.inr (Or.inr ?_)
      have e4 : (361 + 13 : Int) = 374 := by decide
      have r := (h5.2.2.2 (s 329 0 - 1) (by omega) (by show s 329 0 - 1 < s (316 + 13) 0; rw [show (316 + 13 : Int) = 329 by decide]; omega)).1
      rw [e4] at r ⊢
      rw [(m8 _ (by omega)).2.2.1, m6]; omega), Int.le_refl _⟩⟩)
  have e7 := hx.2.1
  have v2 := v.2.2.2.2.2.2
  have r := y_add_r (g := G) (code := c) (grp := g 19 7 - 1) (hd := 1) (mk := g 19 8) ⟨by omega, by omega⟩
  have hG6 : G 19 6 = s 329 0 := by omega
  rw [hG6] at v2 r
  have e25 : G 25 = g 25 := funext fun b => kG _ _ (by decide)
  have cg : y_add G c (g 19 7 - 1) 1 (g 19 8) 25 (s 329 0) = gr + 1 - 1 := by rw [v2.1]; omega
  have co : ∀ i, i ≠ s 329 0 → y_add G c (g 19 7 - 1) 1 (g 19 8) 25 i = g 25 i := fun i z => by rw [(v2.2.2 i z).2.2.1, e25]
  have ct := y_CT.gr hx.2.2.1 hy m0 cg co
  have xo := y_XO.add (code := c) (grp := g 19 7 - 1) (hd := 1) (mk := g 19 8) (hx.g kG) cs hG6 m gs (by omega) (Or.inr (Int.le_refl _)) (by omega) hx.2.2.2.2.1 ct
  have bb : ∀ i : Int, 0 ≤ i → i < s 329 0 → s 374 i < s 329 1 := fun i x y => (h5.2.2.2 i x y).1
  have n5 : y_add G c (g 19 7 - 1) 1 (g 19 8) 32 5 = s 329 0 := by rw [v.2.2.2.1, g5]; exact hn
  refine ⟨rfl, ?_, ?_, ?_, ?_, ?_, ?_, ?_, ?_, ⟨b0, b199⟩, ?_, ?_, ?_, ?_⟩
  · show z_up (y_add G c _ _ _) 32 7 p 32 1 = 2
    rw [y_7 (by decide), v.2.2.2.1]; exact g1
  · show z_up (y_add G c _ _ _) 32 7 p 32 2 = nb + 1
    rw [y_7 (by decide), v.2.2.2.1]; exact g2
  · show z_up (y_add G c _ _ _) 32 7 p 32 3 = 1
    rw [y_7 (by decide), v.2.2.2.1]; exact g3
  · show 1 ≤ z_up (y_add G c _ _ _) 32 7 p 19 7 ∧ z_up (y_add G c _ _ _) 32 7 p 19 7 ≤ z_up (y_add G c _ _ _) 32 7 p 19 6
    rw [y_7 (by decide), y_7 (by decide), v.1, v.2.1]; omega
  · exact y_TX.g hT (fun a b q => z_up_k q)
  · omega
  · rw [m0, show s 329 0 + 1 - 1 = s 329 0 by omega]; exact m5
  · rw [m0, show s 329 0 + 1 - 1 = s 329 0 by omega]; exact m6
  · exact y_XO.g xo (fun a b q => z_up_k q)
  · show y_CE2 (z_up (y_add G c (g 19 7 - 1) 1 (g 19 8)) 32 7 p 25) _ _
    rw [show z_up (y_add G c (g 19 7 - 1) 1 (g 19 8)) 32 7 p 25 = y_add G c (g 19 7 - 1) 1 (g 19 8) 25 from funext fun b => z_up_k (by decide)]
    exact y_CE2.gr hy m0 cg co
  · show y_XC (z_up (y_add G c (g 19 7 - 1) 1 (g 19 8)) 32 7 p) s' _ _
    unfold y_XC
    rw [y_7 (by decide), n5]
    refine ⟨⟨by omega, by omega, m6⟩, fun i x y z w => ?_⟩
    rw [z_up_k (by decide), z_up_k (by decide)]
    by_cases q : i = s 329 0
    · subst q; exact ⟨by rw [cg]; omega, fun _ => rfl⟩
    · exfalso
      rw [(m8 i (by omega)).2.2.1] at w
      have := bb i x (by omega)
      omega
  · intro i x y z w _
    show z_up (y_add G c (g 19 7 - 1) 1 (g 19 8)) 32 7 p 29 i = 0 ∧ z_up (y_add G c (g 19 7 - 1) 1 (g 19 8)) 32 7 p 31 i = 0
    rw [z_up_k (by decide), z_up_k (by decide)]
    by_cases q : i = s 329 0
    · subst q; exact r.1
    · exfalso
      rw [(m8 i (by omega)).2.2.1] at w
      have := bb i x (by omega)
      omega
theorem t_inb (h : y_IB g s n nb bs gr) (cs : z_CI s) (hb : y_big c) (h4 : 0 ≤ n ∧ n < 3) (hc : c = s 311 (s 309 4)) (m : y_MA s s' 7 bs) (gs : y_GS s s') : (y_st g c).1 = 0 ∧ y_IB (z_up (y_st g c).2 32 7 p) s' (n + 1) nb bs gr := by
  obtain ⟨h1, h2, h3, h6, h5, l1, l2, l3, b199, hx, hy, xc, x0⟩ := h
  have w := CI_b cs (k := 329) (j := 0) bd_329_0
  have hn := h5.n
  have h8 : g 19 8 = s 329 2 := h5.2.1
  obtain ⟨m0, m1, m2, m3, m4, m5, m6, m7, m8⟩ := id m
  have ez : z_w (g 32 3 + 1) = n + 1 := by rw [h3]; exact z_wid (by unfold z_I; omega)
  have eg : z_w (g 19 7 - 1) = g 19 7 - 1 := z_wid (by unfold z_I; omega)
  generalize hG : z_up g 32 3 (z_w (g 32 3 + 1)) = G
  have kG : ∀ a b : Int, a ≠ 32 → G a b = g a b := fun a b q => by
    rw [← hG, z_up_k q]
  unfold y_big at hb
  have e : y_st g c = (0, y_add G c (g 19 7 - 1) 0 (g 19 8)) := by
    rw [y_st2 h1]
    unfold y_si
    rw [if_neg (by omega), if_neg (by omega), if_pos hb, hG, eg, y_as0 (by rw [kG _ _ (by decide)]; omega)]
  have g1 : G 32 1 = 2 := by rw [← hG, z_up_j (by decide)]; exact h1
  have g2 : G 32 2 = nb := by rw [← hG, z_up_j (by decide)]; exact h2
  have g3 : G 32 3 = n + 1 := by rw [← hG, z_up_s, ez]
  have g6 : G 19 6 = g 19 6 := kG _ _ (by decide)
  have g7 : G 19 7 = g 19 7 := kG _ _ (by decide)
  rw [e]
  have v := y_add_v (g := G) (code := c) (grp := g 19 7 - 1) (hd := 0) (mk := g 19 8) ⟨by omega, by omega⟩
  have hT := (y_TX.g h5 kG).add cs m (bb' := bs + 1) (by omega) (by omega) (code := c) (grp := g 19 7 - 1) (hd := 0) (mk := g 19 8) hc (by rw [if_pos (Or.inr rfl), h8]) (Or.inl ⟨rfl, by omega, hb, Or.inr ⟨rfl, by
    have e4 : (361 + 13 : Int) = 374 := by decide
    have e3 : (346 + 13 : Int) = 359 := by decide
    intro q
    unfold y_bs at q
    rw [e4, e3, (m8 _ (by omega)).2.2.1, (m8 _ (by omega)).2.1, m6] at q
    rcases q with q | q | q
    · omega
    · exact q l2
    · exact q l3⟩⟩)
  have e7 := hx.2.1
  have v2 := v.2.2.2.2.2.2
  have r := y_add_r (g := G) (code := c) (grp := g 19 7 - 1) (hd := 0) (mk := g 19 8) ⟨by omega, by omega⟩
  have hG6 : G 19 6 = s 329 0 := by omega
  rw [hG6] at v2 r
  have g5 : G 32 5 = g 32 5 := by rw [← hG, z_up_j (by decide)]
  have e25 : G 25 = g 25 := funext fun b => kG _ _ (by decide)
  have cg : y_add G c (g 19 7 - 1) 0 (g 19 8) 25 (s 329 0) = gr + 1 - 1 := by rw [v2.1]; omega
  have co : ∀ i, i ≠ s 329 0 → y_add G c (g 19 7 - 1) 0 (g 19 8) 25 i = g 25 i := fun i z => by rw [(v2.2.2 i z).2.2.1, e25]
  have ct := y_CT.gr hx.2.2.1 hy m0 cg co
  have xo := y_XO.add (code := c) (grp := g 19 7 - 1) (hd := 0) (mk := g 19 8) (hx.g kG) cs hG6 m gs (by omega) (Or.inr (Int.le_refl _)) (by omega) hx.2.2.2.2.1 ct
  have n5 : y_add G c (g 19 7 - 1) 0 (g 19 8) 32 5 = g 32 5 := by rw [v.2.2.2.1, g5]
  refine ⟨rfl, ?_, ?_, ?_, ?_, ?_, ?_, ?_, ?_, b199, ?_, ?_, ?_, ?_⟩
  · show z_up (y_add G c _ _ _) 32 7 p 32 1 = 2
    rw [y_7 (by decide), v.2.2.2.1]; exact g1
  · show z_up (y_add G c _ _ _) 32 7 p 32 2 = nb
    rw [y_7 (by decide), v.2.2.2.1]; exact g2
  · show z_up (y_add G c _ _ _) 32 7 p 32 3 = n + 1
    rw [y_7 (by decide), v.2.2.2.1]; exact g3
  · show 1 ≤ z_up (y_add G c _ _ _) 32 7 p 19 7 ∧ z_up (y_add G c _ _ _) 32 7 p 19 7 ≤ z_up (y_add G c _ _ _) 32 7 p 19 6
    rw [y_7 (by decide), y_7 (by decide), v.1, v.2.1]; omega
  · exact y_TX.g hT (fun a b q => z_up_k q)
  · omega
  · rw [m0, show s 329 0 + 1 - 1 = s 329 0 by omega]; exact m5
  · rw [m0, show s 329 0 + 1 - 1 = s 329 0 by omega]; exact m6
  · exact y_XO.g xo (fun a b q => z_up_k q)
  · show y_CE2 (z_up (y_add G c (g 19 7 - 1) 0 (g 19 8)) 32 7 p 25) _ _
    rw [show z_up (y_add G c (g 19 7 - 1) 0 (g 19 8)) 32 7 p 25 = y_add G c (g 19 7 - 1) 0 (g 19 8) 25 from funext fun b => z_up_k (by decide)]
    exact y_CE2.gr hy m0 cg co
  · show y_XC (z_up (y_add G c (g 19 7 - 1) 0 (g 19 8)) 32 7 p) s' _ _
    unfold y_XC
    rw [y_7 (by decide), n5]
    refine ⟨⟨xc.1.1, by have := xc.1.2.1; omega, ?_⟩, fun i x y z w => ?_⟩
    · rw [(m8 _ xc.1.2.1).2.2.1]; exact xc.1.2.2
    · rw [z_up_k (by decide), z_up_k (by decide)]
      by_cases q : i = s 329 0
      · subst q
        refine ⟨by rw [cg]; omega, fun q => ?_⟩
        rw [v2.2.1] at q; exact absurd q (by decide)
      · obtain ⟨y1, y2, y3, y4⟩ := m8 i (by omega)
        rw [y2] at z
        rw [y3] at w
        rw [co i q, (v2.2.2 i q).2.2.2, kG 27 i (by decide)]
        exact xc.2 i x (by omega) z w
  · intro i x y z w u
    have u : z_up (y_add G c (g 19 7 - 1) 0 (g 19 8)) 32 7 p 27 i = 1 := u
    show z_up (y_add G c (g 19 7 - 1) 0 (g 19 8)) 32 7 p 29 i = 0 ∧ z_up (y_add G c (g 19 7 - 1) 0 (g 19 8)) 32 7 p 31 i = 0
    rw [z_up_k (by decide)] at u
    rw [z_up_k (by decide), z_up_k (by decide)]
    by_cases q : i = s 329 0
    · subst q; exact r.1
    · obtain ⟨y1, y2, y3, y4⟩ := m8 i (by omega)
      rw [y2] at z
      rw [y3] at w
      rw [(v2.2.2 i q).2.2.2, kG 27 i (by decide)] at u
      rw [(r.2 i q).1, (r.2 i q).2, kG 29 i (by decide), kG 31 i (by decide)]
      exact x0 i x (by omega) z w u
/-- the base's group is told, its letters on the left are none -/
def y_GJ (s s' : z_M) (B gr : Int) : Prop := s' 404 B = gr ∧ s' (3020 + B) 10 = 0 ∧ ∀ b : Int, 0 ≤ b → b < B → s' 404 b = s 404 b ∧ s' (3020 + b) 0 = s (3020 + b) 0 ∧ s' (3020 + b) 10 = s (3020 + b) 10
theorem t_jb (h : y_IB g s n nb bs gr) (k : y_SD s s') (e : s' 329 1 = bs + 1) (q : y_GJ s s' bs gr) : y_JB g s' nb gr := by
  obtain ⟨h1, h2, h3, h6, h5, l1, l2, l3, b199, hx, hy, xc, x0⟩ := h
  have e1 : s' 329 1 - 1 = bs := by omega
  unfold y_JB
  rw [e1]
  refine ⟨h1, h2, h6, by rw [e]; exact h5.s k, by omega, hx.s (Int.le_refl _) k.1 k.2.2.2.1 k.2.2.2.2.1 q.2.2, by rw [k.1]; exact hy, xc.s k.1 k.2.2.2.1 k.2.2.2.2.1, x0.s k.1 k.2.2.2.1 k.2.2.2.2.1, q.1, q.2.1⟩
theorem t_bar (h : y_JB g s nb gr) (hc : c = 124) (k : y_SD s s') (e1 : s' 329 1 = s 329 1) (q : y_GV s s' (s 329 1 - 1) 0 0) : (y_st g c).1 = 0 ∧ y_IR (z_up (y_st g c).2 32 7 p) s' 0 0 nb gr := by
  obtain ⟨h1, h2, h3, h5, hb, hx, hy, xc, x0, e4, e10⟩ := h
  have e : y_st g c = (0, z_up (z_up (z_up g 32 6 0) 32 4 0) 32 1 3) := by
    rw [y_st2 h1]; exact if_pos hc
  rw [e]
  have kk : ∀ a b : Int, a ≠ 32 → z_up (z_up (z_up (z_up g 32 6 0) 32 4 0) 32 1 3) 32 7 p a b = g a b := fun a b z => by
    rw [z_up_k z, z_up_k z, z_up_k z, z_up_k z]
  refine ⟨rfl, ?_, ?_, ?_, ?_, ?_, ?_, by omega, ?_, ?_, ?_, ?_, ?_⟩
  · show z_up (z_up (z_up (z_up g 32 6 0) 32 4 0) 32 1 3) 32 7 p 32 1 = 3
    rw [y_7 (by decide), z_up_s]
  · show z_up (z_up (z_up (z_up g 32 6 0) 32 4 0) 32 1 3) 32 7 p 32 2 = nb
    rw [y_7 (by decide), z_up_j (by decide), z_up_j (by decide), z_up_j (by decide)]; exact h2
  · show z_up (z_up (z_up (z_up g 32 6 0) 32 4 0) 32 1 3) 32 7 p 32 4 = 0
    rw [y_7 (by decide), z_up_j (by decide), z_up_s]
  · show z_up (z_up (z_up (z_up g 32 6 0) 32 4 0) 32 1 3) 32 7 p 32 6 = 0
    rw [y_7 (by decide), z_up_j (by decide), z_up_j (by decide), z_up_s]
  · show 1 ≤ z_up (z_up (z_up (z_up g 32 6 0) 32 4 0) 32 1 3) 32 7 p 19 7 ∧ z_up (z_up (z_up (z_up g 32 6 0) 32 4 0) 32 1 3) 32 7 p 19 7 ≤ z_up (z_up (z_up (z_up g 32 6 0) 32 4 0) 32 1 3) 32 7 p 19 6
    rw [kk _ _ (by decide), kk _ _ (by decide)]; exact h3
  · rw [e1]; exact (y_TX.g h5 kk).s k
  · rw [e1]; exact ((hx.g kk).gv (by omega) k.1 k.2.2.2.1 k.2.2.2.2.1 q)
  · show y_CE2 (z_up (z_up (z_up (z_up g 32 6 0) 32 4 0) 32 1 3) 32 7 p 25) _ _
    rw [show z_up (z_up (z_up (z_up g 32 6 0) 32 4 0) 32 1 3) 32 7 p 25 = g 25 from funext fun b => kk _ b (by decide), k.1]
    exact hy
  · rw [e1]
    refine (xc.s k.1 k.2.2.2.1 k.2.2.2.2.1).g (fun a b z _ _ => kk a b z) ?_
    show z_up (z_up (z_up (z_up g 32 6 0) 32 4 0) 32 1 3) 32 7 p 32 5 = _
    rw [y_7 (by decide), z_up_j (by decide), z_up_j (by decide), z_up_j (by decide)]
  · rw [e1, q.1]; exact e4
  · rw [e1]
    have z10 : s' (3020 + (s 329 1 - 1)) 10 = 0 := by rw [q.2.2 _ _ (by omega) (by omega) (Or.inr (by decide)) (Or.inr rfl)]; exact e10
    have z0 : s' (3020 + (s 329 1 - 1)) 0 = 0 := q.2.1
    refine ⟨fun i x y z w u => ?_, fun _ => ⟨z10, z0.symm⟩, fun z => absurd z (by decide), Or.inl rfl⟩
    have u : z_up (z_up (z_up (z_up g 32 6 0) 32 4 0) 32 1 3) 32 7 p 27 i = 1 := u
    show z_up (z_up (z_up (z_up g 32 6 0) 32 4 0) 32 1 3) 32 7 p 29 i % 16 = _ ∧ z_up (z_up (z_up (z_up g 32 6 0) 32 4 0) 32 1 3) 32 7 p 31 i % 16 = _
    rw [kk _ _ (by decide)] at u
    rw [kk _ _ (by decide), kk _ _ (by decide), z10, z0]
    have w2 := (x0.s (s' := s') k.1 k.2.2.2.1 k.2.2.2.2.1) i x y z w u
    rw [w2.1, w2.2]
    exact ⟨rfl, rfl⟩
theorem y_al_v {d0 i0 a b : Int} (h : a ≠ 29 ∧ a ≠ 31) : y_al g d0 i0 c a b = g a b := by
  unfold y_al y_rdo
  by_cases q : d0 = 0
  · rw [if_pos q]; exact y_rp_o gr28 h.1
  · rw [if_neg q]; exact y_rp_o gr30 h.2
theorem y_TX.k {g' : z_M} {bb : Int} (h : y_TX g 19 s 13 bb) (k : ∀ a b : Int, a ≠ 32 → a ≠ 29 → a ≠ 31 → g' a b = g a b) : y_TX g' 19 s 13 bb := by
  obtain ⟨a1, a2, a3, a4⟩ := h
  refine ⟨by rw [k _ _ (by decide) (by decide) (by decide)]; exact a1, by rw [k _ _ (by decide) (by decide) (by decide)]; exact a2, by rw [k _ _ (by decide) (by decide) (by decide)]; exact a3, fun i p q => ?_⟩
  rw [k _ _ (by decide) (by decide) (by decide), k _ _ (by decide) (by decide) (by decide), k _ _ (by decide) (by decide) (by decide), k _ _ (by decide) (by decide) (by decide)]
  exact a4 i p q
/-- a step that writes the reader's fields alone, or letters -/
theorem t_ir (h : y_IR g s d n nb gr) {G : z_M} {d' n' v : Int} (sd : y_SD s s') (e1 : s' 329 1 = s 329 1) (q : y_GV s s' (s 329 1 - 1) d' v) (k : ∀ a b : Int, a ≠ 32 → a ≠ 29 → a ≠ 31 → G a b = g a b) (kl : ∀ b : Int, b ≠ g 32 5 → G 29 b = g 29 b ∧ G 31 b = g 31 b) (k1 : G 32 1 = 3) (k2 : G 32 2 = nb) (k4 : G 32 4 = n') (k5 : G 32 5 = g 32 5) (k6 : G 32 6 = d') (xq : y_XQ G s' (s 329 1 - 1) d' n') : y_IR (z_up G 32 7 p) s' d' n' nb gr := by
  obtain ⟨h1, h2, h3, h4, h6, h5, hb, hx, hy, xc, e4, _⟩ := h
  refine ⟨by rw [y_7 (by decide)]; exact k1, by rw [y_7 (by decide)]; exact k2, by rw [y_7 (by decide)]; exact k4, by rw [y_7 (by decide)]; exact k6, ?_, ?_, by omega, ?_, ?_, ?_, ?_, ?_⟩
  · rw [y_7 (by decide), y_7 (by decide), k _ _ (by decide) (by decide) (by decide), k _ _ (by decide) (by decide) (by decide)]; exact h6
  · rw [e1]; exact (y_TX.k h5 (fun a b q1 q2 q3 => by rw [z_up_k q1]; exact k a b q1 q2 q3)).s sd
  · rw [e1]
    refine y_XO.gv (g := z_up G 32 7 p) (y_XO.g (y_XO.al hx xc.1 k kl) (fun a b z => z_up_k z)) (by omega) sd.1 sd.2.2.2.1 sd.2.2.2.2.1 q
  · rw [show z_up G 32 7 p 25 = g 25 from funext fun b => by rw [z_up_k (by decide)]; exact k _ _ (by decide) (by decide) (by decide), sd.1]
    exact hy
  · rw [e1]
    refine (xc.s sd.1 sd.2.2.2.1 sd.2.2.2.2.1).g (fun a b z1 z2 z3 => by rw [z_up_k z1]; exact k a b z1 z2 z3) ?_
    rw [y_7 (by decide)]; exact k5
  · rw [e1, q.1]; exact e4
  · rw [e1]
    refine ⟨fun i x y z w u => ?_, xq.2⟩
    rw [z_up_k (by decide)] at u
    rw [z_up_k (by decide), z_up_k (by decide)]
    exact xq.1 i x y z w u
theorem t_let (h : y_IR g s d n nb gr) (cs : z_CI s) (hs : y_sml c) (hn : 0 ≤ n ∧ n < 9) (sd : y_SD s s') (e1 : s' 329 1 = s 329 1) (q : y_GV s s' (s 329 1 - 1) d (n + 1)) : (y_st g c).1 = 0 ∧ y_IR (z_up (y_st g c).2 32 7 p) s' d (n + 1) nb gr := by
  have h0 := h
  obtain ⟨h1, h2, h3, h4, h6, h5, hb, hx, hy, xc, e4, xq⟩ := h
  have w0 := CI_b cs (k := 329) (j := 0) bd_329_0
  have ez : z_w (g 32 4 + 1) = n + 1 := by rw [h3]; exact z_wid (by unfold z_I; omega)
  have e : y_st g c = (0, y_al (z_up g 32 4 (z_w (g 32 4 + 1))) (g 32 6) (g 32 5) c) := by
    rw [y_st3 h1]; exact if_pos ⟨hs, by omega⟩
  rw [e]
  have l4 : z_ln 28 = 200 := by decide +kernel
  have l5 : z_ln 30 = 200 := by decide +kernel
  have b5 : 0 ≤ g 32 5 ∧ g 32 5 < 200 := by have := xc.1; omega
  generalize hG : y_al (z_up g 32 4 (z_w (g 32 4 + 1))) (g 32 6) (g 32 5) c = G
  show (0 : Int) = 0 ∧ y_IR (z_up G 32 7 p) s' d (n + 1) nb gr
  have kG : ∀ a b : Int, a ≠ 29 → a ≠ 31 → G a b = z_up g 32 4 (z_w (g 32 4 + 1)) a b := fun a b q2 q3 => by rw [← hG, y_al_v ⟨q2, q3⟩]
  have k : ∀ a b : Int, a ≠ 32 → a ≠ 29 → a ≠ 31 → G a b = g a b := fun a b q1 q2 q3 => by rw [kG a b q2 q3, z_up_k q1]
  -- the rows of letters
  have rows : (d = 0 → (∀ b, G 31 b = g 31 b) ∧ (∀ b, b ≠ g 32 5 → G 29 b = g 29 b) ∧ G 29 (g 32 5) = y_lt6 (g 29 (g 32 5)) c) ∧ (d = 1 → (∀ b, G 29 b = g 29 b) ∧ (∀ b, b ≠ g 32 5 → G 31 b = g 31 b) ∧ G 31 (g 32 5) = y_lt6 (g 31 (g 32 5)) c) := by
    refine ⟨fun hd => ?_, fun hd => ?_⟩
    · have er : y_rdo (g 32 6) = 28 := if_pos (by omega)
      have eg : G = z_up (z_up g 32 4 (z_w (g 32 4 + 1))) 29 (g 32 5) (y_lt6 (g 29 (g 32 5)) c) := by
        rw [← hG]
        unfold y_al
        rw [er, z_rg_in (k := 28) ⟨b5.1, by rw [l4]; omega⟩, z_rp_in (k := 28) ⟨b5.1, by rw [l4]; omega⟩, gr28, z_up_k (by decide)]
      rw [eg]
      refine ⟨fun b => ?_, fun b z => ?_, z_up_s⟩
      · rw [z_up_k (by decide), z_up_k (by decide)]
      · rw [z_up_j z, z_up_k (by decide)]
    · have er : y_rdo (g 32 6) = 30 := if_neg (by omega)
      have eg : G = z_up (z_up g 32 4 (z_w (g 32 4 + 1))) 31 (g 32 5) (y_lt6 (g 31 (g 32 5)) c) := by
        rw [← hG]
        unfold y_al
        rw [er, z_rg_in (k := 30) ⟨b5.1, by rw [l5]; omega⟩, z_rp_in (k := 30) ⟨b5.1, by rw [l5]; omega⟩, gr30, z_up_k (by decide)]
      rw [eg]
      refine ⟨fun b => ?_, fun b z => ?_, z_up_s⟩
      · rw [z_up_k (by decide), z_up_k (by decide)]
      · rw [z_up_j z, z_up_k (by decide)]
  have dd := xq.2.2.2
  have s5 : G 32 5 = g 32 5 := by rw [kG _ _ (by decide) (by decide), z_up_j (by decide)]
  have o0 : d = 0 → s' (3020 + (s 329 1 - 1)) 10 = s (3020 + (s 329 1 - 1)) 10 := fun z => q.2.2 _ _ (by omega) (by omega) (Or.inr (by rw [z]; decide)) (Or.inr rfl)
  have o1 : d = 1 → s' (3020 + (s 329 1 - 1)) 0 = s (3020 + (s 329 1 - 1)) 0 := fun z => q.2.2 _ _ (by omega) (by omega) (Or.inr (by rw [z]; decide)) (Or.inl rfl)
  have v0 : d = 0 → s' (3020 + (s 329 1 - 1)) 0 = n + 1 := fun z => by have := q.2.1; rw [z] at this; exact this
  have v1 : d = 1 → s' (3020 + (s 329 1 - 1)) 10 = n + 1 := fun z => by have := q.2.1; rw [z] at this; exact this
  refine ⟨rfl, t_ir h0 sd e1 q k (fun b z => ?_) ?_ ?_ ?_ s5 ?_ ⟨fun i x y z w u => ?_, fun z => ?_, fun z => ?_, dd⟩⟩
  · rcases dd with z2 | z2
    · exact ⟨(rows.1 z2).2.1 b z, (rows.1 z2).1 b⟩
    · exact ⟨(rows.2 z2).1 b, (rows.2 z2).2.1 b z⟩
  · rw [kG _ _ (by decide) (by decide), z_up_j (by decide)]; exact h1
  · rw [kG _ _ (by decide) (by decide), z_up_j (by decide)]; exact h2
  · rw [kG _ _ (by decide) (by decide), z_up_s, ez]
  · rw [kG _ _ (by decide) (by decide), z_up_j (by decide)]; exact h4
  · rw [sd.1] at y
    rw [sd.2.2.2.1] at z
    rw [sd.2.2.2.2.1] at w
    rw [k 27 i (by decide) (by decide) (by decide)] at u
    have i5 := (xc.2 i x y z w).2 u
    have o := xq.1 i x y z w u
    rcases dd with z2 | z2
    · have n0 := (xq.2.1 z2).2
      rw [(rows.1 z2).1, o0 z2, v0 z2, i5, (rows.1 z2).2.2]
      rw [i5] at o
      refine ⟨?_, o.2⟩
      rw [y_lt6_m hs (by omega)]; omega
    · have n0 := (xq.2.2.1 z2).2
      rw [(rows.2 z2).1, o1 z2, v1 z2, i5, (rows.2 z2).2.2]
      rw [i5] at o
      refine ⟨o.1, ?_⟩
      rw [y_lt6_m hs (by omega)]; omega
  · exact ⟨by rw [o0 z]; exact (xq.2.1 z).1, (v0 z).symm⟩
  · exact ⟨by rw [o1 z]; exact (xq.2.2.1 z).1, (v1 z).symm⟩
theorem t_br2 (h : y_IR g s 0 n nb gr) (hn : 1 ≤ n) (hc : c = 124) (sd : y_SD s s') (e1 : s' 329 1 = s 329 1) (q : y_GV s s' (s 329 1 - 1) 1 0) : (y_st g c).1 = 0 ∧ y_IR (z_up (y_st g c).2 32 7 p) s' 1 0 nb gr := by
  have h0 := h
  obtain ⟨h1, h2, h3, h4, h6, h5, hb, hx, hy, xc, e4, xq⟩ := h
  have e : y_st g c = (0, z_up (z_up g 32 6 1) 32 4 0) := by
    rw [y_st3 h1]
    unfold y_sr y_sml
    rw [if_neg (by omega), if_neg (by omega), if_pos ⟨hc, h4⟩]
  rw [e]
  have kk : ∀ a b : Int, a ≠ 32 → z_up (z_up g 32 6 1) 32 4 0 a b = g a b := fun a b z => by rw [z_up_k z, z_up_k z]
  have o : s' (3020 + (s 329 1 - 1)) 0 = s (3020 + (s 329 1 - 1)) 0 := q.2.2 _ _ (by omega) (by omega) (Or.inr (by decide)) (Or.inl rfl)
  have v : s' (3020 + (s 329 1 - 1)) 10 = 0 := q.2.1
  have x00 := xq.2.1 rfl
  refine ⟨rfl, t_ir h0 sd e1 q (fun a b q1 q2 q3 => kk a b q1) (fun b _ => ⟨kk 29 b (by decide), kk 31 b (by decide)⟩) ?_ ?_ ?_ ?_ ?_ ⟨fun i x y z w u => ?_, fun z => absurd z (by decide), fun _ => ⟨by omega, v.symm⟩, Or.inr rfl⟩⟩
  · show z_up (z_up g 32 6 1) 32 4 0 32 1 = _
    rw [z_up_j (by decide), z_up_j (by decide)]; exact h1
  · show z_up (z_up g 32 6 1) 32 4 0 32 2 = _
    rw [z_up_j (by decide), z_up_j (by decide)]; exact h2
  · show z_up (z_up g 32 6 1) 32 4 0 32 4 = _
    rw [z_up_s]
  · show z_up (z_up g 32 6 1) 32 4 0 32 5 = _
    rw [z_up_j (by decide), z_up_j (by decide)]
  · show z_up (z_up g 32 6 1) 32 4 0 32 6 = _
    rw [z_up_j (by decide), z_up_s]
  · have u : z_up (z_up g 32 6 1) 32 4 0 27 i = 1 := u
    show z_up (z_up g 32 6 1) 32 4 0 29 i % 16 = _ ∧ z_up (z_up g 32 6 1) 32 4 0 31 i % 16 = _
    rw [sd.1] at y
    rw [sd.2.2.2.1] at z
    rw [sd.2.2.2.2.1] at w
    rw [kk _ _ (by decide)] at u
    rw [kk _ _ (by decide), kk _ _ (by decide), o, v]
    have o2 := xq.1 i x y z w u
    exact ⟨o2.1, by rw [o2.2]; exact x00.1⟩
theorem t_sem (h : y_IR g s d n nb gr) (hn : n ≠ 0) (hc : c = 59) : (y_st g c).1 = 0 ∧ y_BD (z_up (y_st g c).2 32 7 p) s nb gr := by
  obtain ⟨h1, h2, h3, h4, h6, h5, hb, hx, hy, xc, e4, xq⟩ := h
  have e : y_st g c = (0, z_up g 32 1 1) := by
    rw [y_st3 h1]
    unfold y_sr y_sml
    rw [if_neg (by omega), if_neg (by omega), if_neg (by omega), if_pos hc]
  rw [e]
  have kk : ∀ a b : Int, a ≠ 32 → z_up (z_up g 32 1 1) 32 7 p a b = g a b := fun a b z => by rw [z_up_k z, z_up_k z]
  refine ⟨rfl, ?_, ?_, ?_, ?_, ?_, ?_⟩
  · show z_up (z_up g 32 1 1) 32 7 p 32 1 = 1
    rw [y_7 (by decide), z_up_s]
  · show z_up (z_up g 32 1 1) 32 7 p 32 2 = nb
    rw [y_7 (by decide), z_up_j (by decide)]; exact h2
  · show 1 ≤ z_up (z_up g 32 1 1) 32 7 p 19 7 ∧ z_up (z_up g 32 1 1) 32 7 p 19 7 ≤ z_up (z_up g 32 1 1) 32 7 p 19 6 + 1
    rw [z_up_k (by decide), z_up_k (by decide), z_up_k (by decide), z_up_k (by decide)]; omega
  · exact y_TX.g h5 kk
  · exact (hx.done xc e4 xq hn (by omega) (by omega)).g kk
  · show y_CE2 (z_up (z_up g 32 1 1) 32 7 p 25) _ _
    rw [show z_up (z_up g 32 1 1) 32 7 p 25 = g 25 from funext fun b => kk _ b (by decide)]
    exact hy
theorem t_cls (h : y_IR g s d n nb gr) (hn : n ≠ 0) (hc : c = 125) : (y_st g c).1 = 0 ∧ y_O (z_up (y_st g c).2 32 7 p) s := by
  obtain ⟨h1, h2, h3, h4, h6, h5, hb, hx, hy, xc, e4, xq⟩ := h
  have e : y_st g c = (0, z_up g 32 1 0) := by
    rw [y_st3 h1]
    unfold y_sr y_sml
    rw [if_neg (by omega), if_neg (by omega), if_neg (by omega), if_neg (by omega), if_pos hc]
  rw [e]
  have kk : ∀ a b : Int, a ≠ 32 → z_up (z_up g 32 1 0) 32 7 p a b = g a b := fun a b z => by rw [z_up_k z, z_up_k z]
  refine ⟨rfl, ?_, ?_, ?_, ?_⟩
  · show z_up (z_up g 32 1 0) 32 7 p 32 1 = 0
    rw [y_7 (by decide), z_up_s]
  · show z_up (z_up g 32 1 0) 32 7 p 19 7 ≤ z_up (z_up g 32 1 0) 32 7 p 19 6
    rw [z_up_k (by decide), z_up_k (by decide), z_up_k (by decide), z_up_k (by decide)]; exact h6.2
  · exact y_TX.g h5 kk
  · have gd : y_gd s = gr + 1 := by unfold y_gd; rw [if_neg (by omega), e4]
    rw [gd]
    exact (hx.done xc e4 xq hn (by omega) (by omega)).g kk
/-- the faults -/
theorem f_O1 (h : y_O g s) (hk : y_ki c = -1) (hc : c ≠ 42 ∧ c ≠ 95 ∧ c ≠ 123) : (y_st g c).1 = 1 := by
  have kc := y_ki_cases c
  unfold y_st y_so
  rw [if_pos h.1, if_neg hc.1, if_neg hc.2.1, if_neg hc.2.2, if_neg (by omega), if_neg (by omega)]
theorem f_O2 (h : y_O g s) (hk : 0 ≤ y_ki c) (hn : s 329 0 = 200) : (y_st g c).1 = 2 := by
  have kc := y_ki_cases c
  have h6 := h.2.2.1.n
  unfold y_st y_so
  unfold y_big y_alo y_sml at *
  rw [if_pos h.1, if_neg (by omega), if_neg (by omega), if_neg (by omega)]
  by_cases hb : 65 ≤ c ∧ c ≤ 90
  · rw [if_pos hb, y_as2 (by omega)]
  · rw [if_neg hb, if_pos (by omega), y_as2 (by omega)]
theorem f_D1 (h : y_BD g s nb gr) (hc : nb = 4 ∨ ¬ y_big c) : (y_st g c).1 = 1 := by
  rw [y_st1 h.1]
  unfold y_sd
  have h2 := h.2.1
  by_cases q : g 32 2 = 4
  · rw [if_pos q]
  · rw [if_neg q, if_neg (hc.resolve_left (by omega))]
theorem f_D2 (h : y_BD g s nb gr) (h4 : nb ≠ 4) (hb : y_big c) (hn : s 329 0 = 200) : (y_st g c).1 = 2 := by
  rw [y_st1 h.1]
  unfold y_sd
  have h2 := h.2.1
  have h6 := h.2.2.2.1.n
  rw [if_neg (by omega), if_pos hb, y_as2 (by rw [z_up_k (by decide), z_up_k (by decide), z_up_k (by decide), z_up_k (by decide)]; omega)]
theorem f_I1 (h : y_IB g s n nb bs gr) (h0 : c ≠ 124) (hc : n = 3 ∨ ¬ y_big c) : (y_st g c).1 = 1 := by
  rw [y_st2 h.1]
  unfold y_si
  have h3 := h.2.2.1
  rw [if_neg h0]
  by_cases q : g 32 3 = 3
  · rw [if_pos q]
  · rw [if_neg q, if_neg (hc.resolve_left (by omega))]
theorem f_I2 (h : y_IB g s n nb bs gr) (h3 : n ≠ 3) (hb : y_big c) (hn : s 329 0 = 200) : (y_st g c).1 = 2 := by
  rw [y_st2 h.1]
  unfold y_si
  have h2 := h.2.2.1
  have h6 := h.2.2.2.2.1.n
  unfold y_big at hb
  rw [if_neg (by omega), if_neg (by omega), if_pos hb, y_as2 (by rw [z_up_k (by decide)]; omega)]
theorem f_R9 (h : y_IR g s d n nb gr) (hs : y_sml c) (hn : n = 9) : (y_st g c).1 = 1 := by
  rw [y_st3 h.1]
  unfold y_sr
  have h3 := h.2.2.1
  rw [if_neg (by omega), if_pos (Or.inr hs)]
theorem f_R0 (h : y_IR g s d n nb gr) (hs : ¬ y_sml c) (hn : n = 0) : (y_st g c).1 = 1 := by
  rw [y_st3 h.1]
  unfold y_sr
  have h3 := h.2.2.1
  rw [if_neg (fun q => hs q.1), if_pos (Or.inl (by omega))]
theorem f_R1 (h : y_IR g s d n nb gr) (hs : ¬ y_sml c) (hn : n ≠ 0) (h1 : ¬ (c = 124 ∧ d = 0)) (h2 : c ≠ 59) (h5 : c ≠ 125) : (y_st g c).1 = 1 := by
  rw [y_st3 h.1]
  unfold y_sr
  have h3 := h.2.2.1
  have h4 := h.2.2.2.1
  rw [if_neg (fun q => hs q.1), if_neg (fun q => q.elim (by omega) hs), if_neg (by omega), if_neg h2, if_neg h5]
end ZT
