/-! READING, 5: the other steps; the faults -/
section ZT
variable {g s s' : z_M} {c p n nb bs d kd : Int}
theorem y_st1 (h : g 32 1 = 1) : y_st g c = y_sd g c := by
  unfold y_st; rw [if_neg (by omega), if_pos h]
theorem y_st2 (h : g 32 1 = 2) : y_st g c = y_si g c := by
  unfold y_st; rw [if_neg (by omega), if_neg (by omega), if_pos h]
theorem y_st3 (h : g 32 1 = 3) : y_st g c = y_sr g c := by
  unfold y_st; rw [if_neg (by omega), if_neg (by omega), if_neg (by omega)]
theorem t_bas (h : y_BD g s nb) (cs : z_CI s) (hb : y_big c) (h4 : 0 ≤ nb ∧ nb < 4) (hc : c = s 311 (s 309 4)) (m : y_MA s s' 7 (s 329 1)) (b0 : 0 ≤ s 329 1) : (y_st g c).1 = 0 ∧ y_IB (z_up (y_st g c).2 32 7 p) s' 1 (nb + 1) (s 329 1) := by
  obtain ⟨h1, h2, h3, h5⟩ := h
  have w := CI_b cs (k := 329) (j := 0) bd_329_0
  have hn := h5.n
  have h8 : g 19 8 = s 329 2 := h5.2.1
  obtain ⟨m0, m1, m2, m3, m4, m5, m6, m7, m8⟩ := id m
  have ez : z_w (g 32 2 + 1) = nb + 1 := by rw [h2]; exact z_wid (by unfold z_I; omega)
  have eg : z_w (g 19 7 - 1) = g 19 7 - 1 := z_wid (by unfold z_I; omega)
  generalize hG : z_up (z_up (z_up (z_up g 32 2 (z_w (g 32 2 + 1))) 32 3 1) 32 5 (g 19 6)) 32 1 2 = G
  have kG : ∀ a b : Int, a ≠ 32 → G a b = g a b := fun a b q => by
    rw [← hG, z_up_k q, z_up_k q, z_up_k q, z_up_k q]
  have e : y_st g c = (0, y_add G c (g 19 7 - 1) 1 (g 19 8)) := by
    rw [y_st1 h1]
    unfold y_sd
    rw [if_neg (by omega), if_pos hb, hG, eg, y_as0 (by rw [kG _ _ (by decide)]; omega)]
  have g1 : G 32 1 = 2 := by rw [← hG, z_up_s]
  have g2 : G 32 2 = nb + 1 := by rw [← hG, z_up_j (by decide), z_up_j (by decide), z_up_j (by decide), z_up_s, ez]
  have g3 : G 32 3 = 1 := by rw [← hG, z_up_j (by decide), z_up_j (by decide), z_up_s]
  have g6 : G 19 6 = g 19 6 := kG _ _ (by decide)
  have g7 : G 19 7 = g 19 7 := kG _ _ (by decide)
  rw [e]
  have v := y_add_v (g := G) (code := c) (grp := g 19 7 - 1) (hd := 1) (mk := g 19 8) ⟨by omega, by omega⟩
  have hT := (y_TX.g h5 kG).add cs m (bb' := s 329 1 + 1) (by omega) (by omega) (code := c) (grp := g 19 7 - 1) (hd := 1) (mk := g 19 8) hc (by rw [if_pos (Or.inr rfl), h8]) (Or.inl ⟨rfl, by omega, hb, Or.inl ⟨rfl, (by
    by_cases q : s 329 0 = 0
    · exact Or.inl q
    · refine Or.inr (Or.inr ?_)
      have e4 : (361 + 13 : Int) = 374 := by decide
      have r := (h5.2.2.2 (s 329 0 - 1) (by omega) (by show s 329 0 - 1 < s (316 + 13) 0; rw [show (316 + 13 : Int) = 329 by decide]; omega)).1
      rw [e4] at r ⊢
      rw [(m8 _ (by omega)).2.2.1, m6]; omega), Int.le_refl _⟩⟩)
  refine ⟨rfl, ?_, ?_, ?_, ?_, ?_, ?_, ?_, ?_⟩
  · show z_up (y_add G c _ _ _) 32 7 p 32 1 = 2
    rw [y_7 (by decide), v.2.2.2.1]; exact g1
  · show z_up (y_add G c _ _ _) 32 7 p 32 2 = nb + 1
    rw [y_7 (by decide), v.2.2.2.1]; exact g2
  · show z_up (y_add G c _ _ _) 32 7 p 32 3 = 1
    rw [y_7 (by decide), v.2.2.2.1]; exact g3
  · show 1 ≤ z_up (y_add G c _ _ _) 32 7 p 19 7 ∧ z_up (y_add G c _ _ _) 32 7 p 19 7 ≤ z_up (y_add G c _ _ _) 32 7 p 19 6
    rw [y_7 (by decide), y_7 (by decide), v.1, v.2.1]; omega
  · exact y_TX.g hT (fun a b q => z_up_k q)
  · omega
  · rw [m0, show s 329 0 + 1 - 1 = s 329 0 by omega]; exact m5
  · rw [m0, show s 329 0 + 1 - 1 = s 329 0 by omega]; exact m6
theorem t_inb (h : y_IB g s n nb bs) (cs : z_CI s) (hb : y_big c) (h4 : 0 ≤ n ∧ n < 3) (hc : c = s 311 (s 309 4)) (m : y_MA s s' 7 bs) : (y_st g c).1 = 0 ∧ y_IB (z_up (y_st g c).2 32 7 p) s' (n + 1) nb bs := by
  obtain ⟨h1, h2, h3, h6, h5, l1, l2, l3⟩ := h
  have w := CI_b cs (k := 329) (j := 0) bd_329_0
  have hn := h5.n
  have h8 : g 19 8 = s 329 2 := h5.2.1
  obtain ⟨m0, m1, m2, m3, m4, m5, m6, m7, m8⟩ := id m
  have ez : z_w (g 32 3 + 1) = n + 1 := by rw [h3]; exact z_wid (by unfold z_I; omega)
  have eg : z_w (g 19 7 - 1) = g 19 7 - 1 := z_wid (by unfold z_I; omega)
  generalize hG : z_up g 32 3 (z_w (g 32 3 + 1)) = G
  have kG : ∀ a b : Int, a ≠ 32 → G a b = g a b := fun a b q => by
    rw [← hG, z_up_k q]
  unfold y_big at hb
  have e : y_st g c = (0, y_add G c (g 19 7 - 1) 0 (g 19 8)) := by
    rw [y_st2 h1]
    unfold y_si
    rw [if_neg (by omega), if_neg (by omega), if_pos hb, hG, eg, y_as0 (by rw [kG _ _ (by decide)]; omega)]
  have g1 : G 32 1 = 2 := by rw [← hG, z_up_j (by decide)]; exact h1
  have g2 : G 32 2 = nb := by rw [← hG, z_up_j (by decide)]; exact h2
  have g3 : G 32 3 = n + 1 := by rw [← hG, z_up_s, ez]
  have g6 : G 19 6 = g 19 6 := kG _ _ (by decide)
  have g7 : G 19 7 = g 19 7 := kG _ _ (by decide)
  rw [e]
  have v := y_add_v (g := G) (code := c) (grp := g 19 7 - 1) (hd := 0) (mk := g 19 8) ⟨by omega, by omega⟩
  have hT := (y_TX.g h5 kG).add cs m (bb' := bs + 1) (by omega) (by omega) (code := c) (grp := g 19 7 - 1) (hd := 0) (mk := g 19 8) hc (by rw [if_pos (Or.inr rfl), h8]) (Or.inl ⟨rfl, by omega, hb, Or.inr ⟨rfl, by
    have e4 : (361 + 13 : Int) = 374 := by decide
    have e3 : (346 + 13 : Int) = 359 := by decide
    intro q
    unfold y_bs at q
    rw [e4, e3, (m8 _ (by omega)).2.2.1, (m8 _ (by omega)).2.1, m6] at q
    rcases q with q | q | q
    · omega
    · exact q l2
    · exact q l3⟩⟩)
  refine ⟨rfl, ?_, ?_, ?_, ?_, ?_, ?_, ?_, ?_⟩
  · show z_up (y_add G c _ _ _) 32 7 p 32 1 = 2
    rw [y_7 (by decide), v.2.2.2.1]; exact g1
  · show z_up (y_add G c _ _ _) 32 7 p 32 2 = nb
    rw [y_7 (by decide), v.2.2.2.1]; exact g2
  · show z_up (y_add G c _ _ _) 32 7 p 32 3 = n + 1
    rw [y_7 (by decide), v.2.2.2.1]; exact g3
  · show 1 ≤ z_up (y_add G c _ _ _) 32 7 p 19 7 ∧ z_up (y_add G c _ _ _) 32 7 p 19 7 ≤ z_up (y_add G c _ _ _) 32 7 p 19 6
    rw [y_7 (by decide), y_7 (by decide), v.1, v.2.1]; omega
  · exact y_TX.g hT (fun a b q => z_up_k q)
  · omega
  · rw [m0, show s 329 0 + 1 - 1 = s 329 0 by omega]; exact m5
  · rw [m0, show s 329 0 + 1 - 1 = s 329 0 by omega]; exact m6
theorem t_jb (h : y_IB g s n nb bs) (k : y_SD s s') (e : s' 329 1 = bs + 1) : y_JB g s' nb := by
  obtain ⟨h1, h2, h3, h6, h5, l1, l2, l3⟩ := h
  exact ⟨h1, h2, h6, by rw [e]; exact h5.s k⟩
theorem t_bar (h : y_JB g s nb) (hc : c = 124) : (y_st g c).1 = 0 ∧ y_IR (z_up (y_st g c).2 32 7 p) s 0 0 nb := by
  obtain ⟨h1, h2, h3, h5⟩ := h
  have e : y_st g c = (0, z_up (z_up (z_up g 32 6 0) 32 4 0) 32 1 3) := by
    rw [y_st2 h1]; exact if_pos hc
  rw [e]
  refine ⟨rfl, ?_, ?_, ?_, ?_, ?_, ?_⟩
  · show z_up (z_up (z_up (z_up g 32 6 0) 32 4 0) 32 1 3) 32 7 p 32 1 = 3
    rw [y_7 (by decide), z_up_s]
  · show z_up (z_up (z_up (z_up g 32 6 0) 32 4 0) 32 1 3) 32 7 p 32 2 = nb
    rw [y_7 (by decide), z_up_j (by decide), z_up_j (by decide), z_up_j (by decide)]; exact h2
  · show z_up (z_up (z_up (z_up g 32 6 0) 32 4 0) 32 1 3) 32 7 p 32 4 = 0
    rw [y_7 (by decide), z_up_j (by decide), z_up_s]
  · show z_up (z_up (z_up (z_up g 32 6 0) 32 4 0) 32 1 3) 32 7 p 32 6 = 0
    rw [y_7 (by decide), z_up_j (by decide), z_up_j (by decide), z_up_s]
  · show 1 ≤ z_up (z_up (z_up (z_up g 32 6 0) 32 4 0) 32 1 3) 32 7 p 19 7 ∧ z_up (z_up (z_up (z_up g 32 6 0) 32 4 0) 32 1 3) 32 7 p 19 7 ≤ z_up (z_up (z_up (z_up g 32 6 0) 32 4 0) 32 1 3) 32 7 p 19 6
    have k : ∀ b : Int, z_up (z_up (z_up (z_up g 32 6 0) 32 4 0) 32 1 3) 32 7 p 19 b = g 19 b := fun b => by
      rw [z_up_k (by decide), z_up_k (by decide), z_up_k (by decide), z_up_k (by decide)]
    rw [k, k]; exact h3
  · exact y_TX.g h5 (fun a b q => by
      show z_up (z_up (z_up (z_up g 32 6 0) 32 4 0) 32 1 3) 32 7 p a b = g a b
      rw [z_up_k q, z_up_k q, z_up_k q, z_up_k q])
theorem y_al_v {d0 i0 a b : Int} (h : a ≠ 29 ∧ a ≠ 31) : y_al g d0 i0 c a b = g a b := by
  unfold y_al y_rdo
  by_cases q : d0 = 0
  · rw [if_pos q]; exact y_rp_o gr28 h.1
  · rw [if_neg q]; exact y_rp_o gr30 h.2
theorem y_TX.k {g' : z_M} {bb : Int} (h : y_TX g 19 s 13 bb) (k : ∀ a b : Int, a ≠ 32 → a ≠ 29 → a ≠ 31 → g' a b = g a b) : y_TX g' 19 s 13 bb := by
  obtain ⟨a1, a2, a3, a4⟩ := h
  refine ⟨by rw [k _ _ (by decide) (by decide) (by decide)]; exact a1, by rw [k _ _ (by decide) (by decide) (by decide)]; exact a2, by rw [k _ _ (by decide) (by decide) (by decide)]; exact a3, fun i p q => ?_⟩
  rw [k _ _ (by decide) (by decide) (by decide), k _ _ (by decide) (by decide) (by decide), k _ _ (by decide) (by decide) (by decide), k _ _ (by decide) (by decide) (by decide)]
  exact a4 i p q
/-- a step that writes the reader's fields alone, or letters -/
theorem t_ir (h : y_IR g s d n nb) {G : z_M} {d' n' : Int} (k : ∀ a b : Int, a ≠ 32 → a ≠ 29 → a ≠ 31 → G a b = g a b) (k1 : G 32 1 = 3) (k2 : G 32 2 = nb) (k4 : G 32 4 = n') (k6 : G 32 6 = d') : y_IR (z_up G 32 7 p) s d' n' nb := by
  obtain ⟨h1, h2, h3, h4, h6, h5⟩ := h
  refine ⟨by rw [y_7 (by decide)]; exact k1, by rw [y_7 (by decide)]; exact k2, by rw [y_7 (by decide)]; exact k4, by rw [y_7 (by decide)]; exact k6, ?_, ?_⟩
  · rw [y_7 (by decide), y_7 (by decide), k _ _ (by decide) (by decide) (by decide), k _ _ (by decide) (by decide) (by decide)]; exact h6
  · exact y_TX.k h5 (fun a b q1 q2 q3 => by rw [z_up_k q1]; exact k a b q1 q2 q3)
theorem t_let (h : y_IR g s d n nb) (hs : y_sml c) (hn : 0 ≤ n ∧ n < 9) : (y_st g c).1 = 0 ∧ y_IR (z_up (y_st g c).2 32 7 p) s d (n + 1) nb := by
  have h0 := h
  obtain ⟨h1, h2, h3, h4, h6, h5⟩ := h
  have ez : z_w (g 32 4 + 1) = n + 1 := by rw [h3]; exact z_wid (by unfold z_I; omega)
  have e : y_st g c = (0, y_al (z_up g 32 4 (z_w (g 32 4 + 1))) (g 32 6) (g 32 5) c) := by
    rw [y_st3 h1]; exact if_pos ⟨hs, by omega⟩
  rw [e]
  refine ⟨rfl, t_ir h0 (fun a b q1 q2 q3 => ?_) ?_ ?_ ?_ ?_⟩
  · show y_al _ _ _ _ a b = _
    rw [y_al_v ⟨q2, q3⟩, z_up_k q1]
  · show y_al _ _ _ _ 32 1 = _
    rw [y_al_v (by decide), z_up_j (by decide)]; exact h1
  · show y_al _ _ _ _ 32 2 = _
    rw [y_al_v (by decide), z_up_j (by decide)]; exact h2
  · show y_al _ _ _ _ 32 4 = _
    rw [y_al_v (by decide), z_up_s, ez]
  · show y_al _ _ _ _ 32 6 = _
    rw [y_al_v (by decide), z_up_j (by decide)]; exact h4
theorem t_br2 (h : y_IR g s 0 n nb) (hn : n ≠ 0) (hc : c = 124) : (y_st g c).1 = 0 ∧ y_IR (z_up (y_st g c).2 32 7 p) s 1 0 nb := by
  have h0 := h
  obtain ⟨h1, h2, h3, h4, h6, h5⟩ := h
  have e : y_st g c = (0, z_up (z_up g 32 6 1) 32 4 0) := by
    rw [y_st3 h1]
    unfold y_sr y_sml
    rw [if_neg (by omega), if_neg (by omega), if_pos ⟨hc, h4⟩]
  rw [e]
  refine ⟨rfl, t_ir h0 (fun a b q1 q2 q3 => ?_) ?_ ?_ ?_ ?_⟩
  · show z_up (z_up g 32 6 1) 32 4 0 a b = _
    rw [z_up_k q1, z_up_k q1]
  · show z_up (z_up g 32 6 1) 32 4 0 32 1 = _
    rw [z_up_j (by decide), z_up_j (by decide)]; exact h1
  · show z_up (z_up g 32 6 1) 32 4 0 32 2 = _
    rw [z_up_j (by decide), z_up_j (by decide)]; exact h2
  · show z_up (z_up g 32 6 1) 32 4 0 32 4 = _
    rw [z_up_s]
  · show z_up (z_up g 32 6 1) 32 4 0 32 6 = _
    rw [z_up_j (by decide), z_up_s]
theorem t_sem (h : y_IR g s d n nb) (hn : n ≠ 0) (hc : c = 59) : (y_st g c).1 = 0 ∧ y_BD (z_up (y_st g c).2 32 7 p) s nb := by
  obtain ⟨h1, h2, h3, h4, h6, h5⟩ := h
  have e : y_st g c = (0, z_up g 32 1 1) := by
    rw [y_st3 h1]
    unfold y_sr y_sml
    rw [if_neg (by omega), if_neg (by omega), if_neg (by omega), if_pos hc]
  rw [e]
  refine ⟨rfl, ?_, ?_, ?_, ?_⟩
  · show z_up (z_up g 32 1 1) 32 7 p 32 1 = 1
    rw [y_7 (by decide), z_up_s]
  · show z_up (z_up g 32 1 1) 32 7 p 32 2 = nb
    rw [y_7 (by decide), z_up_j (by decide)]; exact h2
  · show 1 ≤ z_up (z_up g 32 1 1) 32 7 p 19 7 ∧ z_up (z_up g 32 1 1) 32 7 p 19 7 ≤ z_up (z_up g 32 1 1) 32 7 p 19 6 + 1
    rw [z_up_k (by decide), z_up_k (by decide), z_up_k (by decide), z_up_k (by decide)]; omega
  · exact y_TX.g h5 (fun a b q => by
      show z_up (z_up g 32 1 1) 32 7 p a b = g a b
      rw [z_up_k q, z_up_k q])
theorem t_cls (h : y_IR g s d n nb) (hn : n ≠ 0) (hc : c = 125) : (y_st g c).1 = 0 ∧ y_O (z_up (y_st g c).2 32 7 p) s := by
  obtain ⟨h1, h2, h3, h4, h6, h5⟩ := h
  have e : y_st g c = (0, z_up g 32 1 0) := by
    rw [y_st3 h1]
    unfold y_sr y_sml
    rw [if_neg (by omega), if_neg (by omega), if_neg (by omega), if_neg (by omega), if_pos hc]
  rw [e]
  refine ⟨rfl, ?_, ?_, ?_⟩
  · show z_up (z_up g 32 1 0) 32 7 p 32 1 = 0
    rw [y_7 (by decide), z_up_s]
  · show z_up (z_up g 32 1 0) 32 7 p 19 7 ≤ z_up (z_up g 32 1 0) 32 7 p 19 6
    rw [z_up_k (by decide), z_up_k (by decide), z_up_k (by decide), z_up_k (by decide)]; exact h6.2
  · exact y_TX.g h5 (fun a b q => by
      show z_up (z_up g 32 1 0) 32 7 p a b = g a b
      rw [z_up_k q, z_up_k q])
/-- the faults -/
theorem f_O1 (h : y_O g s) (hk : y_ki c = -1) (hc : c ≠ 42 ∧ c ≠ 95 ∧ c ≠ 123) : (y_st g c).1 = 1 := by
  have kc := y_ki_cases c
  unfold y_st y_so
  rw [if_pos h.1, if_neg hc.1, if_neg hc.2.1, if_neg hc.2.2, if_neg (by omega), if_neg (by omega)]
theorem f_O2 (h : y_O g s) (hk : 0 ≤ y_ki c) (hn : s 329 0 = 200) : (y_st g c).1 = 2 := by
  have kc := y_ki_cases c
  have h6 := h.2.2.n
  unfold y_st y_so
  unfold y_big y_alo y_sml at *
  rw [if_pos h.1, if_neg (by omega), if_neg (by omega), if_neg (by omega)]
  by_cases hb : 65 ≤ c ∧ c ≤ 90
  · rw [if_pos hb, y_as2 (by omega)]
  · rw [if_neg hb, if_pos (by omega), y_as2 (by omega)]
theorem f_D1 (h : y_BD g s nb) (hc : nb = 4 ∨ ¬ y_big c) : (y_st g c).1 = 1 := by
  rw [y_st1 h.1]
  unfold y_sd
  have h2 := h.2.1
  by_cases q : g 32 2 = 4
  · rw [if_pos q]
  · rw [if_neg q, if_neg (hc.resolve_left (by omega))]
theorem f_D2 (h : y_BD g s nb) (h4 : nb ≠ 4) (hb : y_big c) (hn : s 329 0 = 200) : (y_st g c).1 = 2 := by
  rw [y_st1 h.1]
  unfold y_sd
  have h2 := h.2.1
  have h6 := h.2.2.2.n
  rw [if_neg (by omega), if_pos hb, y_as2 (by rw [z_up_k (by decide), z_up_k (by decide), z_up_k (by decide), z_up_k (by decide)]; omega)]
theorem f_I1 (h : y_IB g s n nb bs) (h0 : c ≠ 124) (hc : n = 3 ∨ ¬ y_big c) : (y_st g c).1 = 1 := by
  rw [y_st2 h.1]
  unfold y_si
  have h3 := h.2.2.1
  rw [if_neg h0]
  by_cases q : g 32 3 = 3
  · rw [if_pos q]
  · rw [if_neg q, if_neg (hc.resolve_left (by omega))]
theorem f_I2 (h : y_IB g s n nb bs) (h3 : n ≠ 3) (hb : y_big c) (hn : s 329 0 = 200) : (y_st g c).1 = 2 := by
  rw [y_st2 h.1]
  unfold y_si
  have h2 := h.2.2.1
  have h6 := h.2.2.2.2.1.n
  unfold y_big at hb
  rw [if_neg (by omega), if_neg (by omega), if_pos hb, y_as2 (by rw [z_up_k (by decide)]; omega)]
theorem f_R9 (h : y_IR g s d n nb) (hs : y_sml c) (hn : n = 9) : (y_st g c).1 = 1 := by
  rw [y_st3 h.1]
  unfold y_sr
  have h3 := h.2.2.1
  rw [if_neg (by omega), if_pos (Or.inr hs)]
theorem f_R0 (h : y_IR g s d n nb) (hs : ¬ y_sml c) (hn : n = 0) : (y_st g c).1 = 1 := by
  rw [y_st3 h.1]
  unfold y_sr
  have h3 := h.2.2.1
  rw [if_neg (fun q => hs q.1), if_pos (Or.inl (by omega))]
theorem f_R1 (h : y_IR g s d n nb) (hs : ¬ y_sml c) (hn : n ≠ 0) (h1 : ¬ (c = 124 ∧ d = 0)) (h2 : c ≠ 59) (h5 : c ≠ 125) : (y_st g c).1 = 1 := by
  rw [y_st3 h.1]
  unfold y_sr
  have h3 := h.2.2.1
  have h4 := h.2.2.2.1
  rw [if_neg (fun q => hs q.1), if_neg (fun q => q.elim (by omega) hs), if_neg (by omega), if_neg h2, if_neg h5]
end ZT
