/-! BOTH SIDES: units alike -/
theorem y_k3_ki {c : Int} (h : 0 ≤ y_ki c) : y_k3 c = y_ki c := by
  unfold y_ki y_big y_sml at *
  unfold y_k3 y_k4
  by_cases h1 : 65 ≤ c ∧ c ≤ 90
  · rw [if_pos h1, if_neg (by omega), if_neg (by omega)]
  · rw [if_neg h1] at h ⊢
    have e : (if c < 65 then (if c < 97 then (if c < 48 then (if c ≠ 40 then (if c ≠ 41 then (if c ≠ 32 then (3 : Int) else 6) else 5) else 4) else 2) else 1) else if 90 < c then (if c < 97 then (if c < 48 then (if c ≠ 40 then (if c ≠ 41 then (if c ≠ 32 then 3 else 6) else 5) else 4) else 2) else 1) else 0) = (if c < 97 then (if c < 48 then (if c ≠ 40 then (if c ≠ 41 then (if c ≠ 32 then 3 else 6) else 5) else 4) else 2) else 1) := by
      by_cases q : c < 65
      · rw [if_pos q]
      · rw [if_neg q, if_pos (by omega)]
    rw [e]
    by_cases h2 : 97 ≤ c ∧ c ≤ 122
    · rw [if_pos h2, if_neg (by omega)]
    · rw [if_neg h2] at h ⊢
      by_cases h3 : 48 ≤ c ∧ c ≤ 57
      · rw [if_pos h3, if_pos (by omega), if_neg (by omega)]
      · rw [if_neg h3] at h ⊢
        by_cases h4 : c = 46 ∨ c = 44
        · rw [if_pos h4, if_pos (by omega), if_pos (by omega), if_pos (by omega), if_pos (by omega), if_pos (by omega)]
        · rw [if_neg h4] at h ⊢
          by_cases h5 : c = 40
          · rw [if_pos h5, if_pos (by omega), if_pos (by omega), if_neg (by omega)]
          · rw [if_neg h5] at h ⊢
            by_cases h6 : c = 41
            · rw [if_pos h6, if_pos (by omega), if_pos (by omega), if_pos (by omega), if_neg (by omega)]
            · rw [if_neg h6] at h ⊢
              by_cases h7 : c = 32
              · rw [if_pos h7, if_pos (by omega), if_pos (by omega), if_pos (by omega), if_pos (by omega), if_neg (by omega)]
              · rw [if_neg h7] at h
                omega
/-- the text's rows for text 0 -/
theorem y_TX.at0 {g s : z_M} {bb i : Int} (h : y_TX g 6 s 0 bb) (h0 : 0 ≤ i) (h1 : i < s 316 0) : s 361 i < bb ∧ y_sg (g 8 i) (g 10 i) (g 12 i) (g 14 i) s 0 i := by
  have q := h.2.2.2 i h0 (by rw [show (316 + 0 : Int) = 316 by decide]; exact h1)
  rw [show (361 + 0 : Int) = 361 by decide] at q
  exact q
theorem y_TX.n0 {g s : z_M} {bb : Int} (h : y_TX g 6 s 0 bb) : g 6 6 = s 316 0 := h.1
theorem y_TX.kind {g s : z_M} {bb i : Int} (h : y_TX g 6 s 0 bb) (h0 : 0 ≤ i) (h1 : i < s 316 0) : y_kc g i = s 346 i := by
  obtain ⟨_, _, _, q⟩ := h.at0 h0 h1
  rw [show (346 + 0 : Int) = 346 by decide, show (361 + 0 : Int) = 361 by decide] at q
  unfold y_kc
  rcases q with ⟨q1, q2, _⟩ | ⟨q1, q2, q3, _⟩
  · rw [if_neg q2, q1]
  · rw [if_pos q3, q1]; exact y_k3_ki q2
theorem y_TX.start {g s : z_M} {bb i : Int} (h : y_TX g 6 s 0 bb) (h0 : 0 ≤ i) (h1 : i < s 316 0) : y_sC g i = y_sS s i := by
  have k := h.kind h0 h1
  have k1 : ¬ i ≤ 0 → y_kc g (i - 1) = s 346 (i - 1) := fun q => h.kind (by omega) (by omega)
  obtain ⟨_, _, _, q⟩ := h.at0 h0 h1
  rw [show (346 + 0 : Int) = 346 by decide, show (361 + 0 : Int) = 361 by decide] at q
  unfold y_sC y_sS y_one
  rw [k]
  rcases q with ⟨q1, q2, _, q4⟩ | ⟨q1, q2, q3, _⟩
  · rw [if_pos q1]
    rcases q4 with ⟨q4, q5, q6⟩ | ⟨q4, q5⟩
    · rw [if_pos q4]
      by_cases z : i ≤ 0
      · rw [if_pos z]
      · have w := (y_bb0.mp q6) (i - 1) (by omega) (by omega)
        rw [if_neg z, if_neg (by omega), if_neg (by omega)]
        rfl
    · rw [if_neg (by omega)]
      rw [y_bs0] at q5
      have z : ¬ i ≤ 0 := fun z => q5 (Or.inl (by omega))
      have e : s 361 (i - 1) = s 361 i := by
        by_cases z2 : s 361 (i - 1) = s 361 i
        · exact z2
        · exact absurd (Or.inr (Or.inr z2)) q5
      rw [if_neg z, if_neg (by omega), if_pos ⟨q1, e.symm⟩]
      rfl
  · have n7 : s 346 i ≠ 7 := by
      intro z
      have w := y_ki_cases (g 8 i)
      rw [← q1, z] at w
      rcases w with ⟨w, _⟩ | ⟨_, w, _⟩ | ⟨w, _⟩ <;> omega
    rw [if_neg n7]
    by_cases z : i ≤ 0
    · rw [if_pos z, if_pos (show i = 0 by omega)]
      split <;> rfl
    · rw [if_neg z, if_neg (show ¬ i = 0 by omega), k1 z]
      by_cases z2 : s 346 i = 1 ∨ s 346 i = 2
      · rw [if_pos z2, if_pos z2]
        by_cases z3 : s 346 (i - 1) = s 346 i
        · rw [if_pos z3, if_pos z3.symm]; rfl
        · rw [if_neg z3, if_neg (fun q => z3 q.symm)]; rfl
      · rw [if_neg z2, if_neg z2, if_neg (fun q => n7 q.1)]; rfl
/-- the class's units (in g) are the reference's (in s) -/
def y_EU (g s : z_M) : Prop := g 191 16 = s 309 20 ∧ (∀ v : Int, 0 ≤ v → v < s 309 20 → g 195 v = s 3221 v ∧ g 197 v = s 3222 v ∧ g 193 v = s 3220 v) ∧ ∀ j : Int, 0 ≤ j → j < s 316 0 → g 215 j = s 3223 j
theorem y_TX.EU {g s : z_M} {bb : Int} (h : y_TX g 6 s 0 bb) (u : y_Uu g) (p : y_PU s) : y_EU g s := by
  have n0 := h.n0
  obtain ⟨pn, pt⟩ := p
  have t0 : g 6 6 = 0 ∨ y_sC g 0 = 1 := by
    by_cases q : g 6 6 = 0
    · exact Or.inl q
    · right
      rw [h.start (Int.le_refl 0) (by omega)]
      unfold y_sS
      rw [if_pos (Int.le_refl 0)]
  obtain ⟨_, ct⟩ := u.2 t0
  rw [n0] at ct
  have e := ct.eq pt y_sC_01 (fun j hj => ⟨h.start (by omega) (by omega), h.kind (by omega) (by omega)⟩)
  obtain ⟨e1, e2, e3⟩ := e
  refine ⟨e1, fun v h0 h1 => ?_, fun j h0 h1 => ?_⟩
  · obtain ⟨a, b, c⟩ := e2 v h0 (by omega)
    exact ⟨a, b, c⟩
  · have q := e3 j.toNat (by omega)
    rw [show ((j.toNat : Nat) : Int) = j by omega] at q
    exact q
/-- a text with its groups counted -/
def y_T2 (g : z_M) (k : Int) (s : z_M) (t : Int) : Prop := y_TX g k s t (s (316 + t) 1) ∧ g k 7 ≤ g k 6 ∧ y_XT g k s t
theorem y_RS2.src {r r' s : z_M} {t f : Int} (h : y_RS2 r s t f) (hf : 0 ≤ f ∧ f ≤ 13) (k : ∀ a b : Int, 309 ≤ a → a ≤ 7657 → r a b = r' a b) : y_RS2 r' s t f := by
  obtain ⟨a1, a2, a3, a4, a5, a6⟩ := h
  refine ⟨by rw [← k _ _ (by omega) (by omega)]; exact a1, by rw [← k _ _ (by omega) (by omega)]; exact a2, by rw [← k _ _ (by omega) (by omega)]; exact a3, fun b p q => ?_, fun b p q => ?_, fun b p q w => ?_⟩
  · rw [← k _ _ (by omega) (by omega), ← k _ _ (by omega) (by omega), ← k _ _ (by omega) (by omega), ← k _ _ (by omega) (by omega)]
    exact a4 b p q
  · rw [← k _ _ (by omega) (by omega)]; exact a5 b p q
  · rw [← k _ _ (by omega) (by omega)] at w
    rw [← k _ _ (by omega) (by omega), ← k _ _ (by omega) (by omega)]
    exact a6 b p q w
theorem y_TE.dst {r s s' : z_M} {k k2 : Int} (h : y_TE r s k k2) (f : ∀ a b : Int, k ≤ a ∧ a ≤ k + 12 → s' a b = s a b) : y_TE r s' k k2 := by
  obtain ⟨t1, t2, t3, t4⟩ := h
  refine ⟨by rw [f _ _ (by omega)]; exact t1, by rw [f _ _ (by omega)]; exact t2, by rw [f _ _ (by omega)]; exact t3, fun i p q => ?_⟩
  rw [f _ _ (by omega), f _ _ (by omega), f _ _ (by omega), f _ _ (by omega), f _ _ (by omega), f _ _ (by omega)]
  exact t4 i p q
theorem y_TE.rf {s s' : z_M} {k : Int} (f : ∀ a b : Int, k ≤ a ∧ a ≤ k + 12 → s' a b = s a b) : y_TE s s' k k :=
  ⟨f _ _ (by omega), f _ _ (by omega), f _ _ (by omega), fun i _ _ => ⟨f _ _ (by omega), f _ _ (by omega), f _ _ (by omega), f _ _ (by omega), f _ _ (by omega), f _ _ (by omega)⟩⟩
theorem y_T2.tr {s s2 : z_M} {k k2 t f : Int} (h : y_T2 s k2 s f) (e : y_TE s s2 k k2) (r : y_RS2 s s2 t f) (hn : s (316 + f) 0 ≤ 200 ∧ 0 ≤ s (316 + f) 1 ∧ s (316 + f) 1 ≤ 200) : y_T2 s2 k s2 t := by
  obtain ⟨h1, h2, h3⟩ := h
  have r1 := r.2.1
  refine ⟨?_, by rw [e.2.1, e.1]; exact h2, (h3.tc e h1.1).rs r hn.1 hn.2.2 hn.2.1⟩
  rw [r1]
  exact (h1.tc e).rs r hn.1
/-- the kept texts -/
def y_hx (n b j : Int) : Int := 35 + 13 * ((n - 1 - (b - j)) % 12)
def y_HI (s : z_M) : Prop := (0 ≤ s 33 1 ∧ s 33 1 ≤ 11) ∧ s 33 2 = s 309 19 ∧ (0 ≤ s 309 19 ∧ s 309 19 ≤ 12) ∧ ∀ j : Int, 1 ≤ j → j ≤ s 309 19 → y_T2 s (y_hx (s 33 1) (s 309 19) j) s j
/-- all that texts are -/
def y_XX (s : z_M) : Prop := y_T2 s 6 s 0 ∧ y_HI s ∧ (s 1 12 = s 309 2 ∧ ∀ i : Int, 0 ≤ i → i < s 1 12 → s 5 i = s 311 i) ∧ s 1 13 = s 309 5
def y_NN (s : z_M) : Prop := ∀ f : Int, 0 ≤ f → f ≤ 13 → s (316 + f) 0 ≤ 200 ∧ 0 ≤ s (316 + f) 1 ∧ s (316 + f) 1 ≤ 200
theorem y_NN.of {s : z_M} (c : z_CI s) : y_NN s := fun f h0 h1 => ⟨(CI_b c (z_bd_head ⟨h0, h1⟩ (Or.inl rfl))).2, CI_b c (z_bd_head ⟨h0, h1⟩ (Or.inr rfl))⟩
/-- the same on both sides -/
theorem y_XX.same {s s2 : z_M} (h : y_XX s) (c : z_CI s) (fc : ∀ a b : Int, (6 ≤ a ∧ a ≤ 18) ∨ (33 ≤ a ∧ a ≤ 190) → s2 a b = s a b) (t : y_TT s s2) (e19 : s2 309 19 = s 309 19) (tp : s2 1 12 = s2 309 2 ∧ ∀ i : Int, 0 ≤ i → i < s2 1 12 → s2 5 i = s2 311 i) (fa : s2 1 13 = s2 309 5) : y_XX s2 := by
  have nn := y_NN.of c
  obtain ⟨a1, ⟨b1, b2, b3, b4⟩, _, _⟩ := h
  refine ⟨a1.tr (y_TE.rf (fun a b q => fc a b (by omega))) (t 0 (by omega) (by omega)) (nn 0 (by omega) (by omega)), ⟨by rw [fc _ _ (by omega)]; exact b1, by rw [fc _ _ (by omega), e19]; exact b2, by rw [e19]; exact b3, fun j p q => ?_⟩, tp, fa⟩
  rw [e19] at q ⊢
  rw [fc 33 1 (by omega)]
  have w := b4 j p q
  refine w.tr (y_TE.rf (fun a b r => fc a b ?_)) (t j (by omega) (by omega)) (nn j (by omega) (by omega))
  unfold y_hx at r
  omega
/-- the present text is kept on both sides -/
theorem y_HI.keep {s s1 s2 : z_M} (h : y_HI s) (x : y_T2 s 6 s 0) (c : z_CI s) (k : y_HKc s s1) (sk : y_SK s1 s2) (fC : ∀ a b : Int, 309 ≤ a → a ≤ 7657 → s1 a b = s a b) (fM : ∀ a b : Int, a ≤ 308 → s2 a b = s1 a b) : y_HI s2 := by
  have nn := y_NN.of c
  obtain ⟨b1, b2, b3, b4⟩ := h
  obtain ⟨k1, k2, k3, k4⟩ := k
  have e1 : s2 33 1 = y_nx (s 33 1) := (fM _ _ (by decide)).trans k1
  have e2 : s2 33 2 = (if s 33 2 < 12 then s 33 2 + 1 else 12) := (fM _ _ (by decide)).trans k2
  have nb : 0 ≤ y_nx (s 33 1) ∧ y_nx (s 33 1) ≤ 11 := by unfold y_nx; split <;> omega
  have new : ∀ t : Int, y_RS2 s1 s2 t 0 → y_T2 s2 (35 + 13 * s 33 1) s2 t := fun t r => x.tr (k3.dst (fun a b q => fM a b (by omega))) (r.src (by omega) fC) (nn 0 (by omega) (by omega))
  have old : ∀ (t j i : Int), 1 ≤ j → j ≤ s 309 19 → y_hx (s 33 1) (s 309 19) j = 35 + 13 * i → (0 ≤ i ∧ i ≤ 11 ∧ i ≠ s 33 1) → y_RS2 s1 s2 t j → y_T2 s2 (35 + 13 * i) s2 t := fun t j i p q e hi r => by
    have w := b4 j p q
    rw [e] at w
    refine w.tr (y_TE.rf (fun a b z => ?_)) (r.src (by omega) fC) (nn j (by omega) (by omega))
    rw [fM _ _ (by omega)]
    exact k4 a b (by omega) (by omega)
  unfold y_SK at sk
  rw [fC 309 19 (by decide) (by decide)] at sk
  rcases sk with ⟨q1, q2, q3, q4⟩ | ⟨q1, q2, q3, q4⟩
  · refine ⟨by rw [e1]; exact nb, by rw [e2, if_pos (by omega), q2]; omega, by omega, fun j p q => ?_⟩
    rw [e1, q2]
    by_cases z : j = s 309 19 + 1
    · have e : y_hx (y_nx (s 33 1)) (s 309 19 + 1) j = 35 + 13 * s 33 1 := by
        unfold y_hx y_nx
        split <;> omega
      rw [e, z]
      exact new _ q3
    · have e : y_hx (y_nx (s 33 1)) (s 309 19 + 1) j = 35 + 13 * ((s 33 1 - 1 - (s 309 19 - j)) % 12) := by
        unfold y_hx y_nx
        split <;> omega
      rw [e]
      exact old j j _ p (by omega) rfl (by omega) (q4 j p (by omega))
  · refine ⟨by rw [e1]; exact nb, by rw [e2, if_neg (by omega), q2], by omega, fun j p q => ?_⟩
    rw [e1, q2]
    by_cases z : j = 12
    · have e : y_hx (y_nx (s 33 1)) 12 j = 35 + 13 * s 33 1 := by
        unfold y_hx y_nx
        split <;> omega
      rw [e, z]
      exact new _ q3
    · have e : y_hx (y_nx (s 33 1)) 12 j = 35 + 13 * ((s 33 1 - 1 - (s 309 19 - (j + 1))) % 12) := by
        unfold y_hx y_nx
        split <;> omega
      rw [e]
      exact old j (j + 1) _ (by omega) (by omega) rfl (by omega) (q4 j p (by omega))
theorem y_HI.back {s s1 s2 : z_M} (h : y_HI s) (c : z_CI s) (k : y_HBc s s1) (u : y_UR s1 s2) (e19 : s2 309 19 = s1 309 19 - 1) (fC : ∀ a b : Int, 309 ≤ a → a ≤ 7657 → s1 a b = s a b) (fM : ∀ a b : Int, a ≤ 308 → s2 a b = s1 a b) : y_HI s2 ∧ y_T2 s2 6 s2 0 := by
  have nn := y_NN.of c
  obtain ⟨b1, b2, b3, b4⟩ := h
  obtain ⟨k1, k2, k3, k4⟩ := k
  obtain ⟨u1, u2, u3⟩ := u
  rw [fC _ _ (by decide) (by decide)] at u1 u2 e19
  have e1 : s2 33 1 = y_pv (s 33 1) := (fM _ _ (by decide)).trans k1
  have e2 : s2 33 2 = s 33 2 - 1 := (fM _ _ (by decide)).trans k2
  have pb := y_pv_b b1
  refine ⟨⟨by rw [e1]; exact pb, by omega, by omega, fun j p q => ?_⟩, ?_⟩
  · rw [e1, e19]
    have e : y_hx (y_pv (s 33 1)) (s 309 19 - 1) j = y_hx (s 33 1) (s 309 19) j := by
      unfold y_hx y_pv
      split <;> omega
    rw [e]
    have w := b4 j p (by omega)
    refine w.tr (y_TE.rf (fun a b z => ?_)) ((u3 j p (by omega)).src (by omega) fC) (nn j (by omega) (by omega))
    unfold y_hx at z
    rw [fM _ _ (by omega)]
    exact k4 a b (by omega)
  · have w := b4 (s 309 19) (by omega) (Int.le_refl _)
    have e : y_hx (s 33 1) (s 309 19) (s 309 19) = 35 + 13 * y_pv (s 33 1) := by
      unfold y_hx y_pv
      split <;> omega
    rw [e] at w
    exact w.tr (k3.dst (fun a b q => fM a b (by omega))) (u2.src (by omega) fC) (nn _ (by omega) (by omega))
/-- a text that is cut, on both sides -/
theorem y_TX.cut {g g' s0 sm s2 : z_M} {A B n so bb : Int} (h : y_TX g 6 s0 0 bb) (lo : ∀ b : Int, 0 ≤ b → b < 200 → -1 ≤ sm 361 b) (d : y_DR g g' A B) (cu : y_CU sm A B (s0 316 0) n so) (z : y_RS2 s0 sm 0 0) (ub : y_UB sm A B) (e13 : y_RS2 sm s2 0 13) (e0 : sm 329 0 = n) (e1 : sm 329 1 = so) (e2 : sm 329 2 = s0 316 2) (hn : s0 316 0 ≤ 200) : y_TX g' 6 s2 0 (s2 316 1) ∧ g' 6 7 ≤ g' 6 6 := by
  have n0 := h.n0
  have h8 : g 6 8 = s0 316 2 := h.2.1
  obtain ⟨d1, d2, d3, d4⟩ := d
  obtain ⟨⟨_, cp⟩, cr, cn, _⟩ := cu
  obtain ⟨z1, _, z3, z4⟩ := z
  obtain ⟨⟨u0, u1, u2⟩, ue⟩ := ub
  have z1' : sm 316 0 = s0 316 0 := z1
  have hN : n = s0 316 0 - (B - A) := by omega
  obtain ⟨f1, f2, f3, f4⟩ := e13
  have f1' : s2 316 0 = sm 329 0 := f1
  have f2' : s2 316 1 = sm 329 1 := f2
  have f3' : s2 316 2 = sm 329 2 := f3
  have w331 : ∀ j : Int, 0 ≤ j → j < 200 → s2 331 j = sm 344 j ∧ s2 346 j = sm 359 j ∧ s2 361 j = sm 374 j ∧ s2 376 j = sm 389 j := fun j p q => f4.1 j p q
  have y331 : ∀ j : Int, 0 ≤ j → j < 200 → sm 331 j = s0 331 j ∧ sm 346 j = s0 346 j ∧ sm 361 j = s0 361 j ∧ sm 376 j = s0 376 j := fun j p q => z4.1 j p q
  have gb := y_gc_b (G := fun i => g 12 (y_sc A B i)) (g 6 6 - (B - A)).toNat
  refine ⟨⟨?_, ?_, by rw [d3]; exact gb.1, fun j hj0 hj1 => ?_⟩, by rw [d3, d1]; omega⟩
  · show g' 6 6 = s2 316 0
    rw [d1, f1', e0]; omega
  · show g' 6 8 = s2 316 2
    rw [d2, h8, f3', e2]
  have hj1' : j < n := by
    have : j < s2 316 0 := hj1
    rw [f1', e0] at this; exact this
  obtain ⟨i0, ei⟩ : ∃ i0, y_sc A B j = i0 := ⟨_, rfl⟩
  have hi : 0 ≤ i0 ∧ i0 < s0 316 0 := by
    rw [← ei]; unfold y_sc; split <;> omega
  obtain ⟨o1, o2, o3, o4⟩ := h.at0 hi.1 hi.2
  rw [show (331 + 0 : Int) = 331 by decide] at o2
  rw [show (376 + 0 : Int) = 376 by decide] at o3
  rw [show (346 + 0 : Int) = 346 by decide, show (361 + 0 : Int) = 361 by decide] at o4
  have dj := d4 j.toNat (by omega)
  rw [show ((j.toNat : Nat) : Int) = j by omega, ei] at dj
  obtain ⟨d8, d10, d12, d14, _, _⟩ := dj
  have cj := cr j hj0 hj1'
  rw [ei] at cj
  obtain ⟨c1, c2, c3, c4⟩ := cj
  obtain ⟨v1, v2, v3, v4⟩ := w331 j hj0 (by omega)
  obtain ⟨x1, x2, x3, x4⟩ := y331 i0 hi.1 (by omega)
  have rn : g' 12 j = -1 ↔ g 12 i0 = -1 := by
    rw [d12, y_rn_ne, show ((j.toNat : Nat) : Int) = j by omega, ei]
  have eb : ∀ b, b ≠ -1 → y_nwb sm b = sm 7657 b := fun b q => if_neg q
  have cn2 := cn.2.1 j hj0 hj1'
  rw [ei] at cn2
  refine ⟨?_, ?_, ?_, ?_⟩
  · show s2 361 j < s2 316 1
    rw [v3, f2', e1, c3]
    by_cases q : sm 361 i0 = -1
    · rw [show y_nwb sm (sm 361 i0) = -1 from if_pos q]
      have := cn.1
      omega
    · rw [eb _ q]
      have := lo i0 hi.1 (by omega)
      exact (cn2 (by omega)).2
  · show g' 8 j = s2 331 j
    rw [d8, o2, v1, c1, x1]
  · show g' 10 j = s2 376 j
    rw [d10, o3, v4, c4, x4]
  · show (s2 346 j = 7 ∧ g' 12 j ≠ -1 ∧ y_big (g' 8 j) ∧ ((g' 14 j = 1 ∧ y_bs s2 0 j ∧ y_bb s2 0 j) ∨ (g' 14 j = 0 ∧ ¬ y_bs s2 0 j))) ∨ (s2 346 j = y_ki (g' 8 j) ∧ 0 ≤ y_ki (g' 8 j) ∧ g' 12 j = -1 ∧ g' 14 j = 0 ∧ s2 361 j = -1)
    rw [v2, c2, x2, d8, d14]
    rcases o4 with ⟨k1, k2, k3, k4⟩ | ⟨k1, k2, k3, k4, k5⟩
    · refine Or.inl ⟨k1, fun q => k2 (rn.mp q), k3, ?_⟩
      rcases k4 with ⟨k4, k5, k6⟩ | ⟨k4, k5⟩
      · have bbn : y_bb s2 0 j := by
          rw [y_bb0]
          intro j2 p q
          obtain ⟨i2, ei2⟩ : ∃ i2, y_sc A B j2 = i2 := ⟨_, rfl⟩
          have lt : i2 < i0 := by rw [← ei, ← ei2]; exact y_sc_lt u1 q
          have hi2 : 0 ≤ i2 := by rw [← ei2]; exact (y_sc_b u1 u0 p).1
          have cj2 := (cr j2 p (by omega)).2.2.1
          rw [ei2] at cj2
          have bl := (y_bb0.mp k6) i2 hi2 lt
          have x3' := (y331 i2 hi2 (by omega)).2.2.1
          rw [(w331 j2 p (by omega)).2.2.1, v3, cj2, c3]
          have l2 := lo i2 hi2 (by omega)
          have b0 : 0 ≤ sm 361 i0 := by omega
          rw [eb (sm 361 i0) (by omega)]
          have r0 := (cn2 b0).1
          by_cases q2 : sm 361 i2 = -1
          · rw [show y_nwb sm (sm 361 i2) = -1 from if_pos q2]
            omega
          · rw [eb _ q2]
            have w := cn.2.2 j2 j p q hj1'
            rw [ei, ei2] at w
            exact w (by omega) (by omega)
        refine Or.inl ⟨k4, ?_, bbn⟩
        rw [y_bs0]
        by_cases q : j = 0
        · exact Or.inl q
        · have w := (y_bb0.mp bbn) (j - 1) (by omega) (by omega)
          exact Or.inr (Or.inr (by omega))
      · refine Or.inr ⟨k4, ?_⟩
        rw [y_bs0] at k5 ⊢
        have i0n : i0 ≠ 0 := fun q => k5 (Or.inl q)
        have kp : s0 346 (i0 - 1) = 7 := by
          by_cases q : s0 346 (i0 - 1) = 7
          · exact q
          · exact absurd (Or.inr (Or.inl q)) k5
        have bp : s0 361 (i0 - 1) = s0 361 i0 := by
          by_cases q : s0 361 (i0 - 1) = s0 361 i0
          · exact q
          · exact absurd (Or.inr (Or.inr q)) k5
        obtain ⟨y1, y2, y3, y4⟩ := y331 (i0 - 1) (by omega) (by omega)
        have nB : i0 ≠ B := by
          intro q
          have w := y_UB.bs (s := sm) ⟨⟨u0, u1, u2⟩, ue⟩ (by omega) (by rw [← q, x2]; exact k1)
          rw [← q, x3, y3, bp] at w
          exact w rfl
        have es : y_sc A B (j - 1) = i0 - 1 ∧ 1 ≤ j := by
          revert ei
          unfold y_sc
          by_cases q : j < A
          · rw [if_pos q, if_pos (by omega)]
            intro q2; omega
          · rw [if_neg q]
            intro q2
            rw [if_neg (by omega)]
            omega
        have cj2 := cr (j - 1) (by omega) (by omega)
        rw [es.1] at cj2
        obtain ⟨r1, r2, r3, r4⟩ := w331 (j - 1) (by omega) (by omega)
        intro q
        rcases q with q | q | q
        · omega
        · rw [r2, cj2.2.1, y2] at q
          exact q kp
        · rw [r3, v3, cj2.2.2.1, c3, y3, x3, bp] at q
          exact q rfl
    · refine Or.inr ⟨k1, k2, rn.mpr k3, k4, ?_⟩
      rw [v3, c3, x3, k5]
      exact if_pos rfl
/-- its groups and letters -/
theorem y_XT.cut {g g' s0 sm s2 : z_M} {A B n so : Int} (h : y_TX g 6 s0 0 (s0 (316 + 0) 1)) (x : y_XT g 6 s0 0) (d : y_DR g g' A B) (cu : y_CU sm A B (s0 316 0) n so) (z : y_RS2 s0 sm 0 0) (ub : y_UB sm A B) (e13 : y_RS2 sm s2 0 13) (e0 : sm 329 0 = n) (e1 : sm 329 1 = so) (ge : y_CGe sm so) (wf : y_WF sm) (hn : s0 316 0 ≤ 200) (hb : s0 316 1 ≤ 200) : y_XT g' 6 s2 0 := by
  have n0 := h.n0
  obtain ⟨d1, d2, d3, d4⟩ := d
  obtain ⟨⟨_, cp⟩, cr, cn, cs⟩ := cu
  obtain ⟨z1, z2, z3, z4, z5, z6⟩ := z
  obtain ⟨⟨u0, u1, u2⟩, ue⟩ := ub
  obtain ⟨gg, gh, so200, bo, q, _⟩ := ge
  have z1' : sm 316 0 = s0 316 0 := z1
  have hN : n = s0 316 0 - (B - A) := by omega
  obtain ⟨f1, f2, f3, f4, f5, f6⟩ := e13
  have f1' : s2 316 0 = sm 329 0 := f1
  have f2' : s2 316 1 = sm 329 1 := f2
  have w331 : ∀ j : Int, 0 ≤ j → j < 200 → s2 331 j = sm 344 j ∧ s2 346 j = sm 359 j ∧ s2 361 j = sm 374 j ∧ s2 376 j = sm 389 j := fun j p q => f4 j p q
  have y331 : ∀ j : Int, 0 ≤ j → j < 200 → sm 331 j = s0 331 j ∧ sm 346 j = s0 346 j ∧ sm 361 j = s0 361 j ∧ sm 376 j = s0 376 j := fun j p q => z4 j p q
  have g391 : ∀ b : Int, 0 ≤ b → b < 200 → s2 391 b = sm 404 b := fun b p q => f5 b p q
  have l391 : ∀ b : Int, 0 ≤ b → b < so → s2 (407 + b) 0 = sm (3020 + b) 0 ∧ s2 (407 + b) 10 = sm (3020 + b) 10 := fun b p w => by
    have y := f6 b p (by omega) (by show b < sm 329 1; omega)
    rw [show (407 + 201 * 0 + b : Int) = 407 + b by omega, show (407 + 201 * 13 + b : Int) = 3020 + b by omega] at y
    exact y
  have m391 : ∀ b : Int, 0 ≤ b → b < 200 → sm 391 b = s0 391 b := fun b p q => z5 b p q
  have ml : ∀ b : Int, 0 ≤ b → b < s0 316 1 → sm (407 + b) 0 = s0 (407 + b) 0 ∧ sm (407 + b) 10 = s0 (407 + b) 10 := fun b p w => by
    have y := z6 b p (by omega) w
    rw [show (407 + 201 * 0 + b : Int) = 407 + b by omega] at y
    exact y
  have bi : ∀ j : Int, 0 ≤ j → j < n → 0 ≤ y_sc A B j ∧ y_sc A B j < s0 316 0 := fun j p w => by unfold y_sc; split <;> omega
  have sg : ∀ i : Int, 0 ≤ i → i < s0 316 0 → (s0 346 i = 7 ∧ g 12 i ≠ -1) ∨ (s0 346 i ≠ 7 ∧ g 12 i = -1 ∧ s0 361 i = -1) := fun i p w => by
    obtain ⟨o1, o2, o3, o4⟩ := h.at0 p w
    rw [show (346 + 0 : Int) = 346 by decide, show (361 + 0 : Int) = 361 by decide] at o4
    rcases o4 with ⟨k1, k2, _⟩ | ⟨k1, k2, k3, k4, k5⟩
    · exact Or.inl ⟨k1, k2⟩
    · refine Or.inr ⟨fun y => ?_, k3, k5⟩
      have r := y_ki_cases (g 8 i)
      rw [← k1, y] at r
      rcases r with ⟨r, _⟩ | ⟨_, r, _⟩ | ⟨r, _⟩ <;> omega
  have xf : ∀ i : Int, 0 ≤ i → i < s0 316 0 → s0 346 i = 7 → 0 ≤ s0 361 i ∧ s0 361 i < s0 316 1 ∧ g 12 i = s0 391 (s0 361 i) ∧ (g 14 i = 1 → g 16 i % 16 = s0 (407 + s0 361 i) 0 ∧ g 18 i % 16 = s0 (407 + s0 361 i) 10 ∧ 1 ≤ s0 (407 + s0 361 i) 0) := fun i p w k => by
    have lt : s0 361 i < s0 316 1 := (h.at0 p w).1
    have y := x.1 i p w k lt
    refine ⟨y.1, lt, y.2.1, fun v => ?_⟩
    have y2 := y.2.2 v
    have el : ∀ b : Int, (fun b => s0 (407 + 201 * 0 + b)) b = s0 (407 + b) := fun b => by show s0 (407 + 201 * 0 + b) = _; rw [show (407 + 201 * 0 + b : Int) = 407 + b by omega]
    rw [el] at y2
    exact y2
  -- kept signs
  have kp : ∀ j : Int, 0 ≤ j → j < n → s2 346 j = s0 346 (y_sc A B j) ∧ sm 361 (y_sc A B j) = s0 361 (y_sc A B j) ∧ s2 361 j = y_nwb sm (sm 361 (y_sc A B j)) := fun j p w => by
    have b := bi j p w
    obtain ⟨c1, c2, c3, c4⟩ := cr j p w
    obtain ⟨v1, v2, v3, v4⟩ := w331 j p (by omega)
    obtain ⟨x1, x2, x3, x4⟩ := y331 (y_sc A B j) b.1 (by omega)
    exact ⟨by rw [v2, c2, x2], x3, by rw [v3, c3]⟩
  have nu7 : ∀ j : Int, 0 ≤ j → j < n → s2 346 j = 7 → s2 361 j = sm 7657 (sm 361 (y_sc A B j)) ∧ 0 ≤ s2 361 j ∧ s2 361 j < so := fun j p w k => by
    have b := bi j p w
    obtain ⟨k1, k2, k3⟩ := kp j p w
    have y := xf _ b.1 b.2 (k1.symm.trans k)
    have e : s2 361 j = sm 7657 (sm 361 (y_sc A B j)) := by rw [k3]; exact if_neg (by omega)
    have r := cn.2.1 j p w (by omega)
    exact ⟨e, by omega, by omega⟩
  have K : y_K2 (fun j => s2 346 j) (fun j => sm 361 (y_sc A B j)) (fun j => s2 361 j) (fun j => g 12 (y_sc A B j)) (fun b => sm 391 b) (fun k => sm 404 k) bo n so := by
    refine ⟨fun j p w => ?_, fun i j p w v i7 j7 => ?_, fun i j m p w v u e1 e2 => ?_, fun k p w => ?_⟩
    · have b := bi j p w
      obtain ⟨k1, k2, k3⟩ := kp j p w
      rcases sg _ b.1 b.2 with ⟨y1, y2⟩ | ⟨y1, y2, y3⟩
      · have y := xf _ b.1 b.2 y1
        have r := nu7 j p w (k1.trans y1)
        refine Or.inl ⟨k1.trans y1, by show 0 ≤ sm 361 _; omega, ?_, y2, r.2.1, r.2.2⟩
        show g 12 _ = sm 391 (sm 361 _)
        rw [k2, m391 _ y.1 (by omega)]; exact y.2.2.1
      · exact Or.inr ⟨fun r => y1 (k1.symm.trans r), y2⟩
    · have bI := bi i p (by omega)
      have bJ := bi j (by omega) v
      have nI := nu7 i p (by omega) i7
      have nJ := nu7 j (by omega) v j7
      have kI := kp i p (by omega)
      have kJ := kp j (by omega) v
      have yI := xf _ bI.1 bI.2 (kI.1.symm.trans i7)
      have yJ := xf _ bJ.1 bJ.2 (kJ.1.symm.trans j7)
      refine ⟨?_, fun lt => ?_, fun eq => ?_⟩
      · exact wf.mono bI.1 (Int.le_of_lt (y_sc_lt u1 w)) (by omega) (by omega)
      · show s2 361 i < s2 361 j
        have r := cn.2.2 i j p w v (by omega) lt
        omega
      · show s2 361 i = s2 361 j
        have eq' : sm 361 (y_sc A B i) = sm 361 (y_sc A B j) := eq
        rw [nI.1, nJ.1, eq']
    · have bI := bi i p (by omega)
      have bJ := bi j (by omega) u
      exact x.2.2.1 (y_sc A B i) (y_sc A B j) (y_sc A B m) bI.1 (y_sc_lt u1 w) (y_sc_lt u1 v) bJ.2 e1 e2
    · obtain ⟨w1, w2, w3, w4⟩ := q.2 k p w
      refine ⟨?_, w4⟩
      rcases cs (bo k) w1.1 w1.2 with r | ⟨j, r1, r2, r3⟩
      · omega
      · have b := bi j r1 r2
        obtain ⟨k1, k2, k3⟩ := kp j r1 r2
        refine ⟨j, r1, r2, ?_, r3, ?_⟩
        · show s2 346 j = 7
          rw [k1]
          rcases sg _ b.1 b.2 with ⟨y1, y2⟩ | ⟨y1, y2, y3⟩
          · exact y1
          · omega
        · show s2 361 j = k
          rw [k3, r3]
          unfold y_nwb
          rw [if_neg (by omega)]
          exact w2
  have cg : ∀ j : Int, 0 ≤ j → j < n → g' 12 j = if s2 346 j = 7 then sm 404 (s2 361 j) else -1 := fun j p w => by
    have r := K.rn j.toNat (by omega)
    have dj := (d4 j.toNat (by omega)).2.2.1
    rw [show ((j.toNat : Nat) : Int) = j by omega] at r dj
    rw [dj]; exact r
  have en : s2 (316 + 0) 0 = n := by show s2 316 0 = n; omega
  have eg : y_gt s2 0 = if so ≤ 0 then 0 else sm 404 (so - 1) + 1 := by
    have q0 := q.1
    show (if s2 316 1 = 0 then 0 else s2 391 (s2 316 1 - 1) + 1) = _
    rw [f2', e1]
    by_cases y : so ≤ 0
    · rw [if_pos (by omega), if_pos y]
    · rw [if_neg (by omega), if_neg y, g391 _ (by omega) (by omega)]
  unfold y_XT
  rw [en]
  refine ⟨fun j p w k lt => ?_, ?_, ?_, ?_, ?_⟩
  · have b := bi j p w
    obtain ⟨k1, k2, k3⟩ := kp j p w
    have k' : s2 346 j = 7 := k
    have r := nu7 j p w k'
    have y := xf _ b.1 b.2 (k1.symm.trans k')
    refine ⟨r.2.1, ?_, fun hd => ?_⟩
    · show g' 12 j = s2 391 (s2 361 j)
      rw [cg j p w, if_pos k', g391 _ r.2.1 (by omega)]
    · have dj := d4 j.toNat (by omega)
      rw [show ((j.toNat : Nat) : Int) = j by omega] at dj
      have hd' : g' 14 j = 1 := hd
      rw [dj.2.2.2.1] at hd'
      have y2 := y.2.2.2 hd'
      have el : ∀ b : Int, (fun b => s2 (407 + 201 * 0 + b)) b = s2 (407 + b) := fun b => by show s2 (407 + 201 * 0 + b) = _; rw [show (407 + 201 * 0 + b : Int) = 407 + b by omega]
      show g' 16 j % 16 = (fun b => s2 (407 + 201 * 0 + b)) (s2 361 j) 0 ∧ g' 18 j % 16 = (fun b => s2 (407 + 201 * 0 + b)) (s2 361 j) 10 ∧ 1 ≤ (fun b => s2 (407 + 201 * 0 + b)) (s2 361 j) 0
      rw [el]
      have l1 := l391 (s2 361 j) r.2.1 r.2.2
      have eb : sm 361 (y_sc A B j) = bo (s2 361 j) := K.b p w k'
      have l2 := (q.2 (s2 361 j) r.2.1 r.2.2).2.2.1
      rw [← eb, k2] at l2
      have l3 := ml (s0 361 (y_sc A B j)) y.1 y.2.1
      rw [dj.2.2.2.2.1, dj.2.2.2.2.2, l1.1, l1.2, l2.1, l2.2, l3.1, l3.2]
      exact y2
  · have t := K.tot (by omega)
    rw [eg]
    show g' 6 7 = _
    rw [d3, show g 6 6 - (B - A) = n by omega]
    exact t
  · exact K.ct cg
  · exact K.cb cg eg
  · refine ⟨by rw [d2]; exact x.2.2.2.2.1, fun j p w => ?_⟩
    have b := bi j p w
    have dj := (d4 j.toNat (by omega)).2.1
    rw [show ((j.toNat : Nat) : Int) = j by omega] at dj
    show 0 ≤ g' 10 j ∧ g' 10 j ≤ 3
    rw [dj]
    exact x.2.2.2.2.2 (y_sc A B j) b.1 b.2
