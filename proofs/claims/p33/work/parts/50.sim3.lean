/-! READING, 3: the class's draft (in a ghost g) against the reference's (in s) -/
/-- the kind of a sign by its code -/
def y_ki (c : Int) : Int := if y_big c then 0 else if y_sml c then 1 else if 48 ≤ c ∧ c ≤ 57 then 2 else if c = 46 ∨ c = 44 then 3 else if c = 40 then 4 else if c = 41 then 5 else if c = 32 then 6 else -1
theorem y_ki_cases (c : Int) : (y_ki c = 0 ∧ y_big c) ∨ (1 ≤ y_ki c ∧ y_ki c ≤ 6 ∧ ¬ y_big c ∧ y_alo c) ∨ (y_ki c = -1 ∧ ¬ y_big c ∧ ¬ y_alo c) := by
  unfold y_ki y_alo y_sml y_big
  by_cases h1 : 65 ≤ c ∧ c ≤ 90
  · rw [if_pos h1]; omega
  · rw [if_neg h1]
    by_cases h2 : 97 ≤ c ∧ c ≤ 122
    · rw [if_pos h2]; omega
    · rw [if_neg h2]
      by_cases h3 : 48 ≤ c ∧ c ≤ 57
      · rw [if_pos h3]; omega
      · rw [if_neg h3]
        by_cases h4 : c = 46 ∨ c = 44
        · rw [if_pos h4]; omega
        · rw [if_neg h4]
          by_cases h5 : c = 40
          · rw [if_pos h5]; omega
          · rw [if_neg h5]
            by_cases h6 : c = 41
            · rw [if_pos h6]; omega
            · rw [if_neg h6]
              by_cases h7 : c = 32
              · rw [if_pos h7]; omega
              · rw [if_neg h7]; omega
/-- the first sign of a base, in the reference's text t -/
def y_bs (s : z_M) (t i : Int) : Prop := i = 0 ∨ s (346 + t) (i - 1) ≠ 7 ∨ s (361 + t) (i - 1) ≠ s (361 + t) i
/-- no sign ahead of it has its base, or a later one -/
def y_bb (s : z_M) (t i : Int) : Prop := ∀ j : Int, 0 ≤ j → j < i → s (361 + t) j < s (361 + t) i
/-- one sign: code, marks, group, head of the class; text t, place i of the reference -/
def y_sg (c m gr h : Int) (s : z_M) (t i : Int) : Prop := c = s (331 + t) i ∧ m = s (376 + t) i ∧
  ((s (346 + t) i = 7 ∧ gr ≠ -1 ∧ y_big c ∧ ((h = 1 ∧ y_bs s t i ∧ y_bb s t i) ∨ (h = 0 ∧ ¬ y_bs s t i))) ∨ (s (346 + t) i = y_ki c ∧ 0 ≤ y_ki c ∧ gr = -1 ∧ h = 0 ∧ s (361 + t) i = -1))
/-- the class's text k in g against the reference's text t in s, bases below bb -/
def y_TX (g : z_M) (k : Int) (s : z_M) (t bb : Int) : Prop := g k 6 = s (316 + t) 0 ∧ g k 8 = s (316 + t) 2 ∧ 0 ≤ g k 7 ∧
  ∀ i : Int, 0 ≤ i → i < s (316 + t) 0 → s (361 + t) i < bb ∧ y_sg (g (k + 2) i) (g (k + 4) i) (g (k + 6) i) (g (k + 8) i) s t i
theorem y_bs.cg {s s' : z_M} {t i : Int} (k1 : ∀ b, b ≤ i → s' (346 + t) b = s (346 + t) b) (k2 : ∀ b, b ≤ i → s' (361 + t) b = s (361 + t) b) : y_bs s' t i ↔ y_bs s t i := by
  unfold y_bs
  rw [k1 _ (by omega), k2 _ (by omega), k2 i (Int.le_refl i)]
theorem y_bb.cg {s s' : z_M} {t i : Int} (k2 : ∀ b, b ≤ i → s' (361 + t) b = s (361 + t) b) : y_bb s' t i ↔ y_bb s t i := by
  unfold y_bb
  rw [k2 i (Int.le_refl i)]
  exact ⟨fun h j a b => by rw [← k2 j (by omega)]; exact h j a b, fun h j a b => by rw [k2 j (by omega)]; exact h j a b⟩
theorem y_sg.cg {s s' : z_M} {c m gr h t i : Int} (k0 : ∀ b, b ≤ i → s' (331 + t) b = s (331 + t) b) (k1 : ∀ b, b ≤ i → s' (346 + t) b = s (346 + t) b) (k2 : ∀ b, b ≤ i → s' (361 + t) b = s (361 + t) b) (k3 : ∀ b, b ≤ i → s' (376 + t) b = s (376 + t) b) (q : y_sg c m gr h s t i) : y_sg c m gr h s' t i := by
  unfold y_sg at *
  rw [k0 i (Int.le_refl i), k1 i (Int.le_refl i), k3 i (Int.le_refl i), y_bs.cg k1 k2, y_bb.cg k2, k2 i (Int.le_refl i)]
  exact q
/-- the reference's text of s' is that of s with a sign more -/
def y_MA (s s' : z_M) (kd bs : Int) : Prop := s' 329 0 = s 329 0 + 1 ∧ s' 329 1 = s 329 1 ∧ s' 329 2 = s 329 2 ∧ s 329 0 < 200 ∧
  s' 344 (s 329 0) = s 311 (s 309 4) ∧ s' 359 (s 329 0) = kd ∧ s' 374 (s 329 0) = bs ∧ s' 389 (s 329 0) = (if kd = 0 ∨ kd = 7 then s 329 2 else 0) ∧
  ∀ i : Int, i < s 329 0 → s' 344 i = s 344 i ∧ s' 359 i = s 359 i ∧ s' 374 i = s 374 i ∧ s' 389 i = s 389 i
/-- the class's draft of g' is that of g with a sign more -/
theorem y_add_v {g : z_M} {code grp hd mk : Int} (h : 0 ≤ g 19 6 ∧ g 19 6 < 200) : y_add g code grp hd mk 19 6 = g 19 6 + 1 ∧ y_add g code grp hd mk 19 7 = g 19 7 ∧ y_add g code grp hd mk 19 8 = g 19 8 ∧
    (∀ b, y_add g code grp hd mk 32 b = g 32 b) ∧ y_add g code grp hd mk 21 (g 19 6) = code ∧ y_add g code grp hd mk 23 (g 19 6) = mk ∧ y_add g code grp hd mk 25 (g 19 6) = grp ∧ y_add g code grp hd mk 27 (g 19 6) = hd ∧
    ∀ i : Int, i ≠ g 19 6 → y_add g code grp hd mk 21 i = g 21 i ∧ y_add g code grp hd mk 23 i = g 23 i ∧ y_add g code grp hd mk 25 i = g 25 i ∧ y_add g code grp hd mk 27 i = g 27 i := by
  have l0 : z_ln 20 = 200 := by decide +kernel
  have l1 : z_ln 22 = 200 := by decide +kernel
  have l2 : z_ln 24 = 200 := by decide +kernel
  have l3 : z_ln 26 = 200 := by decide +kernel
  have e : y_add g code grp hd mk = z_up (z_rp (z_rp (z_up (z_up (z_up (z_up g 21 (g 19 6) code) 23 (g 19 6) mk) 25 (g 19 6) grp) 27 (g 19 6) hd) 28 (g 19 6) 0) 30 (g 19 6) 0) 19 6 (z_w (g 19 6 + 1)) := by
    unfold y_add
    rw [z_rp_in (k := 20) ⟨h.1, by rw [l0]; omega⟩, gr20, z_rp_in (k := 22) ⟨h.1, by rw [l1]; omega⟩, gr22, z_rp_in (k := 24) ⟨h.1, by rw [l2]; omega⟩, gr24, z_rp_in (k := 26) ⟨h.1, by rw [l3]; omega⟩, gr26]
  have o : ∀ a b, a ≠ 19 → a ≠ 29 → a ≠ 31 → y_add g code grp hd mk a b = z_up (z_up (z_up (z_up g 21 (g 19 6) code) 23 (g 19 6) mk) 25 (g 19 6) grp) 27 (g 19 6) hd a b := fun a b p q r => by
    rw [e, z_up_k p, y_rp_o gr30 r, y_rp_o gr28 q]
  refine ⟨by rw [e, z_up_s]; exact z_wid (by unfold z_I; omega), ?_, ?_, ?_, ?_, ?_, ?_, ?_, fun i hi => ⟨?_, ?_, ?_, ?_⟩⟩
  · rw [e, z_up_j (by decide), y_rp_o gr30 (by decide), y_rp_o gr28 (by decide), z_up_k (by decide), z_up_k (by decide), z_up_k (by decide), z_up_k (by decide)]
  · rw [e, z_up_j (by decide), y_rp_o gr30 (by decide), y_rp_o gr28 (by decide), z_up_k (by decide), z_up_k (by decide), z_up_k (by decide), z_up_k (by decide)]
  · intro b
    rw [o _ _ (by decide) (by decide) (by decide), z_up_k (by decide), z_up_k (by decide), z_up_k (by decide), z_up_k (by decide)]
  · rw [o _ _ (by decide) (by decide) (by decide), z_up_k (by decide), z_up_k (by decide), z_up_k (by decide), z_up_s]
  · rw [o _ _ (by decide) (by decide) (by decide), z_up_k (by decide), z_up_k (by decide), z_up_s]
  · rw [o _ _ (by decide) (by decide) (by decide), z_up_k (by decide), z_up_s]
  · rw [o _ _ (by decide) (by decide) (by decide), z_up_s]
  · rw [o _ _ (by decide) (by decide) (by decide), z_up_k (by decide), z_up_k (by decide), z_up_k (by decide), z_up_j hi]
  · rw [o _ _ (by decide) (by decide) (by decide), z_up_k (by decide), z_up_k (by decide), z_up_j hi, z_up_k (by decide)]
  · rw [o _ _ (by decide) (by decide) (by decide), z_up_k (by decide), z_up_j hi, z_up_k (by decide), z_up_k (by decide)]
  · rw [o _ _ (by decide) (by decide) (by decide), z_up_j hi, z_up_k (by decide), z_up_k (by decide), z_up_k (by decide)]
/-- a sign more on both sides -/
theorem y_TX.add {g s s' : z_M} {bb bb' code grp hd mk kd bs : Int} (h : y_TX g 19 s 13 bb) (c : z_CI s) (m : y_MA s s' kd bs) (hb : bb ≤ bb') (h1 : bs < bb') (hc : code = s 311 (s 309 4)) (hm : mk = if kd = 0 ∨ kd = 7 then s 329 2 else 0)
    (hk : (kd = 7 ∧ grp ≠ -1 ∧ y_big code ∧ ((hd = 1 ∧ y_bs s' 13 (s 329 0) ∧ bb ≤ bs) ∨ (hd = 0 ∧ ¬ y_bs s' 13 (s 329 0)))) ∨ (kd = y_ki code ∧ 0 ≤ y_ki code ∧ grp = -1 ∧ hd = 0 ∧ bs = -1)) : y_TX (y_add g code grp hd mk) 19 s' 13 bb' := by
  have e1 : (316 + 13 : Int) = 329 := by decide
  have e2 : (331 + 13 : Int) = 344 := by decide
  have e3 : (346 + 13 : Int) = 359 := by decide
  have e4 : (361 + 13 : Int) = 374 := by decide
  have e5 : (376 + 13 : Int) = 389 := by decide
  have f1 : (19 + 2 : Int) = 21 := by decide
  have f2 : (19 + 4 : Int) = 23 := by decide
  have f3 : (19 + 6 : Int) = 25 := by decide
  have f4 : (19 + 8 : Int) = 27 := by decide
  have w := CI_b c (k := 329) (j := 0) bd_329_0
  obtain ⟨a1, a2, a3, a4⟩ := h
  rw [e1] at a1 a2 a4
  obtain ⟨m0, m1, m2, m3, m4, m5, m6, m7, m8⟩ := m
  have v := y_add_v (g := g) (code := code) (grp := grp) (hd := hd) (mk := mk) ⟨by omega, by omega⟩
  obtain ⟨v1, v2, v3, v4, v5, v6, v7, v8, v9⟩ := v
  refine ⟨by rw [e1, v1, m0, a1], by rw [e1, v3, m2]; exact a2, by rw [v2]; exact a3, fun i hi hj => ?_⟩
  rw [e1, m0] at hj
  rw [e4, f1, f2, f3, f4]
  by_cases q : i = s 329 0
  · subst q
    rw [← a1, v5, v6, v7, v8, a1]
    refine ⟨by rw [m6]; exact h1, ?_, ?_, ?_⟩
    · rw [e2, m4]; exact hc
    · rw [e5, m7]; exact hm
    · rw [e3, m5, e4, m6]
      rcases hk with ⟨q1, q2, q3, q4⟩ | q
      · refine Or.inl ⟨q1, q2, q3, ?_⟩
        rcases q4 with ⟨w1, w2, w3⟩ | w
        · refine Or.inl ⟨w1, w2, fun j x1 x2 => ?_⟩
          have z := (a4 j x1 x2).1
          rw [e4] at z ⊢
          rw [m6, (m8 j x2).2.2.1]; omega
        · exact Or.inr w
      · exact Or.inr q
  · obtain ⟨b1, b2⟩ := a4 i hi (by omega)
    rw [e4] at b1
    rw [f1, f2, f3, f4] at b2
    obtain ⟨x1, x2, x3, x4⟩ := v9 i (by omega)
    rw [x1, x2, x3, x4, (m8 i (by omega)).2.2.1]
    refine ⟨by omega, y_sg.cg (fun b hb => ?_) (fun b hb => ?_) (fun b hb => ?_) (fun b hb => ?_) b2⟩
    · rw [e2]; exact (m8 b (by omega)).1
    · rw [e3]; exact (m8 b (by omega)).2.1
    · rw [e4]; exact (m8 b (by omega)).2.2.1
    · rw [e5]; exact (m8 b (by omega)).2.2.2
