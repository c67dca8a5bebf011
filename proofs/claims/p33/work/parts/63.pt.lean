/-! UNITS, pure: a sign and its unit -/
theorem y_PT.mem {st K f z k u : Int → Int} {c : Int} {n : Nat} (h : y_PT st K f z k u c n) (h01 : y_01 st) (s0 : st 0 = 1) : ∀ j : Nat, j < n → (0 ≤ u j ∧ u j < c) ∧ f (u j) ≤ j ∧ (j : Int) < f (u j) + z (u j) := by
  intro j hj
  have hu := h.2.2.1 j hj
  have c1 : y_cn st 1 = 1 := by
    show y_cn st 0 + st ((0 : Nat) : Int) = 1
    rw [show st ((0 : Nat) : Int) = 1 from s0]; rfl
  have m1 := y_cn_mono h01 (m := 1) (j + 1) (by omega)
  have m2 := y_cn_mono h01 (m := j + 1) n (by omega)
  have hc := h.1
  have b : 0 ≤ u j ∧ u j < c := by omega
  obtain ⟨a, x1, x2, x3, x4, _⟩ := h.at h01 b.1 b.2
  obtain ⟨e, y1, y2, y3, y4, y5⟩ := h.to h01 b.1 b.2
  refine ⟨b, ?_, ?_⟩
  · by_cases q : a ≤ j
    · omega
    · have := y_cn_mono h01 (m := j + 1) a (by omega)
      omega
  · by_cases q : j < e
    · omega
    · have := y_cn_mono h01 (m := e) j (by omega)
      rcases y4 with y4 | y4
      · omega
      · have e1 := y_cn_s y4
        have := y_cn_mono h01 (m := e + 1) (j + 1) (by omega)
        omega
theorem y_PT.of {st K f z k u : Int → Int} {c : Int} {n : Nat} (h : y_PT st K f z k u c n) (h01 : y_01 st) {v : Int} (h0 : 0 ≤ v) (h1 : v < c) {j : Nat} (p : f v ≤ j) (q : (j : Int) < f v + z v) : j < n ∧ u j = v := by
  obtain ⟨a, x1, x2, x3, x4, _⟩ := h.at h01 h0 h1
  obtain ⟨e, y1, y2, y3, y4, y5⟩ := h.to h01 h0 h1
  have hj : j < n := by omega
  refine ⟨hj, ?_⟩
  have hu := h.2.2.1 j hj
  have m1 := y_cn_mono h01 (m := a + 1) (j + 1) (by omega)
  have m2 := y_cn_mono h01 (m := j + 1) e (by omega)
  rw [y_cn_s x2] at m1
  omega
/-- what stays the same within a unit -/
theorem y_PT.inv {st K f z k u B : Int → Int} {c : Int} {n : Nat} (h : y_PT st K f z k u c n) (h01 : y_01 st) (s0 : st 0 = 1) (hB : ∀ j : Nat, j + 1 < n → st ((j + 1 : Nat) : Int) = 0 → B ((j + 1 : Nat) : Int) = B j) : ∀ j : Nat, j < n → B (f (u j)) = B j := by
  intro j
  induction j with
  | zero =>
    intro hj
    have m := h.mem h01 s0 0 hj
    have b := h.at h01 m.1.1 m.1.2
    obtain ⟨a, x1, x2, x3, x4, _⟩ := b
    rw [show f (u ((0 : Nat) : Int)) = ((0 : Nat) : Int) by omega]
  | succ j ih =>
    intro hj
    have hu := h.2.2.1 (j + 1) hj
    rcases h01 ((j + 1 : Nat) : Int) with q | q
    · have e : u ((j + 1 : Nat) : Int) = u j := by
        rw [hu, h.2.2.1 j (by omega)]
        show y_cn st (j + 1) + st ((j + 1 : Nat) : Int) - 1 = _
        omega
      rw [e, ih (by omega), hB j hj q]
    · have e : u ((j + 1 : Nat) : Int) = y_cn st (j + 1) := by
        rw [hu]
        show y_cn st (j + 1) + st ((j + 1 : Nat) : Int) - 1 = _
        omega
      rw [e, (h.2.1 (j + 1) hj q).1]
theorem y_PT.kd {st K f z k u : Int → Int} {c : Int} {n : Nat} (h : y_PT st K f z k u c n) (h01 : y_01 st) (s0 : st 0 = 1) (hB : ∀ j : Nat, j + 1 < n → st ((j + 1 : Nat) : Int) = 0 → K ((j + 1 : Nat) : Int) = K j) {j : Nat} (hj : j < n) : k (u j) = K j := by
  have m := h.mem h01 s0 j hj
  obtain ⟨a, x1, x2, x3, x4, x5⟩ := h.at h01 m.1.1 m.1.2
  have i := h.inv h01 s0 hB j hj
  rw [x5, ← x4, i]
/-- of the reference -/
theorem y_sS0 {s : z_M} : y_sS s 0 = 1 := by unfold y_sS; rw [if_pos (Int.le_refl 0)]
theorem y_sS_k {s : z_M} (j : Nat) (h : y_sS s ((j + 1 : Nat) : Int) = 0) : s 346 ((j + 1 : Nat) : Int) = s 346 j ∨ (s 346 ((j + 1 : Nat) : Int) = 7 ∧ s 361 ((j + 1 : Nat) : Int) = s 361 j) := by
  unfold y_sS y_one at h
  rw [show ((j + 1 : Nat) : Int) - 1 = j by omega] at h
  rw [if_neg (by omega)] at h
  by_cases q : s 346 ((j + 1 : Nat) : Int) = 1 ∨ s 346 ((j + 1 : Nat) : Int) = 2
  · rw [if_pos q] at h
    by_cases q2 : s 346 ((j + 1 : Nat) : Int) = s 346 j
    · exact Or.inl q2
    · rw [if_neg q2] at h; omega
  · rw [if_neg q] at h
    by_cases q2 : s 346 ((j + 1 : Nat) : Int) = 7 ∧ s 361 ((j + 1 : Nat) : Int) = s 361 j
    · exact Or.inr q2
    · rw [if_neg q2] at h; omega
/-- a sign of a base: the sign before it of the same base is one, too -/
def y_BS (s : z_M) : Prop := ∀ i : Int, 0 ≤ i → i < s 316 0 → (s 346 i = 7 ∧ 0 ≤ s 361 i) ∨ (s 346 i ≠ 7 ∧ s 361 i = -1)
theorem y_TX.BS {g s : z_M} {bb : Int} (h : y_TX g 6 s 0 bb) (x : y_XT g 6 s 0) (hb : bb = s 316 1) : y_BS s := fun i h0 h1 => by
  obtain ⟨lt, _, _, q⟩ := h.at0 h0 h1
  rw [show (346 + 0 : Int) = 346 by decide, show (361 + 0 : Int) = 361 by decide] at q
  rcases q with ⟨q1, _⟩ | ⟨q1, q2, _, _, q5⟩
  · refine Or.inl ⟨q1, ?_⟩
    have := x.1 i h0 h1 q1 (by rw [hb] at lt; exact lt)
    exact this.1
  · refine Or.inr ⟨fun z => ?_, q5⟩
    rw [z] at q1
    have w := y_ki_cases (g 8 i)
    rcases w with ⟨w, _⟩ | ⟨_, w, _⟩ | ⟨w, _⟩ <;> omega
theorem y_BS.k {s : z_M} (b : y_BS s) (j : Nat) (hj : ((j + 1 : Nat) : Int) < s 316 0) (h : y_sS s ((j + 1 : Nat) : Int) = 0) : s 346 ((j + 1 : Nat) : Int) = s 346 j ∧ s 361 ((j + 1 : Nat) : Int) = s 361 j := by
  have b1 := b ((j + 1 : Nat) : Int) (by omega) hj
  have b0 := b j (by omega) (by omega)
  have k := y_sS_k j h
  unfold y_sS y_one at h
  rw [show ((j + 1 : Nat) : Int) - 1 = j by omega, if_neg (by omega)] at h
  rcases k with k | ⟨k1, k2⟩
  · refine ⟨k, ?_⟩
    by_cases q : s 346 ((j + 1 : Nat) : Int) = 1 ∨ s 346 ((j + 1 : Nat) : Int) = 2
    · omega
    · rw [if_neg q] at h
      by_cases q2 : s 346 ((j + 1 : Nat) : Int) = 7 ∧ s 361 ((j + 1 : Nat) : Int) = s 361 j
      · exact q2.2
      · rw [if_neg q2] at h; omega
  · exact ⟨by omega, k2⟩
/-- the reference's units: a sign, its unit, what they share -/
theorem y_PU.of0 {s : z_M} (p : y_PU s) (b : y_BS s) {i : Int} (h0 : 0 ≤ i) (h1 : i < s 316 0) : (0 ≤ s 3223 i ∧ s 3223 i < s 309 20) ∧ s 3221 (s 3223 i) ≤ i ∧ i < s 3221 (s 3223 i) + s 3222 (s 3223 i) ∧ s 3220 (s 3223 i) = s 346 i ∧ s 346 (s 3221 (s 3223 i)) = s 346 i ∧ s 361 (s 3221 (s 3223 i)) = s 361 i := by
  obtain ⟨pn, pt⟩ := p
  obtain ⟨j, rfl⟩ : ∃ j : Nat, i = j := ⟨i.toNat, by omega⟩
  have hj : j < (s 316 0).toNat := by omega
  have m := pt.mem y_sS_01 y_sS0 j hj
  have k := pt.kd y_sS_01 y_sS0 (fun j hj h => (b.k j (by omega) h).1) hj
  have k2 := pt.inv (B := s 346) y_sS_01 y_sS0 (fun j hj h => (b.k j (by omega) h).1) j hj
  have k3 := pt.inv (B := s 361) y_sS_01 y_sS0 (fun j hj h => (b.k j (by omega) h).2) j hj
  exact ⟨m.1, m.2.1, m.2.2, k, k2, k3⟩
theorem y_PU.in0 {s : z_M} (p : y_PU s) {v i : Int} (h0 : 0 ≤ v) (h1 : v < s 309 20) (a : s 3221 v ≤ i) (c : i < s 3221 v + s 3222 v) : 0 ≤ i ∧ i < s 316 0 ∧ s 3223 i = v := by
  obtain ⟨pn, pt⟩ := p
  obtain ⟨q, _, _, _, q4, _⟩ := pt.at y_sS_01 h0 h1
  obtain ⟨j, rfl⟩ : ∃ j : Nat, i = j := ⟨i.toNat, by omega⟩
  have m := pt.of y_sS_01 h0 h1 a c
  exact ⟨by omega, by omega, m.2⟩
/-- a unit: its first sign, its size, its kind -/
theorem y_PU.un {s : z_M} (p : y_PU s) {v : Int} (h0 : 0 ≤ v) (h1 : v < s 309 20) : 0 ≤ s 3221 v ∧ 1 ≤ s 3222 v ∧ s 3221 v + s 3222 v ≤ s 316 0 ∧ s 3220 v = s 346 (s 3221 v) ∧ y_sS s (s 3221 v) = 1 := by
  obtain ⟨pn, pt⟩ := p
  obtain ⟨q, q1, q2, _, q4, q5⟩ := pt.at y_sS_01 h0 h1
  obtain ⟨m, w1, w2, w3, _, _⟩ := pt.to y_sS_01 h0 h1
  exact ⟨by omega, by omega, by omega, by rw [q5, q4], by rw [q4]; exact q2⟩
