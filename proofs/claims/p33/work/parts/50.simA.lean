/-! The class's texts: copies -/
/-- a Text object, its rows -/
def y_tx (k : Int) : Prop := z_ob k 9 ∧ (z_gr k 0 = k + 1 ∧ z_gr k 1 = k + 3 ∧ z_gr k 2 = k + 5 ∧ z_gr k 3 = k + 7 ∧ z_gr k 4 = k + 9 ∧ z_gr k 5 = k + 11) ∧
  (z_rw (k + 1) ∧ z_gr (k + 1) 0 = k + 2 ∧ z_ln (k + 1) = 200) ∧ (z_rw (k + 3) ∧ z_gr (k + 3) 0 = k + 4 ∧ z_ln (k + 3) = 200) ∧ (z_rw (k + 5) ∧ z_gr (k + 5) 0 = k + 6 ∧ z_ln (k + 5) = 200) ∧ (z_rw (k + 7) ∧ z_gr (k + 7) 0 = k + 8 ∧ z_ln (k + 7) = 200) ∧
  (z_lr (k + 9) ∧ z_gr (k + 9) 0 = k + 10 ∧ z_ln (k + 9) = 200) ∧ (z_lr (k + 11) ∧ z_gr (k + 11) 0 = k + 12 ∧ z_ln (k + 11) = 200)
/-- text k of s' is text k2 of s; all else is as it was -/
def y_TE (s s' : z_M) (k k2 : Int) : Prop := s' k 6 = s k2 6 ∧ s' k 7 = s k2 7 ∧ s' k 8 = s k2 8 ∧ ∀ i : Int, 0 ≤ i → i < s k2 6 → s' (k + 2) i = s (k2 + 2) i ∧ s' (k + 4) i = s (k2 + 4) i ∧ s' (k + 6) i = s (k2 + 6) i ∧ s' (k + 8) i = s (k2 + 8) i ∧ s' (k + 10) i = s (k2 + 10) i ∧ s' (k + 12) i = s (k2 + 12) i
def y_TC (s s' : z_M) (k k2 : Int) : Prop := y_TE s s' k k2 ∧ ∀ a b : Int, a < k ∨ k + 12 < a → s' a b = s a b
theorem z_cp_v {s : z_M} {k k2 n c c2 i : Int} (hc : z_gr k 0 = c) (hc2 : z_gr k2 0 = c2) (l1 : z_ln k = 200) (l2 : z_ln k2 = 200) (h : 0 ≤ i ∧ i < n) (hn : n ≤ 200) : z_cp s k k2 n c i = s c2 i := by
  unfold z_cp
  rw [if_pos ⟨hc.symm, h.1, h.2, by rw [l1]; omega⟩, z_rg_in ⟨h.1, by rw [l2]; omega⟩, hc2]
theorem z_cp_o {s : z_M} {k k2 n c a b : Int} (hc : z_gr k 0 = c) (h : a ≠ c) : z_cp s k k2 n a b = s a b := if_neg (fun q => h (q.1.trans hc))
theorem e_cp9 {fu : Nat} (hfu : 8589934592 ≤ fu) {s : z_M} {k k2 : Int} (h : y_tx k) (h2 : y_tx k2) (hd : k + 12 < k2 ∨ k2 + 12 < k) (hn : 0 ≤ s k2 6 ∧ s k2 6 ≤ 200) : z_T (fX9_copyFrom fu s k k2) (fun v s' => v = vN ∧ y_TC s s' k k2) := by
  have hne : k2 ≠ k := by omega
  generalize hs3 : z_up (z_up (z_up s k 6 (s k2 6)) k 7 (s k2 7)) k 8 (s k2 8) = s3
  have o3 : ∀ a b, a ≠ k → s3 a b = s a b := fun a b q => by rw [← hs3, z_up_k q, z_up_k q, z_up_k q]
  have a6 : s3 k 6 = s k2 6 := by rw [← hs3, z_up_j (by decide), z_up_j (by decide), z_up_s]
  have a7 : s3 k 7 = s k2 7 := by rw [← hs3, z_up_j (by decide), z_up_s]
  have a8 : s3 k 8 = s k2 8 := by rw [← hs3, z_up_s]
  refine T_of (fX9_copyFrom.eq_1 ..) ?_
  refine T_if1 h2.1 ?_
  refine T_let (s k2 6) rfl ?_
  refine T_if1 h.1 ?_
  refine T_up ?_
  refine T_if1 h2.1 ?_
  refine T_let (s k2 7) (z_up_k hne) ?_
  refine T_if1 h.1 ?_
  refine T_up ?_
  refine T_if1 h2.1 ?_
  refine T_let (s k2 8) ((z_up_k hne).trans (z_up_k hne)) ?_
  refine T_if1 h.1 ?_
  refine T_up ?_
  rw [hs3]
  refine T_if1 h.1 ?_
  refine T_let (k + 1) h.2.1.1 ?_
  refine T_if1 h2.1 ?_
  refine T_let (k2 + 1) h2.2.1.1 ?_
  refine T_if1 h.1 ?_
  refine T_let (s k2 6) a6 ?_
  refine T_if1 h.2.2.1.1.1 ?_
  refine T_bN (T_of (e_copy hfu h.2.2.1.1 h2.2.2.1.1 (by rw [h.2.2.1.2.1, h2.2.2.1.2.1]; omega) (by omega)) (T_rN ?_))
  generalize hs4 : z_cp s3 (k + 1) (k2 + 1) (s k2 6) = s4
  have o4 : ∀ a b, a ≠ k + 2 → s4 a b = s3 a b := fun a b q => by rw [← hs4]; exact z_cp_o h.2.2.1.2.1 q
  have x4 : ∀ i, 0 ≤ i ∧ i < s k2 6 → s4 (k + 2) i = s3 (k2 + 2) i := fun i q => by rw [← hs4]; exact z_cp_v h.2.2.1.2.1 h2.2.2.1.2.1 h.2.2.1.2.2 h2.2.2.1.2.2 q hn.2
  refine T_if1 h.1 ?_
  refine T_let (k + 3) h.2.1.2.1 ?_
  refine T_if1 h2.1 ?_
  refine T_let (k2 + 3) h2.2.1.2.1 ?_
  refine T_if1 h.1 ?_
  refine T_let (s k2 6) (by rw [o4 _ _ (by omega)]; exact a6) ?_
  refine T_if1 h.2.2.2.1.1.1 ?_
  refine T_bN (T_of (e_copy hfu h.2.2.2.1.1 h2.2.2.2.1.1 (by rw [h.2.2.2.1.2.1, h2.2.2.2.1.2.1]; omega) (by omega)) (T_rN ?_))
  generalize hs5 : z_cp s4 (k + 3) (k2 + 3) (s k2 6) = s5
  have o5 : ∀ a b, a ≠ k + 4 → s5 a b = s4 a b := fun a b q => by rw [← hs5]; exact z_cp_o h.2.2.2.1.2.1 q
  have x5 : ∀ i, 0 ≤ i ∧ i < s k2 6 → s5 (k + 4) i = s4 (k2 + 4) i := fun i q => by rw [← hs5]; exact z_cp_v h.2.2.2.1.2.1 h2.2.2.2.1.2.1 h.2.2.2.1.2.2 h2.2.2.2.1.2.2 q hn.2
  refine T_if1 h.1 ?_
  refine T_let (k + 5) h.2.1.2.2.1 ?_
  refine T_if1 h2.1 ?_
  refine T_let (k2 + 5) h2.2.1.2.2.1 ?_
  refine T_if1 h.1 ?_
  refine T_let (s k2 6) (by rw [o5 _ _ (by omega), o4 _ _ (by omega)]; exact a6) ?_
  refine T_if1 h.2.2.2.2.1.1.1 ?_
  refine T_bN (T_of (e_copy hfu h.2.2.2.2.1.1 h2.2.2.2.2.1.1 (by rw [h.2.2.2.2.1.2.1, h2.2.2.2.2.1.2.1]; omega) (by omega)) (T_rN ?_))
  generalize hs6 : z_cp s5 (k + 5) (k2 + 5) (s k2 6) = s6
  have o6 : ∀ a b, a ≠ k + 6 → s6 a b = s5 a b := fun a b q => by rw [← hs6]; exact z_cp_o h.2.2.2.2.1.2.1 q
  have x6 : ∀ i, 0 ≤ i ∧ i < s k2 6 → s6 (k + 6) i = s5 (k2 + 6) i := fun i q => by rw [← hs6]; exact z_cp_v h.2.2.2.2.1.2.1 h2.2.2.2.2.1.2.1 h.2.2.2.2.1.2.2 h2.2.2.2.2.1.2.2 q hn.2
  refine T_if1 h.1 ?_
  refine T_let (k + 7) h.2.1.2.2.2.1 ?_
  refine T_if1 h2.1 ?_
  refine T_let (k2 + 7) h2.2.1.2.2.2.1 ?_
  refine T_if1 h.1 ?_
  refine T_let (s k2 6) (by rw [o6 _ _ (by omega), o5 _ _ (by omega), o4 _ _ (by omega)]; exact a6) ?_
  refine T_if1 h.2.2.2.2.2.1.1.1 ?_
  refine T_bN (T_of (e_copy hfu h.2.2.2.2.2.1.1 h2.2.2.2.2.2.1.1 (by rw [h.2.2.2.2.2.1.2.1, h2.2.2.2.2.2.1.2.1]; omega) (by omega)) (T_rN ?_))
  generalize hs7 : z_cp s6 (k + 7) (k2 + 7) (s k2 6) = s7
  have o7 : ∀ a b, a ≠ k + 8 → s7 a b = s6 a b := fun a b q => by rw [← hs7]; exact z_cp_o h.2.2.2.2.2.1.2.1 q
  have x7 : ∀ i, 0 ≤ i ∧ i < s k2 6 → s7 (k + 8) i = s6 (k2 + 8) i := fun i q => by rw [← hs7]; exact z_cp_v h.2.2.2.2.2.1.2.1 h2.2.2.2.2.2.1.2.1 h.2.2.2.2.2.1.2.2 h2.2.2.2.2.2.1.2.2 q hn.2
  have b6 : s7 k 6 = s k2 6 := by rw [o7 _ _ (by omega), o6 _ _ (by omega), o5 _ _ (by omega), o4 _ _ (by omega)]; exact a6
  refine T_if1 h.1 ?_
  refine T_let (k + 9) h.2.1.2.2.2.2.1 ?_
  refine T_if1 h2.1 ?_
  refine T_let (k2 + 9) h2.2.1.2.2.2.2.1 ?_
  refine T_if1 h.1 ?_
  refine T_let (s k2 6) b6 ?_
  refine T_if1 h.2.2.2.2.2.2.1.1.1 ?_
  refine T_bN (T_of (e_lcopy hfu h.2.2.2.2.2.2.1.1 h2.2.2.2.2.2.2.1.1 (by rw [h.2.2.2.2.2.2.1.2.1, h2.2.2.2.2.2.2.1.2.1]; omega) (by omega)) (T_rN ?_))
  generalize hs8 : z_cp s7 (k + 9) (k2 + 9) (s k2 6) = s8
  have x8 : ∀ i, 0 ≤ i ∧ i < s k2 6 → s8 (k + 10) i = s7 (k2 + 10) i := fun i q => by rw [← hs8]; exact z_cp_v h.2.2.2.2.2.2.1.2.1 h2.2.2.2.2.2.2.1.2.1 h.2.2.2.2.2.2.1.2.2 h2.2.2.2.2.2.2.1.2.2 q hn.2
  have o8 : ∀ a b, a ≠ k + 10 → s8 a b = s7 a b := fun a b q => by rw [← hs8]; exact z_cp_o h.2.2.2.2.2.2.1.2.1 q
  refine T_if1 h.1 ?_
  refine T_let (k + 11) h.2.1.2.2.2.2.2 ?_
  refine T_if1 h2.1 ?_
  refine T_let (k2 + 11) h2.2.1.2.2.2.2.2 ?_
  refine T_if1 h.1 ?_
  refine T_let (s k2 6) (by rw [o8 _ _ (by omega)]; exact b6) ?_
  refine T_if1 h.2.2.2.2.2.2.2.1.1 ?_
  refine T_bN (T_of (e_lcopy hfu h.2.2.2.2.2.2.2.1 h2.2.2.2.2.2.2.2.1 (by rw [h.2.2.2.2.2.2.2.2.1, h2.2.2.2.2.2.2.2.2.1]; omega) (by omega)) (T_rN ?_))
  generalize hs9 : z_cp s8 (k + 11) (k2 + 11) (s k2 6) = s9
  have x9 : ∀ i, 0 ≤ i ∧ i < s k2 6 → s9 (k + 12) i = s8 (k2 + 12) i := fun i q => by rw [← hs9]; exact z_cp_v h.2.2.2.2.2.2.2.2.1 h2.2.2.2.2.2.2.2.2.1 h.2.2.2.2.2.2.2.2.2 h2.2.2.2.2.2.2.2.2.2 q hn.2
  have o9 : ∀ a b, a ≠ k + 12 → s9 a b = s8 a b := fun a b q => by rw [← hs9]; exact z_cp_o h.2.2.2.2.2.2.2.2.1 q
  have oo : ∀ a b : Int, a ≠ k + 2 → a ≠ k + 4 → a ≠ k + 6 → a ≠ k + 8 → a ≠ k + 10 → a ≠ k + 12 → s9 a b = s3 a b := fun a b p1 p2 p3 p4 p5 p6 => by
    rw [o9 _ _ p6, o8 _ _ p5, o7 _ _ p4, o6 _ _ p3, o5 _ _ p2, o4 _ _ p1]
  refine T_ret ⟨rfl, ⟨?_, ?_, ?_, fun i p q => ⟨?_, ?_, ?_, ?_, ?_, ?_⟩⟩, fun a b p => ?_⟩
  · rw [oo _ _ (by omega) (by omega) (by omega) (by omega) (by omega) (by omega)]; exact a6
  · rw [oo _ _ (by omega) (by omega) (by omega) (by omega) (by omega) (by omega)]; exact a7
  · rw [oo _ _ (by omega) (by omega) (by omega) (by omega) (by omega) (by omega)]; exact a8
  · rw [o9 _ _ (by omega), o8 _ _ (by omega), o7 _ _ (by omega), o6 _ _ (by omega), o5 _ _ (by omega), x4 i ⟨p, q⟩, o3 _ _ (by omega)]
  · rw [o9 _ _ (by omega), o8 _ _ (by omega), o7 _ _ (by omega), o6 _ _ (by omega), x5 i ⟨p, q⟩, o4 _ _ (by omega), o3 _ _ (by omega)]
  · rw [o9 _ _ (by omega), o8 _ _ (by omega), o7 _ _ (by omega), x6 i ⟨p, q⟩, o5 _ _ (by omega), o4 _ _ (by omega), o3 _ _ (by omega)]
  · rw [o9 _ _ (by omega), o8 _ _ (by omega), x7 i ⟨p, q⟩, o6 _ _ (by omega), o5 _ _ (by omega), o4 _ _ (by omega), o3 _ _ (by omega)]
  · rw [o9 _ _ (by omega), x8 i ⟨p, q⟩, o7 _ _ (by omega), o6 _ _ (by omega), o5 _ _ (by omega), o4 _ _ (by omega), o3 _ _ (by omega)]
  · rw [x9 i ⟨p, q⟩, o8 _ _ (by omega), o7 _ _ (by omega), o6 _ _ (by omega), o5 _ _ (by omega), o4 _ _ (by omega), o3 _ _ (by omega)]
  · rw [oo _ _ (by omega) (by omega) (by omega) (by omega) (by omega) (by omega)]; exact o3 _ _ (by omega)
theorem y_TX.tc {s s' m : z_M} {k k2 t bb : Int} (h : y_TX s k2 m t bb) (c : y_TE s s' k k2) : y_TX s' k m t bb := by
  obtain ⟨a1, a2, a3, a4⟩ := h
  obtain ⟨c1, c2, c3, c4⟩ := c
  refine ⟨c1.trans a1, c3.trans a2, by rw [c2]; exact a3, fun i p q => ?_⟩
  obtain ⟨x1, x2, x3, x4, _⟩ := c4 i p (by omega)
  rw [x1, x2, x3, x4]
  exact a4 i p q
theorem y_TX.to {s s' m : z_M} {k k2 k3 t bb : Int} (h : y_TX s k3 m t bb) (c : y_TC s s' k k2) (hk : k3 + 12 < k ∨ k + 12 < k3) : y_TX s' k3 m t bb := by
  obtain ⟨a1, a2, a3, a4⟩ := h
  have o := c.2
  refine ⟨by rw [o _ _ (by omega)]; exact a1, by rw [o _ _ (by omega)]; exact a2, by rw [o _ _ (by omega)]; exact a3, fun i p q => ?_⟩
  rw [o _ _ (by omega), o _ _ (by omega), o _ _ (by omega), o _ _ (by omega)]
  exact a4 i p q
theorem tx6 : y_tx 6 := ⟨by decide +kernel, ⟨by decide +kernel, by decide +kernel, by decide +kernel, by decide +kernel, by decide +kernel, by decide +kernel⟩, ⟨by decide +kernel, by decide +kernel, by decide +kernel⟩, ⟨by decide +kernel, by decide +kernel, by decide +kernel⟩, ⟨by decide +kernel, by decide +kernel, by decide +kernel⟩, ⟨by decide +kernel, by decide +kernel, by decide +kernel⟩, ⟨by decide +kernel, by decide +kernel, by decide +kernel⟩, ⟨by decide +kernel, by decide +kernel, by decide +kernel⟩⟩
theorem tx19 : y_tx 19 := ⟨by decide +kernel, ⟨by decide +kernel, by decide +kernel, by decide +kernel, by decide +kernel, by decide +kernel, by decide +kernel⟩, ⟨by decide +kernel, by decide +kernel, by decide +kernel⟩, ⟨by decide +kernel, by decide +kernel, by decide +kernel⟩, ⟨by decide +kernel, by decide +kernel, by decide +kernel⟩, ⟨by decide +kernel, by decide +kernel, by decide +kernel⟩, ⟨by decide +kernel, by decide +kernel, by decide +kernel⟩, ⟨by decide +kernel, by decide +kernel, by decide +kernel⟩⟩
theorem txh0 : y_tx 35 := ⟨by decide +kernel, ⟨by decide +kernel, by decide +kernel, by decide +kernel, by decide +kernel, by decide +kernel, by decide +kernel⟩, ⟨by decide +kernel, by decide +kernel, by decide +kernel⟩, ⟨by decide +kernel, by decide +kernel, by decide +kernel⟩, ⟨by decide +kernel, by decide +kernel, by decide +kernel⟩, ⟨by decide +kernel, by decide +kernel, by decide +kernel⟩, ⟨by decide +kernel, by decide +kernel, by decide +kernel⟩, ⟨by decide +kernel, by decide +kernel, by decide +kernel⟩⟩
theorem txh1 : y_tx 48 := ⟨by decide +kernel, ⟨by decide +kernel, by decide +kernel, by decide +kernel, by decide +kernel, by decide +kernel, by decide +kernel⟩, ⟨by decide +kernel, by decide +kernel, by decide +kernel⟩, ⟨by decide +kernel, by decide +kernel, by decide +kernel⟩, ⟨by decide +kernel, by decide +kernel, by decide +kernel⟩, ⟨by decide +kernel, by decide +kernel, by decide +kernel⟩, ⟨by decide +kernel, by decide +kernel, by decide +kernel⟩, ⟨by decide +kernel, by decide +kernel, by decide +kernel⟩⟩
theorem txh2 : y_tx 61 := ⟨by decide +kernel, ⟨by decide +kernel, by decide +kernel, by decide +kernel, by decide +kernel, by decide +kernel, by decide +kernel⟩, ⟨by decide +kernel, by decide +kernel, by decide +kernel⟩, ⟨by decide +kernel, by decide +kernel, by decide +kernel⟩, ⟨by decide +kernel, by decide +kernel, by decide +kernel⟩, ⟨by decide +kernel, by decide +kernel, by decide +kernel⟩, ⟨by decide +kernel, by decide +kernel, by decide +kernel⟩, ⟨by decide +kernel, by decide +kernel, by decide +kernel⟩⟩
theorem txh3 : y_tx 74 := ⟨by decide +kernel, ⟨by decide +kernel, by decide +kernel, by decide +kernel, by decide +kernel, by decide +kernel, by decide +kernel⟩, ⟨by decide +kernel, by decide +kernel, by decide +kernel⟩, ⟨by decide +kernel, by decide +kernel, by decide +kernel⟩, ⟨by decide +kernel, by decide +kernel, by decide +kernel⟩, ⟨by decide +kernel, by decide +kernel, by decide +kernel⟩, ⟨by decide +kernel, by decide +kernel, by decide +kernel⟩, ⟨by decide +kernel, by decide +kernel, by decide +kernel⟩⟩
theorem txh4 : y_tx 87 := ⟨by decide +kernel, ⟨by decide +kernel, by decide +kernel, by decide +kernel, by decide +kernel, by decide +kernel, by decide +kernel⟩, ⟨by decide +kernel, by decide +kernel, by decide +kernel⟩, ⟨by decide +kernel, by decide +kernel, by decide +kernel⟩, ⟨by decide +kernel, by decide +kernel, by decide +kernel⟩, ⟨by decide +kernel, by decide +kernel, by decide +kernel⟩, ⟨by decide +kernel, by decide +kernel, by decide +kernel⟩, ⟨by decide +kernel, by decide +kernel, by decide +kernel⟩⟩
theorem txh5 : y_tx 100 := ⟨by decide +kernel, ⟨by decide +kernel, by decide +kernel, by decide +kernel, by decide +kernel, by decide +kernel, by decide +kernel⟩, ⟨by decide +kernel, by decide +kernel, by decide +kernel⟩, ⟨by decide +kernel, by decide +kernel, by decide +kernel⟩, ⟨by decide +kernel, by decide +kernel, by decide +kernel⟩, ⟨by decide +kernel, by decide +kernel, by decide +kernel⟩, ⟨by decide +kernel, by decide +kernel, by decide +kernel⟩, ⟨by decide +kernel, by decide +kernel, by decide +kernel⟩⟩
theorem txh6 : y_tx 113 := ⟨by decide +kernel, ⟨by decide +kernel, by decide +kernel, by decide +kernel, by decide +kernel, by decide +kernel, by decide +kernel⟩, ⟨by decide +kernel, by decide +kernel, by decide +kernel⟩, ⟨by decide +kernel, by decide +kernel, by decide +kernel⟩, ⟨by decide +kernel, by decide +kernel, by decide +kernel⟩, ⟨by decide +kernel, by decide +kernel, by decide +kernel⟩, ⟨by decide +kernel, by decide +kernel, by decide +kernel⟩, ⟨by decide +kernel, by decide +kernel, by decide +kernel⟩⟩
theorem txh7 : y_tx 126 := ⟨by decide +kernel, ⟨by decide +kernel, by decide +kernel, by decide +kernel, by decide +kernel, by decide +kernel, by decide +kernel⟩, ⟨by decide +kernel, by decide +kernel, by decide +kernel⟩, ⟨by decide +kernel, by decide +kernel, by decide +kernel⟩, ⟨by decide +kernel, by decide +kernel, by decide +kernel⟩, ⟨by decide +kernel, by decide +kernel, by decide +kernel⟩, ⟨by decide +kernel, by decide +kernel, by decide +kernel⟩, ⟨by decide +kernel, by decide +kernel, by decide +kernel⟩⟩
theorem txh8 : y_tx 139 := ⟨by decide +kernel, ⟨by decide +kernel, by decide +kernel, by decide +kernel, by decide +kernel, by decide +kernel, by decide +kernel⟩, ⟨by decide +kernel, by decide +kernel, by decide +kernel⟩, ⟨by decide +kernel, by decide +kernel, by decide +kernel⟩, ⟨by decide +kernel, by decide +kernel, by decide +kernel⟩, ⟨by decide +kernel, by decide +kernel, by decide +kernel⟩, ⟨by decide +kernel, by decide +kernel, by decide +kernel⟩, ⟨by decide +kernel, by decide +kernel, by decide +kernel⟩⟩
theorem txh9 : y_tx 152 := ⟨by decide +kernel, ⟨by decide +kernel, by decide +kernel, by decide +kernel, by decide +kernel, by decide +kernel, by decide +kernel⟩, ⟨by decide +kernel, by decide +kernel, by decide +kernel⟩, ⟨by decide +kernel, by decide +kernel, by decide +kernel⟩, ⟨by decide +kernel, by decide +kernel, by decide +kernel⟩, ⟨by decide +kernel, by decide +kernel, by decide +kernel⟩, ⟨by decide +kernel, by decide +kernel, by decide +kernel⟩, ⟨by decide +kernel, by decide +kernel, by decide +kernel⟩⟩
theorem txh10 : y_tx 165 := ⟨by decide +kernel, ⟨by decide +kernel, by decide +kernel, by decide +kernel, by decide +kernel, by decide +kernel, by decide +kernel⟩, ⟨by decide +kernel, by decide +kernel, by decide +kernel⟩, ⟨by decide +kernel, by decide +kernel, by decide +kernel⟩, ⟨by decide +kernel, by decide +kernel, by decide +kernel⟩, ⟨by decide +kernel, by decide +kernel, by decide +kernel⟩, ⟨by decide +kernel, by decide +kernel, by decide +kernel⟩, ⟨by decide +kernel, by decide +kernel, by decide +kernel⟩⟩
theorem txh11 : y_tx 178 := ⟨by decide +kernel, ⟨by decide +kernel, by decide +kernel, by decide +kernel, by decide +kernel, by decide +kernel, by decide +kernel⟩, ⟨by decide +kernel, by decide +kernel, by decide +kernel⟩, ⟨by decide +kernel, by decide +kernel, by decide +kernel⟩, ⟨by decide +kernel, by decide +kernel, by decide +kernel⟩, ⟨by decide +kernel, by decide +kernel, by decide +kernel⟩, ⟨by decide +kernel, by decide +kernel, by decide +kernel⟩, ⟨by decide +kernel, by decide +kernel, by decide +kernel⟩⟩
theorem y_CT.cg {cg cg' : Int → Int} {n : Int} (h : y_CT cg n) (e : ∀ i : Int, 0 ≤ i → i < n → cg' i = cg i) : y_CT cg' n := fun i j m h1 h2 h3 h4 h5 h6 => by
  rw [e i h1 (by omega)] at h5 h6 ⊢
  rw [e j (by omega) h4] at h5
  rw [e m (by omega) (by omega)]
  exact h i j m h1 h2 h3 h4 h5 h6
theorem y_CLB.cg {cg cg' : Int → Int} {n c : Int} (h : y_CLB cg n c) (e : ∀ i : Int, 0 ≤ i → i < n → cg' i = cg i) : y_CLB cg' n c := fun i h1 h2 => by
  rw [e i h1 h2]; exact h i h1 h2
theorem y_XT.tc {s s' m : z_M} {k k2 t : Int} (h : y_XT s k2 m t) (c : y_TE s s' k k2) (hn : s k2 6 = m (316 + t) 0) : y_XT s' k m t := by
  obtain ⟨c1, c2, c3, c4⟩ := c
  rw [hn] at c4
  refine ⟨?_, by rw [c2]; exact h.2.1, h.2.2.1.cg (fun i a b => (c4 i a b).2.2.1), h.2.2.2.1.cg (fun i a b => (c4 i a b).2.2.1), by rw [c3]; exact h.2.2.2.2.1, fun i a b => by rw [(c4 i a b).2.1]; exact h.2.2.2.2.2 i a b⟩
  exact y_XF.cg h.1 rfl (Int.le_refl _) (fun i a b => ⟨rfl, rfl, (c4 i a b).2.2.1, (c4 i a b).2.2.2.1, (c4 i a b).2.2.2.2.1, (c4 i a b).2.2.2.2.2⟩) (fun b _ _ => ⟨rfl, rfl, rfl⟩)
