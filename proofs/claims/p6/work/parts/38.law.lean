/-! BETWEEN TWO CALLS (by program, wip/tool/mklawsafe.py) -/
def y_MI (s : z_M) : Prop := y_TA s ∧ y_DD s ∧ y_B s ∧ y_K s
theorem y_MI.fr {s s' : z_M} (h : y_MI s) (c : z_CI s) (g : ∀ a b : Int, 309 ≤ a → a ≤ 7657 → s' a b = s a b) : y_MI s' := by
  have b58 := CI_b c (k := 309) (j := 58) bd_309_58
  refine ⟨h.1.fr (fun a b q => g a b (by omega) (by omega)) (fun a b q => g a b (by omega) (by omega)) (fun a b q => g a b (by omega) (by omega)), h.2.1.fr (g _ _ (by decide) (by decide)) (g _ _ (by decide) (by decide)) (fun b => g _ b (by decide) (by decide)) (fun b => g _ b (by decide) (by decide)), y_B.fr h.2.2.1 (g _ _ (by decide) (by decide)) (g _ _ (by decide) (by decide)) (fun b => g _ b (by decide) (by decide)) (fun b => g _ b (by decide) (by decide)) (fun b => g _ b (by decide) (by decide)) (fun b => g _ b (by decide) (by decide)), ?_⟩
  have e36 := g 309 36 (by decide) (by decide)
  have e43 := g 309 43 (by decide) (by decide)
  exact y_K.fr h.2.2.2 b58.2 (by omega) (g _ _ (by decide) (by decide)) (g _ _ (by decide) (by decide)) (g _ _ (by decide) (by decide)) (fun b => g _ b (by decide) (by decide)) (fun b => g _ b (by decide) (by decide)) (fun a b q => g a b (by omega) (by omega))
def y_L0 (s : z_M) : Prop := z_CI s ∧ z_V16 s ∧ y_MI s
theorem y_V16m {s s' : z_M} (h : z_V16 s) (g : ∀ a b : Int, a ≤ 308 → s' a b = s a b) : z_V16 s' := z_V16.fr h (g _ _ (by decide)) (g _ _ (by decide)) (g _ _ (by decide)) (fun b => g _ b (by decide)) (fun b => g _ b (by decide))
theorem bd_out : z_bd 7658 0 = (-9223372036854775808, 9223372036854775807) := by decide +kernel
theorem y_L0.out {s : z_M} (h : y_L0 s) {x : Int} (b : -9223372036854775808 ≤ x ∧ x ≤ 9223372036854775807) : y_L0 (z_up s 7658 0 x) :=
  ⟨CI_up h.1 bd_out b, y_V16m h.2.1 (fun a b q => z_up_k (by omega)), h.2.2.fr h.1 (fun a b p q => z_up_k (by omega))⟩
section ZC
variable {P : z_V → z_M → Prop} {s : z_M} {x : Int} {f : Int → z_M → z_O} {h0 h1 : z_M → z_O}
theorem T_vcI (h : z_T (f x s) P) : z_T (z_cI (some (vI x, s)) f h0 h1) P := h
theorem T_vcL (h : z_T (f x s) P) : z_T (z_cL (some (vL x, s)) f h0 h1) P := h
theorem T_v0I (h : z_T (h0 s) P) : z_T (z_cI (some (vX 0, s)) f h0 h1) P := by
  show z_T (if (0 : Int) = 0 then h0 s else if (0 : Int) = 1 then h1 s else none) P
  rw [if_pos rfl]; exact h
theorem T_v1I (h : z_T (h1 s) P) : z_T (z_cI (some (vX 1, s)) f h0 h1) P := by
  show z_T (if (1 : Int) = 0 then h0 s else if (1 : Int) = 1 then h1 s else none) P
  rw [if_neg (by decide), if_pos rfl]; exact h
theorem T_v0L (h : z_T (h0 s) P) : z_T (z_cL (some (vX 0, s)) f h0 h1) P := by
  show z_T (if (0 : Int) = 0 then h0 s else if (0 : Int) = 1 then h1 s else none) P
  rw [if_pos rfl]; exact h
theorem T_v1L (h : z_T (h1 s) P) : z_T (z_cL (some (vX 1, s)) f h0 h1) P := by
  show z_T (if (1 : Int) = 0 then h0 s else if (1 : Int) = 1 then h1 s else none) P
  rw [if_neg (by decide), if_pos rfl]; exact h
end ZC
def y_I6 (s : z_M) : Prop := ∀ j : Int, s 3 j = s 312 j ∧ s 313 j = z_s0 313 j ∧ s 314 j = z_s0 314 j
theorem y_I6.step {s s1 s2 : z_M} (h : y_I6 s) (c3 : ∀ j : Int, s1 3 j = s 3 j) (cf : ∀ a b : Int, 309 ≤ a → a ≤ 7657 → s1 a b = s a b) (m3 : ∀ a b : Int, a ≤ 308 ∨ a = 7658 ∨ a = 313 ∨ a = 314 → s2 a b = s1 a b) (m12 : ∀ j : Int, s2 312 j = s1 312 j) : y_I6 s2 := fun j => by
  rw [m3 3 j (Or.inl (by decide)), c3, m12, cf 312 j (by decide) (by decide), m3 313 j (by omega), cf 313 j (by decide) (by decide), m3 314 j (by omega), cf 314 j (by decide) (by decide)]
  exact h j
theorem y_tb {i : Int} (h : 0 ≤ i ∧ i ≤ 8) : z_s0 313 i = z_tb 0 i.toNat ∧ z_s0 314 i = z_tb 1 i.toNat := by
  rcases (show i = 0 ∨ i = 1 ∨ i = 2 ∨ i = 3 ∨ i = 4 ∨ i = 5 ∨ i = 6 ∨ i = 7 ∨ i = 8 by omega) with rfl | rfl | rfl | rfl | rfl | rfl | rfl | rfl | rfl <;> decide +kernel
theorem y_I6.rg {s s1 : z_M} (h : y_I6 s) (cf : ∀ a b : Int, 309 ≤ a → a ≤ 7657 → s1 a b = s a b) {i v : Int} : y_RG s1 i v ↔ y_CG i v := by
  unfold y_RG y_CG
  rw [cf 313 i (by decide) (by decide), cf 314 i (by decide) (by decide), (h i).2.1, (h i).2.2]
  constructor
  · rintro ⟨a, b, c, d⟩
    rw [(y_tb ⟨a, b⟩).1] at c
    rw [(y_tb ⟨a, b⟩).2] at d
    exact ⟨a, b, c, d⟩
  · rintro ⟨a, b, c, d⟩
    rw [(y_tb ⟨a, b⟩).1, (y_tb ⟨a, b⟩).2]
    exact ⟨a, b, c, d⟩
theorem y_I6.set {s s1 s2 : z_M} (h : y_I6 s) {i v x y : Int} (cf : ∀ a b : Int, 309 ≤ a → a ≤ 7657 → s1 a b = s a b) (hc : (x = 0 ∧ y_CG i v ∧ s1 7658 0 = s 3 i ∧ s1 3 i = v ∧ ∀ j : Int, j ≠ i → s1 3 j = s 3 j) ∨ (x = 1 ∧ ¬ y_CG i v ∧ ∀ j : Int, s1 3 j = s 3 j)) (m3 : ∀ a b : Int, a ≤ 308 ∨ a = 7658 ∨ a = 313 ∨ a = 314 → s2 a b = s1 a b) (hm : y_MS s1 s2 i v y) : y_I6 s2 ∧ s2 309 0 = x ∧ (x = 0 → s2 7658 0 = y) := by
  have k3 : ∀ j : Int, s2 313 j = z_s0 313 j ∧ s2 314 j = z_s0 314 j := fun j => by
    rw [m3 313 j (by omega), cf 313 j (by decide) (by decide), m3 314 j (by omega), cf 314 j (by decide) (by decide)]
    exact (h j).2
  rcases hc with ⟨hx, hg, ho, hi, hj⟩ | ⟨hx, hg, hj⟩
  · rcases hm with ⟨_, h0, e1, e2, e3⟩ | ⟨hn, _, _⟩
    · refine ⟨fun j => ⟨?_, k3 j⟩, by rw [h0, hx], fun _ => ?_⟩
      · rw [m3 3 j (Or.inl (by decide))]
        by_cases q : j = i
        · subst q; rw [hi, e2]
        · rw [hj j q, e3 j q, cf 312 j (by decide) (by decide)]; exact (h j).1
      · rw [m3 7658 0 (by omega), ho, e1, cf 312 i (by decide) (by decide)]; exact (h i).1
    · exact absurd (h.rg cf |>.mpr hg) hn
  · rcases hm with ⟨hn, _, _⟩ | ⟨_, h0, e3⟩
    · exact absurd (h.rg cf |>.mp hn) hg
    · refine ⟨fun j => ⟨?_, k3 j⟩, by rw [h0, hx], fun q => by omega⟩
      rw [m3 3 j (Or.inl (by decide)), hj j, e3 j, cf 312 j (by decide) (by decide)]; exact (h j).1
theorem L_feed {fu : Nat} (hfu : 8589934592 ≤ fu) {s : z_M} (h : y_L0 s) (p1 : Int) (p2 : Int) (p3 : Int) (p4 : Int) (p5 : Int) (b1 : -2147483648 ≤ p1 ∧ p1 ≤ 2147483647) (b2 : -2147483648 ≤ p2 ∧ p2 ≤ 2147483647) (b3 : -2147483648 ≤ p3 ∧ p3 ≤ 2147483647) (b4 : -2147483648 ≤ p4 ∧ p4 ≤ 2147483647) (b5 : -2147483648 ≤ p5 ∧ p5 ≤ 2147483647) : z_T (fX11_feed fu s 1 p1 p2 p3 p4 p5) (fun v s' => ∃ x, v = vI x ∧ y_L0 s' ∧ (∀ a b : Int, 309 ≤ a → a ≤ 7657 → s' a b = s a b) ∧ (∀ j : Int, s' 3 j = s 3 j)) := by
  refine T_mono (sf_X11_feed_1 hfu s h.1 p1 p2 p3 p4 p5 b1 b2 b3 b4 b5 h.2.1) (fun v s' hq => ?_)
  obtain ⟨c, f, hv, x, rfl, q1, q2⟩ := hq
  have cf : (∀ a b : Int, 309 ≤ a → a ≤ 7657 → s' a b = s a b) := fun a b q _ => f a b (by first | exact not_false | (unfold R_X11_feed_1; omega))
  have hl : y_L0 s' := ⟨c, hv, h.2.2.fr h.1 cf⟩
  have h3 : ∀ j : Int, s' 3 j = s 3 j := fun j => f 3 j (by first | exact not_false | (unfold R_X11_feed_1; omega))
  exact ⟨x, rfl, hl, cf, h3⟩
theorem M_feed {fu : Nat} (hfu : 8589934592 ≤ fu) {s : z_M} (h : y_L0 s) (p1 : Int) (p2 : Int) (p3 : Int) (p4 : Int) (p5 : Int) (b1 : -2147483648 ≤ p1 ∧ p1 ≤ 2147483647) (b2 : -2147483648 ≤ p2 ∧ p2 ≤ 2147483647) (b3 : -2147483648 ≤ p3 ∧ p3 ≤ 2147483647) (b4 : -2147483648 ≤ p4 ∧ p4 ≤ 2147483647) (b5 : -2147483648 ≤ p5 ∧ p5 ≤ 2147483647) : z_T (fX12_feed fu s 309 p1 p2 p3 p4 p5) (fun v s' => ∃ x, v = vI x ∧ y_L0 s' ∧ (∀ a b : Int, a ≤ 308 ∨ a = 7658 ∨ a = 313 ∨ a = 314 → s' a b = s a b) ∧ (∀ j : Int, s' 312 j = s 312 j)) := by
  refine T_mono (sf_X12_feed_309 hfu s h.1 p1 p2 p3 p4 p5 b1 b2 b3 b4 b5 h.2.2.1 h.2.2.2.1 h.2.2.2.2.1 h.2.2.2.2.2) (fun v s' hq => ?_)
  obtain ⟨c, f, hA, hD, hB, hK, x, rfl, q1, q2, tp⟩ := hq
  have hm : ∀ a b : Int, a ≤ 308 ∨ a = 7658 ∨ a = 313 ∨ a = 314 → s' a b = s a b := fun a b q => f a b (by first | exact not_false | (unfold R_X12_feed_309; omega))
  have hS : ∀ j : Int, s' 312 j = s 312 j := fun j => f 312 j (by first | exact not_false | (unfold R_X12_feed_309; omega))
  exact ⟨x, rfl, ⟨c, y_V16m h.2.1 (fun a b q => hm a b (Or.inl q)), hA, hD, hB, hK⟩, hm, hS⟩
theorem L_text {fu : Nat} (hfu : 8589934592 ≤ fu) {s : z_M} (h : y_L0 s) (p1 : Int) (b1 : -2147483648 ≤ p1 ∧ p1 ≤ 2147483647) : z_T (fL_text fu s 1 p1 7658) (fun v s' => ∃ x, v = vI x ∧ y_L0 s' ∧ (∀ a b : Int, 309 ≤ a → a ≤ 7657 → s' a b = s a b) ∧ (∀ j : Int, s' 3 j = s 3 j)) := by
  refine T_of (fL_text.eq_1 ..) ?_
  refine T_if1 (by decide +kernel) ?_
  refine T_cI (T_mono (sf_X11_text_1 hfu s h.1 p1 b1 h.2.1) (fun v s' hq => ?_))
  obtain ⟨c, f, hv, tp, hq⟩ := hq
  have cf : (∀ a b : Int, 309 ≤ a → a ≤ 7657 → s' a b = s a b) := fun a b q _ => f a b (by first | exact not_false | (unfold R_X11_text_1; omega))
  have hl : y_L0 s' := ⟨c, hv, h.2.2.fr h.1 cf⟩
  have h3 : ∀ j : Int, s' 3 j = s 3 j := fun j => f 3 j (by first | exact not_false | (unfold R_X11_text_1; omega))
  rcases hq with ⟨x, rfl, q1, q2⟩ | rfl
  · refine T_vcI ?_
    refine T_if1 (by decide +kernel) ?_
    refine T_up ?_
    exact T_ret ⟨_, rfl, hl.out (by omega), fun a b p q => by rw [z_up_k (by omega)]; exact cf a b p q, fun j => by rw [z_up_k (by decide)]; exact h3 j⟩
  · refine T_v1I ?_
    exact T_ret ⟨_, rfl, hl, cf, h3⟩
theorem M_text {fu : Nat} (hfu : 8589934592 ≤ fu) {s : z_M} (h : y_L0 s) (p1 : Int) (b1 : -2147483648 ≤ p1 ∧ p1 ≤ 2147483647) : z_T (fX12_text fu s 309 p1) (fun v s' => ∃ x, v = vI x ∧ y_L0 s' ∧ (∀ a b : Int, a ≤ 308 ∨ a = 7658 ∨ a = 313 ∨ a = 314 → s' a b = s a b) ∧ (∀ j : Int, s' 312 j = s 312 j)) := by
  refine T_mono (sf_X12_text_309 hfu s h.1 p1 b1 h.2.2.2.1 h.2.2.1 h.2.2.2.2.1 h.2.2.2.2.2) (fun v s' hq => ?_)
  obtain ⟨c, f, hD, tp, hA, hB, hK, x, rfl, q1, q2⟩ := hq
  have hm : ∀ a b : Int, a ≤ 308 ∨ a = 7658 ∨ a = 313 ∨ a = 314 → s' a b = s a b := fun a b q => f a b (by first | exact not_false | (unfold R_X12_text_309; omega))
  have hS : ∀ j : Int, s' 312 j = s 312 j := fun j => f 312 j (by first | exact not_false | (unfold R_X12_text_309; omega))
  exact ⟨x, rfl, ⟨c, y_V16m h.2.1 (fun a b q => hm a b (Or.inl q)), hA, hD, hB, hK⟩, hm, hS⟩
theorem L_more {fu : Nat} (hfu : 8589934592 ≤ fu) {s : z_M} (h : y_L0 s) (p1 : Int) (b1 : -2147483648 ≤ p1 ∧ p1 ≤ 2147483647) : z_T (fL_more fu s 1 p1 7658) (fun v s' => ∃ x, v = vI x ∧ y_L0 s' ∧ (∀ a b : Int, 309 ≤ a → a ≤ 7657 → s' a b = s a b) ∧ (∀ j : Int, s' 3 j = s 3 j)) := by
  refine T_of (fL_more.eq_1 ..) ?_
  refine T_if1 (by decide +kernel) ?_
  refine T_cI (T_mono (sf_X11_more_1 hfu s h.1 p1 b1 h.2.1) (fun v s' hq => ?_))
  obtain ⟨c, f, hv, tp, hq⟩ := hq
  have cf : (∀ a b : Int, 309 ≤ a → a ≤ 7657 → s' a b = s a b) := fun a b q _ => f a b (by first | exact not_false | (unfold R_X11_more_1; omega))
  have hl : y_L0 s' := ⟨c, hv, h.2.2.fr h.1 cf⟩
  have h3 : ∀ j : Int, s' 3 j = s 3 j := fun j => f 3 j (by first | exact not_false | (unfold R_X11_more_1; omega))
  rcases hq with ⟨x, rfl, q1, q2⟩ | rfl
  · refine T_vcI ?_
    refine T_if1 (by decide +kernel) ?_
    refine T_up ?_
    exact T_ret ⟨_, rfl, hl.out (by omega), fun a b p q => by rw [z_up_k (by omega)]; exact cf a b p q, fun j => by rw [z_up_k (by decide)]; exact h3 j⟩
  · refine T_v1I ?_
    exact T_ret ⟨_, rfl, hl, cf, h3⟩
theorem M_more {fu : Nat} (hfu : 8589934592 ≤ fu) {s : z_M} (h : y_L0 s) (p1 : Int) (b1 : -2147483648 ≤ p1 ∧ p1 ≤ 2147483647) : z_T (fX12_more_ fu s 309 p1) (fun v s' => ∃ x, v = vI x ∧ y_L0 s' ∧ (∀ a b : Int, a ≤ 308 ∨ a = 7658 ∨ a = 313 ∨ a = 314 → s' a b = s a b) ∧ (∀ j : Int, s' 312 j = s 312 j)) := by
  refine T_mono (sf_X12_more__309 hfu s h.1 p1 b1 h.2.2.2.1 h.2.2.1 h.2.2.2.2.1 h.2.2.2.2.2) (fun v s' hq => ?_)
  obtain ⟨c, f, hD, tp, hA, hB, hK, x, rfl, q1, q2⟩ := hq
  have hm : ∀ a b : Int, a ≤ 308 ∨ a = 7658 ∨ a = 313 ∨ a = 314 → s' a b = s a b := fun a b q => f a b (by first | exact not_false | (unfold R_X12_more__309; omega))
  have hS : ∀ j : Int, s' 312 j = s 312 j := fun j => f 312 j (by first | exact not_false | (unfold R_X12_more__309; omega))
  exact ⟨x, rfl, ⟨c, y_V16m h.2.1 (fun a b q => hm a b (Or.inl q)), hA, hD, hB, hK⟩, hm, hS⟩
theorem L_fault {fu : Nat} (hfu : 8589934592 ≤ fu) {s : z_M} (h : y_L0 s) : z_T (fX11_fault fu s 1) (fun v s' => ∃ x, v = vI x ∧ y_L0 s' ∧ (∀ a b : Int, 309 ≤ a → a ≤ 7657 → s' a b = s a b) ∧ (∀ j : Int, s' 3 j = s 3 j)) := by
  refine T_mono (sf_X11_fault_1 hfu s h.1 h.2.1) (fun v s' hq => ?_)
  obtain ⟨c, f, hv, x, rfl, q1, q2⟩ := hq
  have cf : (∀ a b : Int, 309 ≤ a → a ≤ 7657 → s' a b = s a b) := fun a b q _ => f a b (by first | exact not_false | (unfold R_X11_fault_1; omega))
  have hl : y_L0 s' := ⟨c, hv, h.2.2.fr h.1 cf⟩
  have h3 : ∀ j : Int, s' 3 j = s 3 j := fun j => f 3 j (by first | exact not_false | (unfold R_X11_fault_1; omega))
  exact ⟨x, rfl, hl, cf, h3⟩
theorem M_fault {fu : Nat} (hfu : 8589934592 ≤ fu) {s : z_M} (h : y_L0 s) : z_T (fX12_fault fu s 309) (fun v s' => ∃ x, v = vI x ∧ y_L0 s' ∧ (∀ a b : Int, a ≤ 308 ∨ a = 7658 ∨ a = 313 ∨ a = 314 → s' a b = s a b) ∧ (∀ j : Int, s' 312 j = s 312 j)) := by
  refine T_mono (sf_X12_fault_309 hfu s h.1 h.2.2.1 h.2.2.2.1 h.2.2.2.2.1 h.2.2.2.2.2) (fun v s' hq => ?_)
  obtain ⟨c, f, hA, hD, hB, hK, x, rfl, q1, q2⟩ := hq
  have hm : ∀ a b : Int, a ≤ 308 ∨ a = 7658 ∨ a = 313 ∨ a = 314 → s' a b = s a b := fun a b q => f a b (by first | exact not_false | (unfold R_X12_fault_309; omega))
  have hS : ∀ j : Int, s' 312 j = s 312 j := fun j => f 312 j (by first | exact not_false | (unfold R_X12_fault_309; omega))
  exact ⟨x, rfl, ⟨c, y_V16m h.2.1 (fun a b q => hm a b (Or.inl q)), hA, hD, hB, hK⟩, hm, hS⟩
theorem L_set {fu : Nat} (hfu : 8589934592 ≤ fu) {s : z_M} (h : y_L0 s) (p1 : Int) (p2 : Int) (b1 : -2147483648 ≤ p1 ∧ p1 ≤ 2147483647) (b2 : -2147483648 ≤ p2 ∧ p2 ≤ 2147483647) : z_T (fL_set fu s 1 p1 p2 7658) (fun v s' => ∃ x, v = vI x ∧ y_L0 s' ∧ (∀ a b : Int, 309 ≤ a → a ≤ 7657 → s' a b = s a b) ∧ ((x = 0 ∧ y_CG p1 p2 ∧ s' 7658 0 = s 3 p1 ∧ s' 3 p1 = p2 ∧ ∀ j : Int, j ≠ p1 → s' 3 j = s 3 j) ∨ (x = 1 ∧ ¬ y_CG p1 p2 ∧ ∀ j : Int, s' 3 j = s 3 j))) := by
  refine T_of (fL_set.eq_1 ..) ?_
  refine T_if1 (by decide +kernel) ?_
  refine T_cI (T_mono (sf_X11_set_1T hfu s h.1 p1 p2 b1 b2 h.2.1) (fun v s' hq => ?_))
  obtain ⟨c, f, hv, hq⟩ := hq
  have cf : (∀ a b : Int, 309 ≤ a → a ≤ 7657 → s' a b = s a b) := fun a b q _ => f a b (by first | exact not_false | (unfold R_X11_set_1; omega))
  have hl : y_L0 s' := ⟨c, hv, h.2.2.fr h.1 cf⟩
  rcases hq with ⟨x, rfl, q1, q2, hs⟩ | ⟨rfl, hg, h3⟩
  · refine T_vcI ?_
    refine T_if1 (by decide +kernel) ?_
    refine T_up ?_
    exact T_ret ⟨_, rfl, hl.out (by omega), fun a b p q => by rw [z_up_k (by omega)]; exact cf a b p q, Or.inl ⟨rfl, hs.1, by rw [z_up_s]; exact hs.2.1, by rw [z_up_k (by decide)]; exact hs.2.2.1, fun j q => by rw [z_up_k (by decide)]; exact hs.2.2.2 j q⟩⟩
  · refine T_v1I ?_
    exact T_ret ⟨_, rfl, hl, cf, Or.inr ⟨rfl, hg, h3⟩⟩
theorem M_set {fu : Nat} (hfu : 8589934592 ≤ fu) {s : z_M} (h : y_L0 s) (p1 : Int) (p2 : Int) (b1 : -2147483648 ≤ p1 ∧ p1 ≤ 2147483647) (b2 : -2147483648 ≤ p2 ∧ p2 ≤ 2147483647) : z_T (fX12_set fu s 309 p1 p2) (fun v s' => ∃ x, v = vI x ∧ y_L0 s' ∧ (∀ a b : Int, a ≤ 308 ∨ a = 7658 ∨ a = 313 ∨ a = 314 → s' a b = s a b) ∧ (y_MS s s' p1 p2 x)) := by
  refine T_mono (sf_X12_set_309 hfu s h.1 p1 p2 b1 b2 h.2.2.1 h.2.2.2.1 h.2.2.2.2.1 h.2.2.2.2.2) (fun v s' hq => ?_)
  obtain ⟨c, f, hA, hD, hB, hK, x, rfl, q1, q2, hS⟩ := hq
  have hm : ∀ a b : Int, a ≤ 308 ∨ a = 7658 ∨ a = 313 ∨ a = 314 → s' a b = s a b := fun a b q => f a b (by first | exact not_false | (unfold R_X12_set_309; omega))
  exact ⟨x, rfl, ⟨c, y_V16m h.2.1 (fun a b q => hm a b (Or.inl q)), hA, hD, hB, hK⟩, hm, hS⟩
theorem L_cut {fu : Nat} (hfu : 8589934592 ≤ fu) {s : z_M} (h : y_L0 s) (p1 : Int) (p2 : Int) (b1 : -2147483648 ≤ p1 ∧ p1 ≤ 2147483647) (b2 : -2147483648 ≤ p2 ∧ p2 ≤ 2147483647) : z_T (fL_cut fu s 1 p1 p2 7658) (fun v s' => ∃ x, v = vI x ∧ y_L0 s' ∧ (∀ a b : Int, 309 ≤ a → a ≤ 7657 → s' a b = s a b) ∧ (∀ j : Int, s' 3 j = s 3 j)) := by
  refine T_of (fL_cut.eq_1 ..) ?_
  refine T_if1 (by decide +kernel) ?_
  refine T_cI (T_mono (sf_X11_cut_1 hfu s h.1 p1 p2 b1 b2 h.2.1) (fun v s' hq => ?_))
  obtain ⟨c, f, hv, hq⟩ := hq
  have cf : (∀ a b : Int, 309 ≤ a → a ≤ 7657 → s' a b = s a b) := fun a b q _ => f a b (by first | exact not_false | (unfold R_X11_cut_1; omega))
  have hl : y_L0 s' := ⟨c, hv, h.2.2.fr h.1 cf⟩
  have h3 : ∀ j : Int, s' 3 j = s 3 j := fun j => f 3 j (by first | exact not_false | (unfold R_X11_cut_1; omega))
  rcases hq with ⟨x, rfl, q1, q2⟩ | rfl | rfl
  · refine T_vcI ?_
    refine T_if1 (by decide +kernel) ?_
    refine T_up ?_
    exact T_ret ⟨_, rfl, hl.out (by omega), fun a b p q => by rw [z_up_k (by omega)]; exact cf a b p q, fun j => by rw [z_up_k (by decide)]; exact h3 j⟩
  · refine T_v0I ?_
    exact T_ret ⟨_, rfl, hl, cf, h3⟩
  · refine T_v1I ?_
    exact T_ret ⟨_, rfl, hl, cf, h3⟩
theorem M_cut {fu : Nat} (hfu : 8589934592 ≤ fu) {s : z_M} (h : y_L0 s) (p1 : Int) (p2 : Int) (b1 : -2147483648 ≤ p1 ∧ p1 ≤ 2147483647) (b2 : -2147483648 ≤ p2 ∧ p2 ≤ 2147483647) : z_T (fX12_cut fu s 309 p1 p2) (fun v s' => ∃ x, v = vI x ∧ y_L0 s' ∧ (∀ a b : Int, a ≤ 308 ∨ a = 7658 ∨ a = 313 ∨ a = 314 → s' a b = s a b) ∧ (∀ j : Int, s' 312 j = s 312 j)) := by
  refine T_mono (sf_X12_cut_309 hfu s h.1 p1 p2 b1 b2 h.2.2.1 h.2.2.2.1 h.2.2.2.2.1 h.2.2.2.2.2) (fun v s' hq => ?_)
  obtain ⟨c, f, hA, hD, hB, hK, x, rfl, q1, q2⟩ := hq
  have hm : ∀ a b : Int, a ≤ 308 ∨ a = 7658 ∨ a = 313 ∨ a = 314 → s' a b = s a b := fun a b q => f a b (by first | exact not_false | (unfold R_X12_cut_309; omega))
  have hS : ∀ j : Int, s' 312 j = s 312 j := fun j => f 312 j (by first | exact not_false | (unfold R_X12_cut_309; omega))
  exact ⟨x, rfl, ⟨c, y_V16m h.2.1 (fun a b q => hm a b (Or.inl q)), hA, hD, hB, hK⟩, hm, hS⟩
theorem L_undo {fu : Nat} (hfu : 8589934592 ≤ fu) {s : z_M} (h : y_L0 s) : z_T (fX11_undo fu s 1) (fun v s' => ∃ x, v = vI x ∧ y_L0 s' ∧ (∀ a b : Int, 309 ≤ a → a ≤ 7657 → s' a b = s a b) ∧ (∀ j : Int, s' 3 j = s 3 j)) := by
  refine T_mono (sf_X11_undo_1 hfu s h.1 h.2.1) (fun v s' hq => ?_)
  obtain ⟨c, f, hv, x, rfl, q1, q2⟩ := hq
  have cf : (∀ a b : Int, 309 ≤ a → a ≤ 7657 → s' a b = s a b) := fun a b q _ => f a b (by first | exact not_false | (unfold R_X11_undo_1; omega))
  have hl : y_L0 s' := ⟨c, hv, h.2.2.fr h.1 cf⟩
  have h3 : ∀ j : Int, s' 3 j = s 3 j := fun j => f 3 j (by first | exact not_false | (unfold R_X11_undo_1; omega))
  exact ⟨x, rfl, hl, cf, h3⟩
theorem M_undo {fu : Nat} (hfu : 8589934592 ≤ fu) {s : z_M} (h : y_L0 s) : z_T (fX12_undo fu s 309) (fun v s' => ∃ x, v = vI x ∧ y_L0 s' ∧ (∀ a b : Int, a ≤ 308 ∨ a = 7658 ∨ a = 313 ∨ a = 314 → s' a b = s a b) ∧ (∀ j : Int, s' 312 j = s 312 j)) := by
  refine T_mono (sf_X12_undo_309 hfu s h.1 h.2.2.1 h.2.2.2.1 h.2.2.2.2.1 h.2.2.2.2.2) (fun v s' hq => ?_)
  obtain ⟨c, f, hA, hD, hB, hK, x, rfl, q1, q2⟩ := hq
  have hm : ∀ a b : Int, a ≤ 308 ∨ a = 7658 ∨ a = 313 ∨ a = 314 → s' a b = s a b := fun a b q => f a b (by first | exact not_false | (unfold R_X12_undo_309; omega))
  have hS : ∀ j : Int, s' 312 j = s 312 j := fun j => f 312 j (by first | exact not_false | (unfold R_X12_undo_309; omega))
  exact ⟨x, rfl, ⟨c, y_V16m h.2.1 (fun a b q => hm a b (Or.inl q)), hA, hD, hB, hK⟩, hm, hS⟩
theorem L_told {fu : Nat} (hfu : 8589934592 ≤ fu) {s : z_M} (h : y_L0 s) (p1 : Int) (b1 : -2147483648 ≤ p1 ∧ p1 ≤ 2147483647) : z_T (fL_told fu s 1 p1 7658) (fun v s' => ∃ x, v = vI x ∧ y_L0 s' ∧ (∀ a b : Int, 309 ≤ a → a ≤ 7657 → s' a b = s a b) ∧ (∀ j : Int, s' 3 j = s 3 j)) := by
  refine T_of (fL_told.eq_1 ..) ?_
  refine T_if1 (by decide +kernel) ?_
  refine T_cL (T_mono (sf_X11_told_1 hfu s h.1 p1 b1 h.2.1) (fun v s' hq => ?_))
  obtain ⟨c, f, hv, hq⟩ := hq
  have cf : (∀ a b : Int, 309 ≤ a → a ≤ 7657 → s' a b = s a b) := fun a b q _ => f a b (by first | exact not_false | (unfold R_X11_told_1; omega))
  have hl : y_L0 s' := ⟨c, hv, h.2.2.fr h.1 cf⟩
  have h3 : ∀ j : Int, s' 3 j = s 3 j := fun j => f 3 j (by first | exact not_false | (unfold R_X11_told_1; omega))
  rcases hq with ⟨x, rfl, q1, q2⟩ | rfl
  · refine T_vcL ?_
    refine T_if1 (by decide +kernel) ?_
    refine T_up ?_
    exact T_ret ⟨_, rfl, hl.out (by omega), fun a b p q => by rw [z_up_k (by omega)]; exact cf a b p q, fun j => by rw [z_up_k (by decide)]; exact h3 j⟩
  · refine T_v1L ?_
    exact T_ret ⟨_, rfl, hl, cf, h3⟩
theorem M_told {fu : Nat} (hfu : 8589934592 ≤ fu) {s : z_M} (h : y_L0 s) (p1 : Int) (b1 : -2147483648 ≤ p1 ∧ p1 ≤ 2147483647) : z_T (fX12_told fu s 309 p1) (fun v s' => ∃ x, v = vL x ∧ y_L0 s' ∧ (∀ a b : Int, a ≤ 308 ∨ a = 7658 ∨ a = 313 ∨ a = 314 → s' a b = s a b) ∧ (∀ j : Int, s' 312 j = s 312 j)) := by
  refine T_mono (sf_X12_told_309 hfu s h.1 p1 b1 h.2.2.1 h.2.2.2.1 h.2.2.2.2.1 h.2.2.2.2.2) (fun v s' hq => ?_)
  obtain ⟨c, f, hA, hD, hB, hK, x, rfl, q1, q2⟩ := hq
  have hm : ∀ a b : Int, a ≤ 308 ∨ a = 7658 ∨ a = 313 ∨ a = 314 → s' a b = s a b := fun a b q => f a b (by first | exact not_false | (unfold R_X12_told_309; omega))
  have hS : ∀ j : Int, s' 312 j = s 312 j := fun j => f 312 j (by first | exact not_false | (unfold R_X12_told_309; omega))
  exact ⟨x, rfl, ⟨c, y_V16m h.2.1 (fun a b q => hm a b (Or.inl q)), hA, hD, hB, hK⟩, hm, hS⟩
theorem L_unit {fu : Nat} (hfu : 8589934592 ≤ fu) {s : z_M} (h : y_L0 s) (p1 : Int) (p2 : Int) (b1 : -2147483648 ≤ p1 ∧ p1 ≤ 2147483647) (b2 : -2147483648 ≤ p2 ∧ p2 ≤ 2147483647) : z_T (fL_unit fu s 1 p1 p2 7658) (fun v s' => ∃ x, v = vI x ∧ y_L0 s' ∧ (∀ a b : Int, 309 ≤ a → a ≤ 7657 → s' a b = s a b) ∧ (∀ j : Int, s' 3 j = s 3 j)) := by
  refine T_of (fL_unit.eq_1 ..) ?_
  refine T_if1 (by decide +kernel) ?_
  refine T_cI (T_mono (sf_X11_unit_1 hfu s h.1 p1 p2 b1 b2 h.2.1) (fun v s' hq => ?_))
  obtain ⟨c, f, hv, hq⟩ := hq
  have cf : (∀ a b : Int, 309 ≤ a → a ≤ 7657 → s' a b = s a b) := fun a b q _ => f a b (by first | exact not_false | (unfold R_X11_unit_1; omega))
  have hl : y_L0 s' := ⟨c, hv, h.2.2.fr h.1 cf⟩
  have h3 : ∀ j : Int, s' 3 j = s 3 j := fun j => f 3 j (by first | exact not_false | (unfold R_X11_unit_1; omega))
  rcases hq with ⟨x, rfl, q1, q2⟩ | rfl | rfl
  · refine T_vcI ?_
    refine T_if1 (by decide +kernel) ?_
    refine T_up ?_
    exact T_ret ⟨_, rfl, hl.out (by omega), fun a b p q => by rw [z_up_k (by omega)]; exact cf a b p q, fun j => by rw [z_up_k (by decide)]; exact h3 j⟩
  · refine T_v0I ?_
    exact T_ret ⟨_, rfl, hl, cf, h3⟩
  · refine T_v1I ?_
    exact T_ret ⟨_, rfl, hl, cf, h3⟩
theorem M_unit {fu : Nat} (hfu : 8589934592 ≤ fu) {s : z_M} (h : y_L0 s) (p1 : Int) (p2 : Int) (b1 : -2147483648 ≤ p1 ∧ p1 ≤ 2147483647) (b2 : -2147483648 ≤ p2 ∧ p2 ≤ 2147483647) : z_T (fX12_unit fu s 309 p1 p2) (fun v s' => ∃ x, v = vI x ∧ y_L0 s' ∧ (∀ a b : Int, a ≤ 308 ∨ a = 7658 ∨ a = 313 ∨ a = 314 → s' a b = s a b) ∧ (∀ j : Int, s' 312 j = s 312 j)) := by
  refine T_mono (sf_X12_unit_309 hfu s h.1 p1 p2 b1 b2 h.2.2.1 h.2.2.2.1 h.2.2.2.2.1 h.2.2.2.2.2) (fun v s' hq => ?_)
  obtain ⟨c, f, hA, hD, hB, hK, x, rfl, q1, q2⟩ := hq
  have hm : ∀ a b : Int, a ≤ 308 ∨ a = 7658 ∨ a = 313 ∨ a = 314 → s' a b = s a b := fun a b q => f a b (by first | exact not_false | (unfold R_X12_unit_309; omega))
  have hS : ∀ j : Int, s' 312 j = s 312 j := fun j => f 312 j (by first | exact not_false | (unfold R_X12_unit_309; omega))
  exact ⟨x, rfl, ⟨c, y_V16m h.2.1 (fun a b q => hm a b (Or.inl q)), hA, hD, hB, hK⟩, hm, hS⟩
theorem L_sign {fu : Nat} (hfu : 8589934592 ≤ fu) {s : z_M} (h : y_L0 s) (p1 : Int) (p2 : Int) (b1 : -2147483648 ≤ p1 ∧ p1 ≤ 2147483647) (b2 : -2147483648 ≤ p2 ∧ p2 ≤ 2147483647) : z_T (fL_sign fu s 1 p1 p2 7658) (fun v s' => ∃ x, v = vI x ∧ y_L0 s' ∧ (∀ a b : Int, 309 ≤ a → a ≤ 7657 → s' a b = s a b) ∧ (∀ j : Int, s' 3 j = s 3 j)) := by
  refine T_of (fL_sign.eq_1 ..) ?_
  refine T_if1 (by decide +kernel) ?_
  refine T_cI (T_mono (sf_X11_sign_1 hfu s h.1 p1 p2 b1 b2 h.2.1) (fun v s' hq => ?_))
  obtain ⟨c, f, hv, hq⟩ := hq
  have cf : (∀ a b : Int, 309 ≤ a → a ≤ 7657 → s' a b = s a b) := fun a b q _ => f a b (by first | exact not_false | (unfold R_X11_sign_1; omega))
  have hl : y_L0 s' := ⟨c, hv, h.2.2.fr h.1 cf⟩
  have h3 : ∀ j : Int, s' 3 j = s 3 j := fun j => f 3 j (by first | exact not_false | (unfold R_X11_sign_1; omega))
  rcases hq with ⟨x, rfl, q1, q2⟩ | rfl | rfl
  · refine T_vcI ?_
    refine T_if1 (by decide +kernel) ?_
    refine T_up ?_
    exact T_ret ⟨_, rfl, hl.out (by omega), fun a b p q => by rw [z_up_k (by omega)]; exact cf a b p q, fun j => by rw [z_up_k (by decide)]; exact h3 j⟩
  · refine T_v0I ?_
    exact T_ret ⟨_, rfl, hl, cf, h3⟩
  · refine T_v1I ?_
    exact T_ret ⟨_, rfl, hl, cf, h3⟩
theorem M_sign {fu : Nat} (hfu : 8589934592 ≤ fu) {s : z_M} (h : y_L0 s) (p1 : Int) (p2 : Int) (b1 : -2147483648 ≤ p1 ∧ p1 ≤ 2147483647) (b2 : -2147483648 ≤ p2 ∧ p2 ≤ 2147483647) : z_T (fX12_sign fu s 309 p1 p2) (fun v s' => ∃ x, v = vI x ∧ y_L0 s' ∧ (∀ a b : Int, a ≤ 308 ∨ a = 7658 ∨ a = 313 ∨ a = 314 → s' a b = s a b) ∧ (∀ j : Int, s' 312 j = s 312 j)) := by
  refine T_mono (sf_X12_sign_309 hfu s h.1 p1 p2 b1 b2 h.2.2.1 h.2.2.2.1 h.2.2.2.2.1 h.2.2.2.2.2) (fun v s' hq => ?_)
  obtain ⟨c, f, hA, hD, hB, hK, x, rfl, q1, q2⟩ := hq
  have hm : ∀ a b : Int, a ≤ 308 ∨ a = 7658 ∨ a = 313 ∨ a = 314 → s' a b = s a b := fun a b q => f a b (by first | exact not_false | (unfold R_X12_sign_309; omega))
  have hS : ∀ j : Int, s' 312 j = s 312 j := fun j => f 312 j (by first | exact not_false | (unfold R_X12_sign_309; omega))
  exact ⟨x, rfl, ⟨c, y_V16m h.2.1 (fun a b q => hm a b (Or.inl q)), hA, hD, hB, hK⟩, hm, hS⟩
theorem L_line {fu : Nat} (hfu : 8589934592 ≤ fu) {s : z_M} (h : y_L0 s) (p1 : Int) (p2 : Int) (b1 : -2147483648 ≤ p1 ∧ p1 ≤ 2147483647) (b2 : -2147483648 ≤ p2 ∧ p2 ≤ 2147483647) : z_T (fL_line fu s 1 p1 p2 7658) (fun v s' => ∃ x, v = vI x ∧ y_L0 s' ∧ (∀ a b : Int, 309 ≤ a → a ≤ 7657 → s' a b = s a b) ∧ (∀ j : Int, s' 3 j = s 3 j)) := by
  refine T_of (fL_line.eq_1 ..) ?_
  refine T_if1 (by decide +kernel) ?_
  refine T_cI (T_mono (sf_X11_line_1 hfu s h.1 p1 p2 b1 b2 h.2.1) (fun v s' hq => ?_))
  obtain ⟨c, f, hv, hq⟩ := hq
  have cf : (∀ a b : Int, 309 ≤ a → a ≤ 7657 → s' a b = s a b) := fun a b q _ => f a b (by first | exact not_false | (unfold R_X11_line_1; omega))
  have hl : y_L0 s' := ⟨c, hv, h.2.2.fr h.1 cf⟩
  have h3 : ∀ j : Int, s' 3 j = s 3 j := fun j => f 3 j (by first | exact not_false | (unfold R_X11_line_1; omega))
  rcases hq with ⟨x, rfl, q1, q2⟩ | rfl | rfl
  · refine T_vcI ?_
    refine T_if1 (by decide +kernel) ?_
    refine T_up ?_
    exact T_ret ⟨_, rfl, hl.out (by omega), fun a b p q => by rw [z_up_k (by omega)]; exact cf a b p q, fun j => by rw [z_up_k (by decide)]; exact h3 j⟩
  · refine T_v0I ?_
    exact T_ret ⟨_, rfl, hl, cf, h3⟩
  · refine T_v1I ?_
    exact T_ret ⟨_, rfl, hl, cf, h3⟩
theorem M_line {fu : Nat} (hfu : 8589934592 ≤ fu) {s : z_M} (h : y_L0 s) (p1 : Int) (p2 : Int) (b1 : -2147483648 ≤ p1 ∧ p1 ≤ 2147483647) (b2 : -2147483648 ≤ p2 ∧ p2 ≤ 2147483647) : z_T (fX12_line fu s 309 p1 p2) (fun v s' => ∃ x, v = vI x ∧ y_L0 s' ∧ (∀ a b : Int, a ≤ 308 ∨ a = 7658 ∨ a = 313 ∨ a = 314 → s' a b = s a b) ∧ (∀ j : Int, s' 312 j = s 312 j)) := by
  refine T_mono (sf_X12_line_309 hfu s h.1 p1 p2 b1 b2 h.2.2.1 h.2.2.2.1 h.2.2.2.2.1 h.2.2.2.2.2) (fun v s' hq => ?_)
  obtain ⟨c, f, hA, hD, hB, hK, x, rfl, q1, q2⟩ := hq
  have hm : ∀ a b : Int, a ≤ 308 ∨ a = 7658 ∨ a = 313 ∨ a = 314 → s' a b = s a b := fun a b q => f a b (by first | exact not_false | (unfold R_X12_line_309; omega))
  have hS : ∀ j : Int, s' 312 j = s 312 j := fun j => f 312 j (by first | exact not_false | (unfold R_X12_line_309; omega))
  exact ⟨x, rfl, ⟨c, y_V16m h.2.1 (fun a b q => hm a b (Or.inl q)), hA, hD, hB, hK⟩, hm, hS⟩
theorem L_block {fu : Nat} (hfu : 8589934592 ≤ fu) {s : z_M} (h : y_L0 s) (p1 : Int) (p2 : Int) (b1 : -2147483648 ≤ p1 ∧ p1 ≤ 2147483647) (b2 : -2147483648 ≤ p2 ∧ p2 ≤ 2147483647) : z_T (fL_block fu s 1 p1 p2 7658) (fun v s' => ∃ x, v = vI x ∧ y_L0 s' ∧ (∀ a b : Int, 309 ≤ a → a ≤ 7657 → s' a b = s a b) ∧ (∀ j : Int, s' 3 j = s 3 j)) := by
  refine T_of (fL_block.eq_1 ..) ?_
  refine T_if1 (by decide +kernel) ?_
  refine T_cI (T_mono (sf_X11_block_1 hfu s h.1 p1 p2 b1 b2 h.2.1) (fun v s' hq => ?_))
  obtain ⟨c, f, hv, hq⟩ := hq
  have cf : (∀ a b : Int, 309 ≤ a → a ≤ 7657 → s' a b = s a b) := fun a b q _ => f a b (by first | exact not_false | (unfold R_X11_block_1; omega))
  have hl : y_L0 s' := ⟨c, hv, h.2.2.fr h.1 cf⟩
  have h3 : ∀ j : Int, s' 3 j = s 3 j := fun j => f 3 j (by first | exact not_false | (unfold R_X11_block_1; omega))
  rcases hq with ⟨x, rfl, q1, q2⟩ | rfl | rfl
  · refine T_vcI ?_
    refine T_if1 (by decide +kernel) ?_
    refine T_up ?_
    exact T_ret ⟨_, rfl, hl.out (by omega), fun a b p q => by rw [z_up_k (by omega)]; exact cf a b p q, fun j => by rw [z_up_k (by decide)]; exact h3 j⟩
  · refine T_v0I ?_
    exact T_ret ⟨_, rfl, hl, cf, h3⟩
  · refine T_v1I ?_
    exact T_ret ⟨_, rfl, hl, cf, h3⟩
theorem M_block {fu : Nat} (hfu : 8589934592 ≤ fu) {s : z_M} (h : y_L0 s) (p1 : Int) (p2 : Int) (b1 : -2147483648 ≤ p1 ∧ p1 ≤ 2147483647) (b2 : -2147483648 ≤ p2 ∧ p2 ≤ 2147483647) : z_T (fX12_block fu s 309 p1 p2) (fun v s' => ∃ x, v = vI x ∧ y_L0 s' ∧ (∀ a b : Int, a ≤ 308 ∨ a = 7658 ∨ a = 313 ∨ a = 314 → s' a b = s a b) ∧ (∀ j : Int, s' 312 j = s 312 j)) := by
  refine T_mono (sf_X12_block_309 hfu s h.1 p1 p2 b1 b2 h.2.2.1 h.2.2.2.1 h.2.2.2.2.1 h.2.2.2.2.2) (fun v s' hq => ?_)
  obtain ⟨c, f, hA, hD, hB, hK, x, rfl, q1, q2⟩ := hq
  have hm : ∀ a b : Int, a ≤ 308 ∨ a = 7658 ∨ a = 313 ∨ a = 314 → s' a b = s a b := fun a b q => f a b (by first | exact not_false | (unfold R_X12_block_309; omega))
  have hS : ∀ j : Int, s' 312 j = s 312 j := fun j => f 312 j (by first | exact not_false | (unfold R_X12_block_309; omega))
  exact ⟨x, rfl, ⟨c, y_V16m h.2.1 (fun a b q => hm a b (Or.inl q)), hA, hD, hB, hK⟩, hm, hS⟩
theorem L_reading {fu : Nat} (hfu : 8589934592 ≤ fu) {s : z_M} (h : y_L0 s) (p1 : Int) (p2 : Int) (p3 : Int) (p4 : Int) (b1 : -2147483648 ≤ p1 ∧ p1 ≤ 2147483647) (b2 : -2147483648 ≤ p2 ∧ p2 ≤ 2147483647) (b3 : -2147483648 ≤ p3 ∧ p3 ≤ 2147483647) (b4 : -2147483648 ≤ p4 ∧ p4 ≤ 2147483647) : z_T (fL_reading fu s 1 p1 p2 p3 p4 7658) (fun v s' => ∃ x, v = vI x ∧ y_L0 s' ∧ (∀ a b : Int, 309 ≤ a → a ≤ 7657 → s' a b = s a b) ∧ (∀ j : Int, s' 3 j = s 3 j)) := by
  refine T_of (fL_reading.eq_1 ..) ?_
  refine T_if1 (by decide +kernel) ?_
  refine T_cI (T_mono (sf_X11_reading_1 hfu s h.1 p1 p2 p3 p4 b1 b2 b3 b4 h.2.1) (fun v s' hq => ?_))
  obtain ⟨c, f, hv, hq⟩ := hq
  have cf : (∀ a b : Int, 309 ≤ a → a ≤ 7657 → s' a b = s a b) := fun a b q _ => f a b (by first | exact not_false | (unfold R_X11_reading_1; omega))
  have hl : y_L0 s' := ⟨c, hv, h.2.2.fr h.1 cf⟩
  have h3 : ∀ j : Int, s' 3 j = s 3 j := fun j => f 3 j (by first | exact not_false | (unfold R_X11_reading_1; omega))
  rcases hq with ⟨x, rfl, q1, q2⟩ | rfl | rfl
  · refine T_vcI ?_
    refine T_if1 (by decide +kernel) ?_
    refine T_up ?_
    exact T_ret ⟨_, rfl, hl.out (by omega), fun a b p q => by rw [z_up_k (by omega)]; exact cf a b p q, fun j => by rw [z_up_k (by decide)]; exact h3 j⟩
  · refine T_v0I ?_
    exact T_ret ⟨_, rfl, hl, cf, h3⟩
  · refine T_v1I ?_
    exact T_ret ⟨_, rfl, hl, cf, h3⟩
theorem M_reading {fu : Nat} (hfu : 8589934592 ≤ fu) {s : z_M} (h : y_L0 s) (p1 : Int) (p2 : Int) (p3 : Int) (p4 : Int) (b1 : -2147483648 ≤ p1 ∧ p1 ≤ 2147483647) (b2 : -2147483648 ≤ p2 ∧ p2 ≤ 2147483647) (b3 : -2147483648 ≤ p3 ∧ p3 ≤ 2147483647) (b4 : -2147483648 ≤ p4 ∧ p4 ≤ 2147483647) : z_T (fX12_reading fu s 309 p1 p2 p3 p4) (fun v s' => ∃ x, v = vI x ∧ y_L0 s' ∧ (∀ a b : Int, a ≤ 308 ∨ a = 7658 ∨ a = 313 ∨ a = 314 → s' a b = s a b) ∧ (∀ j : Int, s' 312 j = s 312 j)) := by
  refine T_mono (sf_X12_reading_309 hfu s h.1 p1 p2 p3 p4 b1 b2 b3 b4 h.2.2.1 h.2.2.2.1 h.2.2.2.2.1 h.2.2.2.2.2) (fun v s' hq => ?_)
  obtain ⟨c, f, hA, hD, hB, hK, x, rfl, q1, q2⟩ := hq
  have hm : ∀ a b : Int, a ≤ 308 ∨ a = 7658 ∨ a = 313 ∨ a = 314 → s' a b = s a b := fun a b q => f a b (by first | exact not_false | (unfold R_X12_reading_309; omega))
  have hS : ∀ j : Int, s' 312 j = s 312 j := fun j => f 312 j (by first | exact not_false | (unfold R_X12_reading_309; omega))
  exact ⟨x, rfl, ⟨c, y_V16m h.2.1 (fun a b q => hm a b (Or.inl q)), hA, hD, hB, hK⟩, hm, hS⟩
theorem L_run {fu : Nat} (hfu : 8589934592 ≤ fu) {s : z_M} (h : y_L0 s) (p1 : Int) (p2 : Int) (b1 : -2147483648 ≤ p1 ∧ p1 ≤ 2147483647) (b2 : -2147483648 ≤ p2 ∧ p2 ≤ 2147483647) : z_T (fL_run fu s 1 p1 p2 7658) (fun v s' => ∃ x, v = vI x ∧ y_L0 s' ∧ (∀ a b : Int, 309 ≤ a → a ≤ 7657 → s' a b = s a b) ∧ (∀ j : Int, s' 3 j = s 3 j)) := by
  refine T_of (fL_run.eq_1 ..) ?_
  refine T_if1 (by decide +kernel) ?_
  refine T_cI (T_mono (sf_X11_run_1 hfu s h.1 p1 p2 b1 b2 h.2.1) (fun v s' hq => ?_))
  obtain ⟨c, f, hv, hq⟩ := hq
  have cf : (∀ a b : Int, 309 ≤ a → a ≤ 7657 → s' a b = s a b) := fun a b q _ => f a b (by first | exact not_false | (unfold R_X11_run_1; omega))
  have hl : y_L0 s' := ⟨c, hv, h.2.2.fr h.1 cf⟩
  have h3 : ∀ j : Int, s' 3 j = s 3 j := fun j => f 3 j (by first | exact not_false | (unfold R_X11_run_1; omega))
  rcases hq with ⟨x, rfl, q1, q2⟩ | rfl
  · refine T_vcI ?_
    refine T_if1 (by decide +kernel) ?_
    refine T_up ?_
    exact T_ret ⟨_, rfl, hl.out (by omega), fun a b p q => by rw [z_up_k (by omega)]; exact cf a b p q, fun j => by rw [z_up_k (by decide)]; exact h3 j⟩
  · refine T_v1I ?_
    exact T_ret ⟨_, rfl, hl, cf, h3⟩
theorem M_run {fu : Nat} (hfu : 8589934592 ≤ fu) {s : z_M} (h : y_L0 s) (p1 : Int) (p2 : Int) (b1 : -2147483648 ≤ p1 ∧ p1 ≤ 2147483647) (b2 : -2147483648 ≤ p2 ∧ p2 ≤ 2147483647) : z_T (fX12_run fu s 309 p1 p2) (fun v s' => ∃ x, v = vI x ∧ y_L0 s' ∧ (∀ a b : Int, a ≤ 308 ∨ a = 7658 ∨ a = 313 ∨ a = 314 → s' a b = s a b) ∧ (∀ j : Int, s' 312 j = s 312 j)) := by
  refine T_mono (sf_X12_run_309 hfu s h.1 p1 p2 b1 b2 h.2.2.1 h.2.2.2.1 h.2.2.2.2.1 h.2.2.2.2.2) (fun v s' hq => ?_)
  obtain ⟨c, f, hA, hD, hB, hK, x, rfl, q1, q2⟩ := hq
  have hm : ∀ a b : Int, a ≤ 308 ∨ a = 7658 ∨ a = 313 ∨ a = 314 → s' a b = s a b := fun a b q => f a b (by first | exact not_false | (unfold R_X12_run_309; omega))
  have hS : ∀ j : Int, s' 312 j = s 312 j := fun j => f 312 j (by first | exact not_false | (unfold R_X12_run_309; omega))
  exact ⟨x, rfl, ⟨c, y_V16m h.2.1 (fun a b q => hm a b (Or.inl q)), hA, hD, hB, hK⟩, hm, hS⟩
theorem L_at {fu : Nat} (hfu : 8589934592 ≤ fu) {s : z_M} (h : y_L0 s) (p1 : Int) (p2 : Int) (b1 : -2147483648 ≤ p1 ∧ p1 ≤ 2147483647) (b2 : -2147483648 ≤ p2 ∧ p2 ≤ 2147483647) : z_T (fL_at fu s 1 p1 p2 7658) (fun v s' => ∃ x, v = vI x ∧ y_L0 s' ∧ (∀ a b : Int, 309 ≤ a → a ≤ 7657 → s' a b = s a b) ∧ (∀ j : Int, s' 3 j = s 3 j)) := by
  refine T_of (fL_at.eq_1 ..) ?_
  refine T_if1 (by decide +kernel) ?_
  refine T_cI (T_mono (sf_X11_at_1 hfu s h.1 p1 p2 b1 b2 h.2.1) (fun v s' hq => ?_))
  obtain ⟨c, f, hv, hq⟩ := hq
  have cf : (∀ a b : Int, 309 ≤ a → a ≤ 7657 → s' a b = s a b) := fun a b q _ => f a b (by first | exact not_false | (unfold R_X11_at_1; omega))
  have hl : y_L0 s' := ⟨c, hv, h.2.2.fr h.1 cf⟩
  have h3 : ∀ j : Int, s' 3 j = s 3 j := fun j => f 3 j (by first | exact not_false | (unfold R_X11_at_1; omega))
  rcases hq with ⟨x, rfl, q1, q2⟩ | rfl
  · refine T_vcI ?_
    refine T_if1 (by decide +kernel) ?_
    refine T_up ?_
    exact T_ret ⟨_, rfl, hl.out (by omega), fun a b p q => by rw [z_up_k (by omega)]; exact cf a b p q, fun j => by rw [z_up_k (by decide)]; exact h3 j⟩
  · refine T_v0I ?_
    exact T_ret ⟨_, rfl, hl, cf, h3⟩
theorem M_at {fu : Nat} (hfu : 8589934592 ≤ fu) {s : z_M} (h : y_L0 s) (p1 : Int) (p2 : Int) (b1 : -2147483648 ≤ p1 ∧ p1 ≤ 2147483647) (b2 : -2147483648 ≤ p2 ∧ p2 ≤ 2147483647) : z_T (fX12_at fu s 309 p1 p2) (fun v s' => ∃ x, v = vI x ∧ y_L0 s' ∧ (∀ a b : Int, a ≤ 308 ∨ a = 7658 ∨ a = 313 ∨ a = 314 → s' a b = s a b) ∧ (∀ j : Int, s' 312 j = s 312 j)) := by
  refine T_mono (sf_X12_at_309 hfu s h.1 p1 p2 b1 b2 h.2.2.1 h.2.2.2.1 h.2.2.2.2.1 h.2.2.2.2.2) (fun v s' hq => ?_)
  obtain ⟨c, f, hA, hD, hB, hK, x, rfl, q1, q2⟩ := hq
  have hm : ∀ a b : Int, a ≤ 308 ∨ a = 7658 ∨ a = 313 ∨ a = 314 → s' a b = s a b := fun a b q => f a b (by first | exact not_false | (unfold R_X12_at_309; omega))
  have hS : ∀ j : Int, s' 312 j = s 312 j := fun j => f 312 j (by first | exact not_false | (unfold R_X12_at_309; omega))
  exact ⟨x, rfl, ⟨c, y_V16m h.2.1 (fun a b q => hm a b (Or.inl q)), hA, hD, hB, hK⟩, hm, hS⟩
theorem L_ends {fu : Nat} (hfu : 8589934592 ≤ fu) {s : z_M} (h : y_L0 s) (p1 : Int) (b1 : -2147483648 ≤ p1 ∧ p1 ≤ 2147483647) : z_T (fL_ends fu s 1 p1 7658) (fun v s' => ∃ x, v = vI x ∧ y_L0 s' ∧ (∀ a b : Int, 309 ≤ a → a ≤ 7657 → s' a b = s a b) ∧ (∀ j : Int, s' 3 j = s 3 j)) := by
  refine T_of (fL_ends.eq_1 ..) ?_
  refine T_if1 (by decide +kernel) ?_
  refine T_cI (T_mono (sf_X11_ends_1 hfu s h.1 p1 b1 h.2.1) (fun v s' hq => ?_))
  obtain ⟨c, f, hv, hq⟩ := hq
  have cf : (∀ a b : Int, 309 ≤ a → a ≤ 7657 → s' a b = s a b) := fun a b q _ => f a b (by first | exact not_false | (unfold R_X11_ends_1; omega))
  have hl : y_L0 s' := ⟨c, hv, h.2.2.fr h.1 cf⟩
  have h3 : ∀ j : Int, s' 3 j = s 3 j := fun j => f 3 j (by first | exact not_false | (unfold R_X11_ends_1; omega))
  rcases hq with ⟨x, rfl, q1, q2⟩ | rfl
  · refine T_vcI ?_
    refine T_ite (fun _ => ?_) (fun _ => ?_)
    · refine T_of (fL_ends_J15.eq_1 ..) ?_
      refine T_if1 (by decide +kernel) ?_
      refine T_up ?_
      exact T_ret ⟨_, rfl, hl.out (by omega), fun a b p q => by rw [z_up_k (by omega)]; exact cf a b p q, fun j => by rw [z_up_k (by decide)]; exact h3 j⟩
    · refine T_of (fL_ends_J15.eq_1 ..) ?_
      refine T_if1 (by decide +kernel) ?_
      refine T_up ?_
      exact T_ret ⟨_, rfl, hl.out (by omega), fun a b p q => by rw [z_up_k (by omega)]; exact cf a b p q, fun j => by rw [z_up_k (by decide)]; exact h3 j⟩
  · refine T_v0I ?_
    exact T_ret ⟨_, rfl, hl, cf, h3⟩
theorem M_ends {fu : Nat} (hfu : 8589934592 ≤ fu) {s : z_M} (h : y_L0 s) (p1 : Int) (b1 : -2147483648 ≤ p1 ∧ p1 ≤ 2147483647) : z_T (fX12_ends fu s 309 p1) (fun v s' => ∃ x, v = vI x ∧ y_L0 s' ∧ (∀ a b : Int, a ≤ 308 ∨ a = 7658 ∨ a = 313 ∨ a = 314 → s' a b = s a b) ∧ (∀ j : Int, s' 312 j = s 312 j)) := by
  refine T_mono (sf_X12_ends_309 hfu s h.1 p1 b1 h.2.2.1 h.2.2.2.1 h.2.2.2.2.1 h.2.2.2.2.2) (fun v s' hq => ?_)
  obtain ⟨c, f, hA, hD, hB, hK, x, rfl, q1, q2⟩ := hq
  have hm : ∀ a b : Int, a ≤ 308 ∨ a = 7658 ∨ a = 313 ∨ a = 314 → s' a b = s a b := fun a b q => f a b (by first | exact not_false | (unfold R_X12_ends_309; omega))
  have hS : ∀ j : Int, s' 312 j = s 312 j := fun j => f 312 j (by first | exact not_false | (unfold R_X12_ends_309; omega))
  exact ⟨x, rfl, ⟨c, y_V16m h.2.1 (fun a b q => hm a b (Or.inl q)), hA, hD, hB, hK⟩, hm, hS⟩
theorem L_longOf {fu : Nat} (hfu : 8589934592 ≤ fu) {s : z_M} (h : y_L0 s) (p1 : Int) (p2 : Int) (b1 : -2147483648 ≤ p1 ∧ p1 ≤ 2147483647) (b2 : -2147483648 ≤ p2 ∧ p2 ≤ 2147483647) : z_T (fL_longOf fu s 1 p1 p2 7658) (fun v s' => ∃ x, v = vI x ∧ y_L0 s' ∧ (∀ a b : Int, 309 ≤ a → a ≤ 7657 → s' a b = s a b) ∧ (∀ j : Int, s' 3 j = s 3 j)) := by
  refine T_of (fL_longOf.eq_1 ..) ?_
  refine T_if1 (by decide +kernel) ?_
  refine T_cI (T_mono (sf_X11_longOf_1 hfu s h.1 p1 p2 b1 b2 h.2.1) (fun v s' hq => ?_))
  obtain ⟨c, f, hv, hq⟩ := hq
  have cf : (∀ a b : Int, 309 ≤ a → a ≤ 7657 → s' a b = s a b) := fun a b q _ => f a b (by first | exact not_false | (unfold R_X11_longOf_1; omega))
  have hl : y_L0 s' := ⟨c, hv, h.2.2.fr h.1 cf⟩
  have h3 : ∀ j : Int, s' 3 j = s 3 j := fun j => f 3 j (by first | exact not_false | (unfold R_X11_longOf_1; omega))
  rcases hq with ⟨x, rfl, q1, q2⟩ | rfl | rfl
  · refine T_vcI ?_
    refine T_if1 (by decide +kernel) ?_
    refine T_up ?_
    exact T_ret ⟨_, rfl, hl.out (by omega), fun a b p q => by rw [z_up_k (by omega)]; exact cf a b p q, fun j => by rw [z_up_k (by decide)]; exact h3 j⟩
  · refine T_v0I ?_
    exact T_ret ⟨_, rfl, hl, cf, h3⟩
  · refine T_v1I ?_
    exact T_ret ⟨_, rfl, hl, cf, h3⟩
theorem M_longOf {fu : Nat} (hfu : 8589934592 ≤ fu) {s : z_M} (h : y_L0 s) (p1 : Int) (p2 : Int) (b1 : -2147483648 ≤ p1 ∧ p1 ≤ 2147483647) (b2 : -2147483648 ≤ p2 ∧ p2 ≤ 2147483647) : z_T (fX12_longOf fu s 309 p1 p2) (fun v s' => ∃ x, v = vI x ∧ y_L0 s' ∧ (∀ a b : Int, a ≤ 308 ∨ a = 7658 ∨ a = 313 ∨ a = 314 → s' a b = s a b) ∧ (∀ j : Int, s' 312 j = s 312 j)) := by
  refine T_mono (sf_X12_longOf_309 hfu s h.1 p1 p2 b1 b2 h.2.2.1 h.2.2.2.1 h.2.2.2.2.1 h.2.2.2.2.2) (fun v s' hq => ?_)
  obtain ⟨c, f, hA, hD, hB, hK, x, rfl, q1, q2⟩ := hq
  have hm : ∀ a b : Int, a ≤ 308 ∨ a = 7658 ∨ a = 313 ∨ a = 314 → s' a b = s a b := fun a b q => f a b (by first | exact not_false | (unfold R_X12_longOf_309; omega))
  have hS : ∀ j : Int, s' 312 j = s 312 j := fun j => f 312 j (by first | exact not_false | (unfold R_X12_longOf_309; omega))
  exact ⟨x, rfl, ⟨c, y_V16m h.2.1 (fun a b q => hm a b (Or.inl q)), hA, hD, hB, hK⟩, hm, hS⟩
theorem L_lines {fu : Nat} (hfu : 8589934592 ≤ fu) {s : z_M} (h : y_L0 s) (p1 : Int) (p2 : Int) (b1 : -2147483648 ≤ p1 ∧ p1 ≤ 2147483647) (b2 : -2147483648 ≤ p2 ∧ p2 ≤ 2147483647) : z_T (fL_lines fu s 1 p1 p2 7658) (fun v s' => ∃ x, v = vI x ∧ y_L0 s' ∧ (∀ a b : Int, 309 ≤ a → a ≤ 7657 → s' a b = s a b) ∧ (∀ j : Int, s' 3 j = s 3 j)) := by
  refine T_of (fL_lines.eq_1 ..) ?_
  refine T_if1 (by decide +kernel) ?_
  refine T_cI (T_mono (sf_X11_lines_1 hfu s h.1 p1 p2 b1 b2 h.2.1) (fun v s' hq => ?_))
  obtain ⟨c, f, hv, hq⟩ := hq
  have cf : (∀ a b : Int, 309 ≤ a → a ≤ 7657 → s' a b = s a b) := fun a b q _ => f a b (by first | exact not_false | (unfold R_X11_lines_1; omega))
  have hl : y_L0 s' := ⟨c, hv, h.2.2.fr h.1 cf⟩
  have h3 : ∀ j : Int, s' 3 j = s 3 j := fun j => f 3 j (by first | exact not_false | (unfold R_X11_lines_1; omega))
  rcases hq with ⟨x, rfl, q1, q2⟩ | rfl
  · refine T_vcI ?_
    refine T_if1 (by decide +kernel) ?_
    refine T_up ?_
    exact T_ret ⟨_, rfl, hl.out (by omega), fun a b p q => by rw [z_up_k (by omega)]; exact cf a b p q, fun j => by rw [z_up_k (by decide)]; exact h3 j⟩
  · refine T_v1I ?_
    exact T_ret ⟨_, rfl, hl, cf, h3⟩
theorem M_lines {fu : Nat} (hfu : 8589934592 ≤ fu) {s : z_M} (h : y_L0 s) (p1 : Int) (p2 : Int) (b1 : -2147483648 ≤ p1 ∧ p1 ≤ 2147483647) (b2 : -2147483648 ≤ p2 ∧ p2 ≤ 2147483647) : z_T (fX12_lines fu s 309 p1 p2) (fun v s' => ∃ x, v = vI x ∧ y_L0 s' ∧ (∀ a b : Int, a ≤ 308 ∨ a = 7658 ∨ a = 313 ∨ a = 314 → s' a b = s a b) ∧ (∀ j : Int, s' 312 j = s 312 j)) := by
  refine T_mono (sf_X12_lines_309 hfu s h.1 p1 p2 b1 b2 h.2.2.1 h.2.2.2.1 h.2.2.2.2.1 h.2.2.2.2.2) (fun v s' hq => ?_)
  obtain ⟨c, f, hA, hD, hB, hK, x, rfl, q1, q2⟩ := hq
  have hm : ∀ a b : Int, a ≤ 308 ∨ a = 7658 ∨ a = 313 ∨ a = 314 → s' a b = s a b := fun a b q => f a b (by first | exact not_false | (unfold R_X12_lines_309; omega))
  have hS : ∀ j : Int, s' 312 j = s 312 j := fun j => f 312 j (by first | exact not_false | (unfold R_X12_lines_309; omega))
  exact ⟨x, rfl, ⟨c, y_V16m h.2.1 (fun a b q => hm a b (Or.inl q)), hA, hD, hB, hK⟩, hm, hS⟩
theorem L_least {fu : Nat} (hfu : 8589934592 ≤ fu) {s : z_M} (h : y_L0 s) (p1 : Int) (b1 : -2147483648 ≤ p1 ∧ p1 ≤ 2147483647) : z_T (fL_least fu s 1 p1 7658) (fun v s' => ∃ x, v = vI x ∧ y_L0 s' ∧ (∀ a b : Int, 309 ≤ a → a ≤ 7657 → s' a b = s a b) ∧ (∀ j : Int, s' 3 j = s 3 j)) := by
  refine T_of (fL_least.eq_1 ..) ?_
  refine T_if1 (by decide +kernel) ?_
  refine T_cI (T_mono (sf_X11_least_1 hfu s h.1 p1 b1 h.2.1) (fun v s' hq => ?_))
  obtain ⟨c, f, hv, hq⟩ := hq
  have cf : (∀ a b : Int, 309 ≤ a → a ≤ 7657 → s' a b = s a b) := fun a b q _ => f a b (by first | exact not_false | (unfold R_X11_least_1; omega))
  have hl : y_L0 s' := ⟨c, hv, h.2.2.fr h.1 cf⟩
  have h3 : ∀ j : Int, s' 3 j = s 3 j := fun j => f 3 j (by first | exact not_false | (unfold R_X11_least_1; omega))
  rcases hq with ⟨x, rfl, q1, q2⟩ | rfl
  · refine T_vcI ?_
    refine T_if1 (by decide +kernel) ?_
    refine T_up ?_
    exact T_ret ⟨_, rfl, hl.out (by omega), fun a b p q => by rw [z_up_k (by omega)]; exact cf a b p q, fun j => by rw [z_up_k (by decide)]; exact h3 j⟩
  · refine T_v1I ?_
    exact T_ret ⟨_, rfl, hl, cf, h3⟩
theorem M_least {fu : Nat} (hfu : 8589934592 ≤ fu) {s : z_M} (h : y_L0 s) (p1 : Int) (b1 : -2147483648 ≤ p1 ∧ p1 ≤ 2147483647) : z_T (fX12_least fu s 309 p1) (fun v s' => ∃ x, v = vI x ∧ y_L0 s' ∧ (∀ a b : Int, a ≤ 308 ∨ a = 7658 ∨ a = 313 ∨ a = 314 → s' a b = s a b) ∧ (∀ j : Int, s' 312 j = s 312 j)) := by
  refine T_mono (sf_X12_least_309 hfu s h.1 p1 b1 h.2.2.1 h.2.2.2.1 h.2.2.2.2.1 h.2.2.2.2.2) (fun v s' hq => ?_)
  obtain ⟨c, f, hA, hD, hB, hK, x, rfl, q1, q2⟩ := hq
  have hm : ∀ a b : Int, a ≤ 308 ∨ a = 7658 ∨ a = 313 ∨ a = 314 → s' a b = s a b := fun a b q => f a b (by first | exact not_false | (unfold R_X12_least_309; omega))
  have hS : ∀ j : Int, s' 312 j = s 312 j := fun j => f 312 j (by first | exact not_false | (unfold R_X12_least_309; omega))
  exact ⟨x, rfl, ⟨c, y_V16m h.2.1 (fun a b q => hm a b (Or.inl q)), hA, hD, hB, hK⟩, hm, hS⟩
theorem L_better {fu : Nat} (hfu : 8589934592 ≤ fu) {s : z_M} (h : y_L0 s) : z_T (fX11_better fu s 1) (fun v s' => ∃ x, v = vL x ∧ y_L0 s' ∧ (∀ a b : Int, 309 ≤ a → a ≤ 7657 → s' a b = s a b) ∧ (∀ j : Int, s' 3 j = s 3 j)) := by
  refine T_mono (sf_X11_better_1 hfu s h.1 h.2.1) (fun v s' hq => ?_)
  obtain ⟨c, f, hv, x, rfl, q1, q2⟩ := hq
  have cf : (∀ a b : Int, 309 ≤ a → a ≤ 7657 → s' a b = s a b) := fun a b q _ => f a b (by first | exact not_false | (unfold R_X11_better_1; omega))
  have hl : y_L0 s' := ⟨c, hv, h.2.2.fr h.1 cf⟩
  have h3 : ∀ j : Int, s' 3 j = s 3 j := fun j => f 3 j (by first | exact not_false | (unfold R_X11_better_1; omega))
  exact ⟨x, rfl, hl, cf, h3⟩
theorem M_better {fu : Nat} (hfu : 8589934592 ≤ fu) {s : z_M} (h : y_L0 s) : z_T (fX12_better fu s 309) (fun v s' => ∃ x, v = vL x ∧ y_L0 s' ∧ (∀ a b : Int, a ≤ 308 ∨ a = 7658 ∨ a = 313 ∨ a = 314 → s' a b = s a b) ∧ (∀ j : Int, s' 312 j = s 312 j)) := by
  refine T_mono (sf_X12_better_309 hfu s h.1 h.2.2.1 h.2.2.2.1 h.2.2.2.2.1 h.2.2.2.2.2) (fun v s' hq => ?_)
  obtain ⟨c, f, hA, hD, hB, hK, x, rfl, q1, q2⟩ := hq
  have hm : ∀ a b : Int, a ≤ 308 ∨ a = 7658 ∨ a = 313 ∨ a = 314 → s' a b = s a b := fun a b q => f a b (by first | exact not_false | (unfold R_X12_better_309; omega))
  have hS : ∀ j : Int, s' 312 j = s 312 j := fun j => f 312 j (by first | exact not_false | (unfold R_X12_better_309; omega))
  exact ⟨x, rfl, ⟨c, y_V16m h.2.1 (fun a b q => hm a b (Or.inl q)), hA, hD, hB, hK⟩, hm, hS⟩
theorem L_marks {fu : Nat} (hfu : 8589934592 ≤ fu) {s : z_M} (h : y_L0 s) (p1 : Int) (b1 : -2147483648 ≤ p1 ∧ p1 ≤ 2147483647) : z_T (fL_marks fu s 1 p1 7658) (fun v s' => ∃ x, v = vI x ∧ y_L0 s' ∧ (∀ a b : Int, 309 ≤ a → a ≤ 7657 → s' a b = s a b) ∧ (∀ j : Int, s' 3 j = s 3 j)) := by
  refine T_of (fL_marks.eq_1 ..) ?_
  refine T_if1 (by decide +kernel) ?_
  refine T_cI (T_mono (sf_X11_marks_1 hfu s h.1 p1 b1 h.2.1) (fun v s' hq => ?_))
  obtain ⟨c, f, hv, hq⟩ := hq
  have cf : (∀ a b : Int, 309 ≤ a → a ≤ 7657 → s' a b = s a b) := fun a b q _ => f a b (by first | exact not_false | (unfold R_X11_marks_1; omega))
  have hl : y_L0 s' := ⟨c, hv, h.2.2.fr h.1 cf⟩
  have h3 : ∀ j : Int, s' 3 j = s 3 j := fun j => f 3 j (by first | exact not_false | (unfold R_X11_marks_1; omega))
  rcases hq with ⟨x, rfl, q1, q2⟩ | rfl
  · refine T_vcI ?_
    refine T_if1 (by decide +kernel) ?_
    refine T_up ?_
    exact T_ret ⟨_, rfl, hl.out (by omega), fun a b p q => by rw [z_up_k (by omega)]; exact cf a b p q, fun j => by rw [z_up_k (by decide)]; exact h3 j⟩
  · refine T_v1I ?_
    exact T_ret ⟨_, rfl, hl, cf, h3⟩
theorem M_marks {fu : Nat} (hfu : 8589934592 ≤ fu) {s : z_M} (h : y_L0 s) (p1 : Int) (b1 : -2147483648 ≤ p1 ∧ p1 ≤ 2147483647) : z_T (fX12_marks fu s 309 p1) (fun v s' => ∃ x, v = vI x ∧ y_L0 s' ∧ (∀ a b : Int, a ≤ 308 ∨ a = 7658 ∨ a = 313 ∨ a = 314 → s' a b = s a b) ∧ (∀ j : Int, s' 312 j = s 312 j)) := by
  refine T_mono (sf_X12_marks_309 hfu s h.1 p1 b1 h.2.2.1 h.2.2.2.1 h.2.2.2.2.1 h.2.2.2.2.2) (fun v s' hq => ?_)
  obtain ⟨c, f, hA, hD, hB, hK, x, rfl, q1, q2⟩ := hq
  have hm : ∀ a b : Int, a ≤ 308 ∨ a = 7658 ∨ a = 313 ∨ a = 314 → s' a b = s a b := fun a b q => f a b (by first | exact not_false | (unfold R_X12_marks_309; omega))
  have hS : ∀ j : Int, s' 312 j = s 312 j := fun j => f 312 j (by first | exact not_false | (unfold R_X12_marks_309; omega))
  exact ⟨x, rfl, ⟨c, y_V16m h.2.1 (fun a b q => hm a b (Or.inl q)), hA, hD, hB, hK⟩, hm, hS⟩
theorem L_moves {fu : Nat} (hfu : 8589934592 ≤ fu) {s : z_M} (h : y_L0 s) : z_T (fX11_moves fu s 1) (fun v s' => ∃ x, v = vI x ∧ y_L0 s' ∧ (∀ a b : Int, 309 ≤ a → a ≤ 7657 → s' a b = s a b) ∧ (∀ j : Int, s' 3 j = s 3 j)) := by
  refine T_mono (sf_X11_moves_1T hfu s h.1 h.2.1) (fun v s' hq => ?_)
  obtain ⟨c, f, hv, h3, x, rfl, q1, q2⟩ := hq
  have cf : (∀ a b : Int, 309 ≤ a → a ≤ 7657 → s' a b = s a b) := fun a b q _ => f a b (by first | exact not_false | (unfold R_X11_moves_1; omega))
  have hl : y_L0 s' := ⟨c, hv, h.2.2.fr h.1 cf⟩
  exact ⟨x, rfl, hl, cf, h3⟩
theorem M_moves {fu : Nat} (hfu : 8589934592 ≤ fu) {s : z_M} (h : y_L0 s) : z_T (fX12_moves fu s 309) (fun v s' => ∃ x, v = vI x ∧ y_L0 s' ∧ (∀ a b : Int, a ≤ 308 ∨ a = 7658 ∨ a = 313 ∨ a = 314 → s' a b = s a b) ∧ (∀ j : Int, s' 312 j = s 312 j)) := by
  refine T_mono (sf_X12_moves_309 hfu s h.1 h.2.2.1 h.2.2.2.1 h.2.2.2.2.1 h.2.2.2.2.2) (fun v s' hq => ?_)
  obtain ⟨c, f, hS, hA, hD, hB, hK, x, rfl, q1, q2⟩ := hq
  have hm : ∀ a b : Int, a ≤ 308 ∨ a = 7658 ∨ a = 313 ∨ a = 314 → s' a b = s a b := fun a b q => f a b (by first | exact not_false | (unfold R_X12_moves_309; omega))
  exact ⟨x, rfl, ⟨c, y_V16m h.2.1 (fun a b q => hm a b (Or.inl q)), hA, hD, hB, hK⟩, hm, hS⟩
theorem L_lend {fu : Nat} (hfu : 8589934592 ≤ fu) {s : z_M} (h : y_L0 s) (p1 : Int) (b1 : -2147483648 ≤ p1 ∧ p1 ≤ 2147483647) : z_T (fL_lend fu s 1 p1 7658) (fun v s' => ∃ x, v = vI x ∧ y_L0 s' ∧ (∀ a b : Int, 309 ≤ a → a ≤ 7657 → s' a b = s a b) ∧ (∀ j : Int, s' 3 j = s 3 j)) := by
  refine T_of (fL_lend.eq_1 ..) ?_
  refine T_if1 (by decide +kernel) ?_
  refine T_cI (T_mono (sf_X11_lend_1 hfu s h.1 p1 b1 h.2.1) (fun v s' hq => ?_))
  obtain ⟨c, f, hv, hq⟩ := hq
  have cf : (∀ a b : Int, 309 ≤ a → a ≤ 7657 → s' a b = s a b) := fun a b q _ => f a b (by first | exact not_false | (unfold R_X11_lend_1; omega))
  have hl : y_L0 s' := ⟨c, hv, h.2.2.fr h.1 cf⟩
  have h3 : ∀ j : Int, s' 3 j = s 3 j := fun j => f 3 j (by first | exact not_false | (unfold R_X11_lend_1; omega))
  rcases hq with ⟨x, rfl, q1, q2⟩ | rfl
  · refine T_vcI ?_
    refine T_if1 (by decide +kernel) ?_
    refine T_up ?_
    exact T_ret ⟨_, rfl, hl.out (by omega), fun a b p q => by rw [z_up_k (by omega)]; exact cf a b p q, fun j => by rw [z_up_k (by decide)]; exact h3 j⟩
  · refine T_v1I ?_
    exact T_ret ⟨_, rfl, hl, cf, h3⟩
theorem M_lend {fu : Nat} (hfu : 8589934592 ≤ fu) {s : z_M} (h : y_L0 s) (p1 : Int) (b1 : -2147483648 ≤ p1 ∧ p1 ≤ 2147483647) : z_T (fX12_lend fu s 309 p1) (fun v s' => ∃ x, v = vI x ∧ y_L0 s' ∧ (∀ a b : Int, a ≤ 308 ∨ a = 7658 ∨ a = 313 ∨ a = 314 → s' a b = s a b) ∧ (∀ j : Int, s' 312 j = s 312 j)) := by
  refine T_mono (sf_X12_lend_309 hfu s h.1 p1 b1 h.2.2.1 h.2.2.2.1 h.2.2.2.2.1 h.2.2.2.2.2) (fun v s' hq => ?_)
  obtain ⟨c, f, hS, hA, hD, hB, hK, x, rfl, q1, q2⟩ := hq
  have hm : ∀ a b : Int, a ≤ 308 ∨ a = 7658 ∨ a = 313 ∨ a = 314 → s' a b = s a b := fun a b q => f a b (by first | exact not_false | (unfold R_X12_lend_309; omega))
  exact ⟨x, rfl, ⟨c, y_V16m h.2.1 (fun a b q => hm a b (Or.inl q)), hA, hD, hB, hK⟩, hm, hS⟩
theorem L_nearest {fu : Nat} (hfu : 8589934592 ≤ fu) {s : z_M} (h : y_L0 s) (p1 : Int) (b1 : -2147483648 ≤ p1 ∧ p1 ≤ 2147483647) : z_T (fL_nearest fu s 1 p1 7658) (fun v s' => ∃ x, v = vI x ∧ y_L0 s' ∧ (∀ a b : Int, 309 ≤ a → a ≤ 7657 → s' a b = s a b) ∧ (∀ j : Int, s' 3 j = s 3 j)) := by
  refine T_of (fL_nearest.eq_1 ..) ?_
  refine T_if1 (by decide +kernel) ?_
  refine T_cI (T_mono (sf_X11_nearest_1 hfu s h.1 p1 b1 h.2.1) (fun v s' hq => ?_))
  obtain ⟨c, f, hv, hq⟩ := hq
  have cf : (∀ a b : Int, 309 ≤ a → a ≤ 7657 → s' a b = s a b) := fun a b q _ => f a b (by first | exact not_false | (unfold R_X11_nearest_1; omega))
  have hl : y_L0 s' := ⟨c, hv, h.2.2.fr h.1 cf⟩
  have h3 : ∀ j : Int, s' 3 j = s 3 j := fun j => f 3 j (by first | exact not_false | (unfold R_X11_nearest_1; omega))
  rcases hq with ⟨x, rfl, q1, q2⟩ | rfl
  · refine T_vcI ?_
    refine T_if1 (by decide +kernel) ?_
    refine T_up ?_
    exact T_ret ⟨_, rfl, hl.out (by omega), fun a b p q => by rw [z_up_k (by omega)]; exact cf a b p q, fun j => by rw [z_up_k (by decide)]; exact h3 j⟩
  · refine T_v1I ?_
    exact T_ret ⟨_, rfl, hl, cf, h3⟩
theorem M_nearest {fu : Nat} (hfu : 8589934592 ≤ fu) {s : z_M} (h : y_L0 s) (p1 : Int) (b1 : -2147483648 ≤ p1 ∧ p1 ≤ 2147483647) : z_T (fX12_nearest fu s 309 p1) (fun v s' => ∃ x, v = vI x ∧ y_L0 s' ∧ (∀ a b : Int, a ≤ 308 ∨ a = 7658 ∨ a = 313 ∨ a = 314 → s' a b = s a b) ∧ (∀ j : Int, s' 312 j = s 312 j)) := by
  refine T_mono (sf_X12_nearest_309 hfu s h.1 p1 b1 h.2.2.1 h.2.2.2.1 h.2.2.2.2.1 h.2.2.2.2.2) (fun v s' hq => ?_)
  obtain ⟨c, f, hA, hD, hB, hK, x, rfl, q1, q2⟩ := hq
  have hm : ∀ a b : Int, a ≤ 308 ∨ a = 7658 ∨ a = 313 ∨ a = 314 → s' a b = s a b := fun a b q => f a b (by first | exact not_false | (unfold R_X12_nearest_309; omega))
  have hS : ∀ j : Int, s' 312 j = s 312 j := fun j => f 312 j (by first | exact not_false | (unfold R_X12_nearest_309; omega))
  exact ⟨x, rfl, ⟨c, y_V16m h.2.1 (fun a b q => hm a b (Or.inl q)), hA, hD, hB, hK⟩, hm, hS⟩
theorem L_partner {fu : Nat} (hfu : 8589934592 ≤ fu) {s : z_M} (h : y_L0 s) (p1 : Int) (b1 : -2147483648 ≤ p1 ∧ p1 ≤ 2147483647) : z_T (fL_partner fu s 1 p1 7658) (fun v s' => ∃ x, v = vI x ∧ y_L0 s' ∧ (∀ a b : Int, 309 ≤ a → a ≤ 7657 → s' a b = s a b) ∧ (∀ j : Int, s' 3 j = s 3 j)) := by
  refine T_of (fL_partner.eq_1 ..) ?_
  refine T_if1 (by decide +kernel) ?_
  refine T_cI (T_mono (sf_X11_partner_1 hfu s h.1 p1 b1 h.2.1) (fun v s' hq => ?_))
  obtain ⟨c, f, hv, hq⟩ := hq
  have cf : (∀ a b : Int, 309 ≤ a → a ≤ 7657 → s' a b = s a b) := fun a b q _ => f a b (by first | exact not_false | (unfold R_X11_partner_1; omega))
  have hl : y_L0 s' := ⟨c, hv, h.2.2.fr h.1 cf⟩
  have h3 : ∀ j : Int, s' 3 j = s 3 j := fun j => f 3 j (by first | exact not_false | (unfold R_X11_partner_1; omega))
  rcases hq with ⟨x, rfl, q1, q2⟩ | rfl
  · refine T_vcI ?_
    refine T_if1 (by decide +kernel) ?_
    refine T_up ?_
    exact T_ret ⟨_, rfl, hl.out (by omega), fun a b p q => by rw [z_up_k (by omega)]; exact cf a b p q, fun j => by rw [z_up_k (by decide)]; exact h3 j⟩
  · refine T_v0I ?_
    exact T_ret ⟨_, rfl, hl, cf, h3⟩
theorem M_partner {fu : Nat} (hfu : 8589934592 ≤ fu) {s : z_M} (h : y_L0 s) (p1 : Int) (b1 : -2147483648 ≤ p1 ∧ p1 ≤ 2147483647) : z_T (fX12_partner fu s 309 p1) (fun v s' => ∃ x, v = vI x ∧ y_L0 s' ∧ (∀ a b : Int, a ≤ 308 ∨ a = 7658 ∨ a = 313 ∨ a = 314 → s' a b = s a b) ∧ (∀ j : Int, s' 312 j = s 312 j)) := by
  refine T_mono (sf_X12_partner_309 hfu s h.1 p1 b1 h.2.2.1 h.2.2.2.1 h.2.2.2.2.1 h.2.2.2.2.2) (fun v s' hq => ?_)
  obtain ⟨c, f, hA, hD, hB, hK, x, rfl, q1, q2⟩ := hq
  have hm : ∀ a b : Int, a ≤ 308 ∨ a = 7658 ∨ a = 313 ∨ a = 314 → s' a b = s a b := fun a b q => f a b (by first | exact not_false | (unfold R_X12_partner_309; omega))
  have hS : ∀ j : Int, s' 312 j = s 312 j := fun j => f 312 j (by first | exact not_false | (unfold R_X12_partner_309; omega))
  exact ⟨x, rfl, ⟨c, y_V16m h.2.1 (fun a b q => hm a b (Or.inl q)), hA, hD, hB, hK⟩, hm, hS⟩
theorem L_side {fu : Nat} (hfu : 8589934592 ≤ fu) {s : z_M} (h : y_L0 s) (p1 : Int) (p2 : Int) (p3 : Int) (b1 : -2147483648 ≤ p1 ∧ p1 ≤ 2147483647) (b2 : -2147483648 ≤ p2 ∧ p2 ≤ 2147483647) (b3 : -2147483648 ≤ p3 ∧ p3 ≤ 2147483647) : z_T (fL_side fu s 1 p1 p2 p3 7658) (fun v s' => ∃ x, v = vI x ∧ y_L0 s' ∧ (∀ a b : Int, 309 ≤ a → a ≤ 7657 → s' a b = s a b) ∧ (∀ j : Int, s' 3 j = s 3 j)) := by
  refine T_of (fL_side.eq_1 ..) ?_
  refine T_if1 (by decide +kernel) ?_
  refine T_cI (T_mono (sf_X11_side_1 hfu s h.1 p1 p2 p3 b1 b2 b3 h.2.1) (fun v s' hq => ?_))
  obtain ⟨c, f, hv, hq⟩ := hq
  have cf : (∀ a b : Int, 309 ≤ a → a ≤ 7657 → s' a b = s a b) := fun a b q _ => f a b (by first | exact not_false | (unfold R_X11_side_1; omega))
  have hl : y_L0 s' := ⟨c, hv, h.2.2.fr h.1 cf⟩
  have h3 : ∀ j : Int, s' 3 j = s 3 j := fun j => f 3 j (by first | exact not_false | (unfold R_X11_side_1; omega))
  rcases hq with ⟨x, rfl, q1, q2⟩ | rfl | rfl
  · refine T_vcI ?_
    refine T_if1 (by decide +kernel) ?_
    refine T_up ?_
    exact T_ret ⟨_, rfl, hl.out (by omega), fun a b p q => by rw [z_up_k (by omega)]; exact cf a b p q, fun j => by rw [z_up_k (by decide)]; exact h3 j⟩
  · refine T_v0I ?_
    exact T_ret ⟨_, rfl, hl, cf, h3⟩
  · refine T_v1I ?_
    exact T_ret ⟨_, rfl, hl, cf, h3⟩
theorem M_side {fu : Nat} (hfu : 8589934592 ≤ fu) {s : z_M} (h : y_L0 s) (p1 : Int) (p2 : Int) (p3 : Int) (b1 : -2147483648 ≤ p1 ∧ p1 ≤ 2147483647) (b2 : -2147483648 ≤ p2 ∧ p2 ≤ 2147483647) (b3 : -2147483648 ≤ p3 ∧ p3 ≤ 2147483647) : z_T (fX12_side fu s 309 p1 p2 p3) (fun v s' => ∃ x, v = vI x ∧ y_L0 s' ∧ (∀ a b : Int, a ≤ 308 ∨ a = 7658 ∨ a = 313 ∨ a = 314 → s' a b = s a b) ∧ (∀ j : Int, s' 312 j = s 312 j)) := by
  refine T_mono (sf_X12_side_309 hfu s h.1 p1 p2 p3 b1 b2 b3 h.2.2.1 h.2.2.2.1 h.2.2.2.2.1 h.2.2.2.2.2) (fun v s' hq => ?_)
  obtain ⟨c, f, hA, hD, hB, hK, x, rfl, q1, q2⟩ := hq
  have hm : ∀ a b : Int, a ≤ 308 ∨ a = 7658 ∨ a = 313 ∨ a = 314 → s' a b = s a b := fun a b q => f a b (by first | exact not_false | (unfold R_X12_side_309; omega))
  have hS : ∀ j : Int, s' 312 j = s 312 j := fun j => f 312 j (by first | exact not_false | (unfold R_X12_side_309; omega))
  exact ⟨x, rfl, ⟨c, y_V16m h.2.1 (fun a b q => hm a b (Or.inl q)), hA, hD, hB, hK⟩, hm, hS⟩
theorem L_gutter {fu : Nat} (hfu : 8589934592 ≤ fu) {s : z_M} (h : y_L0 s) (p1 : Int) (b1 : -2147483648 ≤ p1 ∧ p1 ≤ 2147483647) : z_T (fL_gutter fu s 1 p1 7658) (fun v s' => ∃ x, v = vI x ∧ y_L0 s' ∧ (∀ a b : Int, 309 ≤ a → a ≤ 7657 → s' a b = s a b) ∧ (∀ j : Int, s' 3 j = s 3 j)) := by
  refine T_of (fL_gutter.eq_1 ..) ?_
  refine T_if1 (by decide +kernel) ?_
  refine T_cI (T_mono (sf_X11_gutter_1 hfu s h.1 p1 b1 h.2.1) (fun v s' hq => ?_))
  obtain ⟨c, f, hv, hq⟩ := hq
  have cf : (∀ a b : Int, 309 ≤ a → a ≤ 7657 → s' a b = s a b) := fun a b q _ => f a b (by first | exact not_false | (unfold R_X11_gutter_1; omega))
  have hl : y_L0 s' := ⟨c, hv, h.2.2.fr h.1 cf⟩
  have h3 : ∀ j : Int, s' 3 j = s 3 j := fun j => f 3 j (by first | exact not_false | (unfold R_X11_gutter_1; omega))
  rcases hq with ⟨x, rfl, q1, q2⟩ | rfl
  · refine T_vcI ?_
    refine T_if1 (by decide +kernel) ?_
    refine T_up ?_
    exact T_ret ⟨_, rfl, hl.out (by omega), fun a b p q => by rw [z_up_k (by omega)]; exact cf a b p q, fun j => by rw [z_up_k (by decide)]; exact h3 j⟩
  · refine T_v0I ?_
    exact T_ret ⟨_, rfl, hl, cf, h3⟩
theorem M_gutter {fu : Nat} (hfu : 8589934592 ≤ fu) {s : z_M} (h : y_L0 s) (p1 : Int) (b1 : -2147483648 ≤ p1 ∧ p1 ≤ 2147483647) : z_T (fX12_gutter fu s 309 p1) (fun v s' => ∃ x, v = vI x ∧ y_L0 s' ∧ (∀ a b : Int, a ≤ 308 ∨ a = 7658 ∨ a = 313 ∨ a = 314 → s' a b = s a b) ∧ (∀ j : Int, s' 312 j = s 312 j)) := by
  refine T_mono (sf_X12_gutter_309 hfu s h.1 p1 b1 h.2.2.1 h.2.2.2.1 h.2.2.2.2.1 h.2.2.2.2.2) (fun v s' hq => ?_)
  obtain ⟨c, f, hA, hD, hB, hK, x, rfl, q1, q2⟩ := hq
  have hm : ∀ a b : Int, a ≤ 308 ∨ a = 7658 ∨ a = 313 ∨ a = 314 → s' a b = s a b := fun a b q => f a b (by first | exact not_false | (unfold R_X12_gutter_309; omega))
  have hS : ∀ j : Int, s' 312 j = s 312 j := fun j => f 312 j (by first | exact not_false | (unfold R_X12_gutter_309; omega))
  exact ⟨x, rfl, ⟨c, y_V16m h.2.1 (fun a b q => hm a b (Or.inl q)), hA, hD, hB, hK⟩, hm, hS⟩
theorem L_clash {fu : Nat} (hfu : 8589934592 ≤ fu) {s : z_M} (h : y_L0 s) (p1 : Int) (b1 : -2147483648 ≤ p1 ∧ p1 ≤ 2147483647) : z_T (fL_clash fu s 1 p1 7658) (fun v s' => ∃ x, v = vI x ∧ y_L0 s' ∧ (∀ a b : Int, 309 ≤ a → a ≤ 7657 → s' a b = s a b) ∧ (∀ j : Int, s' 3 j = s 3 j)) := by
  refine T_of (fL_clash.eq_1 ..) ?_
  refine T_if1 (by decide +kernel) ?_
  refine T_cI (T_mono (sf_X11_clash_1 hfu s h.1 p1 b1 h.2.1) (fun v s' hq => ?_))
  obtain ⟨c, f, hv, hq⟩ := hq
  have cf : (∀ a b : Int, 309 ≤ a → a ≤ 7657 → s' a b = s a b) := fun a b q _ => f a b (by first | exact not_false | (unfold R_X11_clash_1; omega))
  have hl : y_L0 s' := ⟨c, hv, h.2.2.fr h.1 cf⟩
  have h3 : ∀ j : Int, s' 3 j = s 3 j := fun j => f 3 j (by first | exact not_false | (unfold R_X11_clash_1; omega))
  rcases hq with ⟨x, rfl, q1, q2⟩ | rfl
  · refine T_vcI ?_
    refine T_if1 (by decide +kernel) ?_
    refine T_up ?_
    exact T_ret ⟨_, rfl, hl.out (by omega), fun a b p q => by rw [z_up_k (by omega)]; exact cf a b p q, fun j => by rw [z_up_k (by decide)]; exact h3 j⟩
  · refine T_v0I ?_
    exact T_ret ⟨_, rfl, hl, cf, h3⟩
theorem M_clash {fu : Nat} (hfu : 8589934592 ≤ fu) {s : z_M} (h : y_L0 s) (p1 : Int) (b1 : -2147483648 ≤ p1 ∧ p1 ≤ 2147483647) : z_T (fX12_clash fu s 309 p1) (fun v s' => ∃ x, v = vI x ∧ y_L0 s' ∧ (∀ a b : Int, a ≤ 308 ∨ a = 7658 ∨ a = 313 ∨ a = 314 → s' a b = s a b) ∧ (∀ j : Int, s' 312 j = s 312 j)) := by
  refine T_mono (sf_X12_clash_309 hfu s h.1 p1 b1 h.2.2.1 h.2.2.2.1 h.2.2.2.2.1 h.2.2.2.2.2) (fun v s' hq => ?_)
  obtain ⟨c, f, hA, hD, hB, hK, x, rfl, q1, q2⟩ := hq
  have hm : ∀ a b : Int, a ≤ 308 ∨ a = 7658 ∨ a = 313 ∨ a = 314 → s' a b = s a b := fun a b q => f a b (by first | exact not_false | (unfold R_X12_clash_309; omega))
  have hS : ∀ j : Int, s' 312 j = s 312 j := fun j => f 312 j (by first | exact not_false | (unfold R_X12_clash_309; omega))
  exact ⟨x, rfl, ⟨c, y_V16m h.2.1 (fun a b q => hm a b (Or.inl q)), hA, hD, hB, hK⟩, hm, hS⟩
theorem L_thick {fu : Nat} (hfu : 8589934592 ≤ fu) {s : z_M} (h : y_L0 s) (p1 : Int) (p2 : Int) (b1 : -2147483648 ≤ p1 ∧ p1 ≤ 2147483647) (b2 : -2147483648 ≤ p2 ∧ p2 ≤ 2147483647) : z_T (fL_thick fu s 1 p1 p2 7658) (fun v s' => ∃ x, v = vI x ∧ y_L0 s' ∧ (∀ a b : Int, 309 ≤ a → a ≤ 7657 → s' a b = s a b) ∧ (∀ j : Int, s' 3 j = s 3 j)) := by
  refine T_of (fL_thick.eq_1 ..) ?_
  refine T_if1 (by decide +kernel) ?_
  refine T_cI (T_mono (sf_X11_thick_1 hfu s h.1 p1 p2 b1 b2 h.2.1) (fun v s' hq => ?_))
  obtain ⟨c, f, hv, hq⟩ := hq
  have cf : (∀ a b : Int, 309 ≤ a → a ≤ 7657 → s' a b = s a b) := fun a b q _ => f a b (by first | exact not_false | (unfold R_X11_thick_1; omega))
  have hl : y_L0 s' := ⟨c, hv, h.2.2.fr h.1 cf⟩
  have h3 : ∀ j : Int, s' 3 j = s 3 j := fun j => f 3 j (by first | exact not_false | (unfold R_X11_thick_1; omega))
  rcases hq with ⟨x, rfl, q1, q2⟩ | rfl | rfl
  · refine T_vcI ?_
    refine T_if1 (by decide +kernel) ?_
    refine T_up ?_
    exact T_ret ⟨_, rfl, hl.out (by omega), fun a b p q => by rw [z_up_k (by omega)]; exact cf a b p q, fun j => by rw [z_up_k (by decide)]; exact h3 j⟩
  · refine T_v0I ?_
    exact T_ret ⟨_, rfl, hl, cf, h3⟩
  · refine T_v1I ?_
    exact T_ret ⟨_, rfl, hl, cf, h3⟩
theorem M_thick {fu : Nat} (hfu : 8589934592 ≤ fu) {s : z_M} (h : y_L0 s) (p1 : Int) (p2 : Int) (b1 : -2147483648 ≤ p1 ∧ p1 ≤ 2147483647) (b2 : -2147483648 ≤ p2 ∧ p2 ≤ 2147483647) : z_T (fX12_thick fu s 309 p1 p2) (fun v s' => ∃ x, v = vI x ∧ y_L0 s' ∧ (∀ a b : Int, a ≤ 308 ∨ a = 7658 ∨ a = 313 ∨ a = 314 → s' a b = s a b) ∧ (∀ j : Int, s' 312 j = s 312 j)) := by
  refine T_mono (sf_X12_thick_309 hfu s h.1 p1 p2 b1 b2 h.2.2.1 h.2.2.2.1 h.2.2.2.2.1 h.2.2.2.2.2) (fun v s' hq => ?_)
  obtain ⟨c, f, hA, hD, hB, hK, x, rfl, q1, q2⟩ := hq
  have hm : ∀ a b : Int, a ≤ 308 ∨ a = 7658 ∨ a = 313 ∨ a = 314 → s' a b = s a b := fun a b q => f a b (by first | exact not_false | (unfold R_X12_thick_309; omega))
  have hS : ∀ j : Int, s' 312 j = s 312 j := fun j => f 312 j (by first | exact not_false | (unfold R_X12_thick_309; omega))
  exact ⟨x, rfl, ⟨c, y_V16m h.2.1 (fun a b q => hm a b (Or.inl q)), hA, hD, hB, hK⟩, hm, hS⟩
theorem L_pages {fu : Nat} (hfu : 8589934592 ≤ fu) {s : z_M} (h : y_L0 s) (p1 : Int) (b1 : -2147483648 ≤ p1 ∧ p1 ≤ 2147483647) : z_T (fL_pages fu s 1 p1 7658) (fun v s' => ∃ x, v = vI x ∧ y_L0 s' ∧ (∀ a b : Int, 309 ≤ a → a ≤ 7657 → s' a b = s a b) ∧ (∀ j : Int, s' 3 j = s 3 j)) := by
  refine T_of (fL_pages.eq_1 ..) ?_
  refine T_if1 (by decide +kernel) ?_
  refine T_cI (T_mono (sf_X11_pages_1 hfu s h.1 p1 b1 h.2.1) (fun v s' hq => ?_))
  obtain ⟨c, f, hv, hq⟩ := hq
  have cf : (∀ a b : Int, 309 ≤ a → a ≤ 7657 → s' a b = s a b) := fun a b q _ => f a b (by first | exact not_false | (unfold R_X11_pages_1; omega))
  have hl : y_L0 s' := ⟨c, hv, h.2.2.fr h.1 cf⟩
  have h3 : ∀ j : Int, s' 3 j = s 3 j := fun j => f 3 j (by first | exact not_false | (unfold R_X11_pages_1; omega))
  rcases hq with ⟨x, rfl, q1, q2⟩ | rfl
  · refine T_vcI ?_
    refine T_if1 (by decide +kernel) ?_
    refine T_up ?_
    exact T_ret ⟨_, rfl, hl.out (by omega), fun a b p q => by rw [z_up_k (by omega)]; exact cf a b p q, fun j => by rw [z_up_k (by decide)]; exact h3 j⟩
  · refine T_v1I ?_
    exact T_ret ⟨_, rfl, hl, cf, h3⟩
theorem M_pages {fu : Nat} (hfu : 8589934592 ≤ fu) {s : z_M} (h : y_L0 s) (p1 : Int) (b1 : -2147483648 ≤ p1 ∧ p1 ≤ 2147483647) : z_T (fX12_pages fu s 309 p1) (fun v s' => ∃ x, v = vI x ∧ y_L0 s' ∧ (∀ a b : Int, a ≤ 308 ∨ a = 7658 ∨ a = 313 ∨ a = 314 → s' a b = s a b) ∧ (∀ j : Int, s' 312 j = s 312 j)) := by
  refine T_mono (sf_X12_pages_309 hfu s h.1 p1 b1 h.2.2.1 h.2.2.2.1 h.2.2.2.2.1 h.2.2.2.2.2) (fun v s' hq => ?_)
  obtain ⟨c, f, hA, hD, hB, hK, x, rfl, q1, q2⟩ := hq
  have hm : ∀ a b : Int, a ≤ 308 ∨ a = 7658 ∨ a = 313 ∨ a = 314 → s' a b = s a b := fun a b q => f a b (by first | exact not_false | (unfold R_X12_pages_309; omega))
  have hS : ∀ j : Int, s' 312 j = s 312 j := fun j => f 312 j (by first | exact not_false | (unfold R_X12_pages_309; omega))
  exact ⟨x, rfl, ⟨c, y_V16m h.2.1 (fun a b q => hm a b (Or.inl q)), hA, hD, hB, hK⟩, hm, hS⟩
theorem L_page {fu : Nat} (hfu : 8589934592 ≤ fu) {s : z_M} (h : y_L0 s) (p1 : Int) (p2 : Int) (p3 : Int) (b1 : -2147483648 ≤ p1 ∧ p1 ≤ 2147483647) (b2 : -2147483648 ≤ p2 ∧ p2 ≤ 2147483647) (b3 : -2147483648 ≤ p3 ∧ p3 ≤ 2147483647) : z_T (fL_page fu s 1 p1 p2 p3 7658) (fun v s' => ∃ x, v = vI x ∧ y_L0 s' ∧ (∀ a b : Int, 309 ≤ a → a ≤ 7657 → s' a b = s a b) ∧ (∀ j : Int, s' 3 j = s 3 j)) := by
  refine T_of (fL_page.eq_1 ..) ?_
  refine T_if1 (by decide +kernel) ?_
  refine T_cI (T_mono (sf_X11_page_1 hfu s h.1 p1 p2 p3 b1 b2 b3 h.2.1) (fun v s' hq => ?_))
  obtain ⟨c, f, hv, hq⟩ := hq
  have cf : (∀ a b : Int, 309 ≤ a → a ≤ 7657 → s' a b = s a b) := fun a b q _ => f a b (by first | exact not_false | (unfold R_X11_page_1; omega))
  have hl : y_L0 s' := ⟨c, hv, h.2.2.fr h.1 cf⟩
  have h3 : ∀ j : Int, s' 3 j = s 3 j := fun j => f 3 j (by first | exact not_false | (unfold R_X11_page_1; omega))
  rcases hq with ⟨x, rfl, q1, q2⟩ | rfl
  · refine T_vcI ?_
    refine T_if1 (by decide +kernel) ?_
    refine T_up ?_
    exact T_ret ⟨_, rfl, hl.out (by omega), fun a b p q => by rw [z_up_k (by omega)]; exact cf a b p q, fun j => by rw [z_up_k (by decide)]; exact h3 j⟩
  · refine T_v1I ?_
    exact T_ret ⟨_, rfl, hl, cf, h3⟩
theorem M_page {fu : Nat} (hfu : 8589934592 ≤ fu) {s : z_M} (h : y_L0 s) (p1 : Int) (p2 : Int) (p3 : Int) (b1 : -2147483648 ≤ p1 ∧ p1 ≤ 2147483647) (b2 : -2147483648 ≤ p2 ∧ p2 ≤ 2147483647) (b3 : -2147483648 ≤ p3 ∧ p3 ≤ 2147483647) : z_T (fX12_page fu s 309 p1 p2 p3) (fun v s' => ∃ x, v = vI x ∧ y_L0 s' ∧ (∀ a b : Int, a ≤ 308 ∨ a = 7658 ∨ a = 313 ∨ a = 314 → s' a b = s a b) ∧ (∀ j : Int, s' 312 j = s 312 j)) := by
  refine T_mono (sf_X12_page_309 hfu s h.1 p1 p2 p3 b1 b2 b3 h.2.2.1 h.2.2.2.1 h.2.2.2.2.1 h.2.2.2.2.2) (fun v s' hq => ?_)
  obtain ⟨c, f, hA, hD, hB, hK, x, rfl, q1, q2⟩ := hq
  have hm : ∀ a b : Int, a ≤ 308 ∨ a = 7658 ∨ a = 313 ∨ a = 314 → s' a b = s a b := fun a b q => f a b (by first | exact not_false | (unfold R_X12_page_309; omega))
  have hS : ∀ j : Int, s' 312 j = s 312 j := fun j => f 312 j (by first | exact not_false | (unfold R_X12_page_309; omega))
  exact ⟨x, rfl, ⟨c, y_V16m h.2.1 (fun a b q => hm a b (Or.inl q)), hA, hD, hB, hK⟩, hm, hS⟩
theorem L_narrow {fu : Nat} (hfu : 8589934592 ≤ fu) {s : z_M} (h : y_L0 s) (p1 : Int) (b1 : -2147483648 ≤ p1 ∧ p1 ≤ 2147483647) : z_T (fL_narrow fu s 1 p1 7658) (fun v s' => ∃ x, v = vI x ∧ y_L0 s' ∧ (∀ a b : Int, 309 ≤ a → a ≤ 7657 → s' a b = s a b) ∧ (∀ j : Int, s' 3 j = s 3 j)) := by
  refine T_of (fL_narrow.eq_1 ..) ?_
  refine T_if1 (by decide +kernel) ?_
  refine T_cI (T_mono (sf_X11_narrow_1 hfu s h.1 p1 b1 h.2.1) (fun v s' hq => ?_))
  obtain ⟨c, f, hv, hq⟩ := hq
  have cf : (∀ a b : Int, 309 ≤ a → a ≤ 7657 → s' a b = s a b) := fun a b q _ => f a b (by first | exact not_false | (unfold R_X11_narrow_1; omega))
  have hl : y_L0 s' := ⟨c, hv, h.2.2.fr h.1 cf⟩
  have h3 : ∀ j : Int, s' 3 j = s 3 j := fun j => f 3 j (by first | exact not_false | (unfold R_X11_narrow_1; omega))
  rcases hq with ⟨x, rfl, q1, q2⟩ | rfl
  · refine T_vcI ?_
    refine T_if1 (by decide +kernel) ?_
    refine T_up ?_
    exact T_ret ⟨_, rfl, hl.out (by omega), fun a b p q => by rw [z_up_k (by omega)]; exact cf a b p q, fun j => by rw [z_up_k (by decide)]; exact h3 j⟩
  · refine T_v1I ?_
    exact T_ret ⟨_, rfl, hl, cf, h3⟩
theorem M_narrow {fu : Nat} (hfu : 8589934592 ≤ fu) {s : z_M} (h : y_L0 s) (p1 : Int) (b1 : -2147483648 ≤ p1 ∧ p1 ≤ 2147483647) : z_T (fX12_narrow fu s 309 p1) (fun v s' => ∃ x, v = vI x ∧ y_L0 s' ∧ (∀ a b : Int, a ≤ 308 ∨ a = 7658 ∨ a = 313 ∨ a = 314 → s' a b = s a b) ∧ (∀ j : Int, s' 312 j = s 312 j)) := by
  refine T_mono (sf_X12_narrow_309 hfu s h.1 p1 b1 h.2.2.1 h.2.2.2.1 h.2.2.2.2.1 h.2.2.2.2.2) (fun v s' hq => ?_)
  obtain ⟨c, f, hA, hD, hB, hK, x, rfl, q1, q2⟩ := hq
  have hm : ∀ a b : Int, a ≤ 308 ∨ a = 7658 ∨ a = 313 ∨ a = 314 → s' a b = s a b := fun a b q => f a b (by first | exact not_false | (unfold R_X12_narrow_309; omega))
  have hS : ∀ j : Int, s' 312 j = s 312 j := fun j => f 312 j (by first | exact not_false | (unfold R_X12_narrow_309; omega))
  exact ⟨x, rfl, ⟨c, y_V16m h.2.1 (fun a b q => hm a b (Or.inl q)), hA, hD, hB, hK⟩, hm, hS⟩
theorem L_status {fu : Nat} (hfu : 8589934592 ≤ fu) {s : z_M} (h : y_L0 s) (p1 : Int) (b1 : -2147483648 ≤ p1 ∧ p1 ≤ 2147483647) : z_T (fX11_status fu s 1 p1) (fun v s' => ∃ x, v = vI x ∧ y_L0 s' ∧ (∀ a b : Int, 309 ≤ a → a ≤ 7657 → s' a b = s a b) ∧ (∀ j : Int, s' 3 j = s 3 j)) := by
  refine T_mono (sf_X11_status_1 hfu s h.1 p1 b1 h.2.1) (fun v s' hq => ?_)
  obtain ⟨c, f, hv, x, rfl, q1, q2⟩ := hq
  have cf : (∀ a b : Int, 309 ≤ a → a ≤ 7657 → s' a b = s a b) := fun a b q _ => f a b (by first | exact not_false | (unfold R_X11_status_1; omega))
  have hl : y_L0 s' := ⟨c, hv, h.2.2.fr h.1 cf⟩
  have h3 : ∀ j : Int, s' 3 j = s 3 j := fun j => f 3 j (by first | exact not_false | (unfold R_X11_status_1; omega))
  exact ⟨x, rfl, hl, cf, h3⟩
theorem M_status {fu : Nat} (hfu : 8589934592 ≤ fu) {s : z_M} (h : y_L0 s) (p1 : Int) (b1 : -2147483648 ≤ p1 ∧ p1 ≤ 2147483647) : z_T (fX12_status fu s 309 p1) (fun v s' => ∃ x, v = vI x ∧ y_L0 s' ∧ (∀ a b : Int, a ≤ 308 ∨ a = 7658 ∨ a = 313 ∨ a = 314 → s' a b = s a b) ∧ (∀ j : Int, s' 312 j = s 312 j)) := by
  refine T_mono (sf_X12_status_309 hfu s h.1 p1 b1 h.2.2.1 h.2.2.2.1 h.2.2.2.2.1 h.2.2.2.2.2) (fun v s' hq => ?_)
  obtain ⟨c, f, hA, hD, hB, hK, x, rfl, q1, q2⟩ := hq
  have hm : ∀ a b : Int, a ≤ 308 ∨ a = 7658 ∨ a = 313 ∨ a = 314 → s' a b = s a b := fun a b q => f a b (by first | exact not_false | (unfold R_X12_status_309; omega))
  have hS : ∀ j : Int, s' 312 j = s 312 j := fun j => f 312 j (by first | exact not_false | (unfold R_X12_status_309; omega))
  exact ⟨x, rfl, ⟨c, y_V16m h.2.1 (fun a b q => hm a b (Or.inl q)), hA, hD, hB, hK⟩, hm, hS⟩
theorem k_188 {fu L : Nat} (hfu : 8589934592 ≤ fu) (hL : L ≤ 2000000000) {xs : Nat → Int32} {s : z_M} {a4 : Int} {r : z_M → Int → z_O} {k : z_M → z_O} {P : z_V → z_M → Prop} (h : y_L0 s) (ht : y_I6 s) (h4 : 0 ≤ a4 ∧ a4 + 6 ≤ L) (hr : ∀ s' v, y_L0 s' → y_I6 s' → v = a4 + 6 → z_T (r s' v) P) : z_T (fL_law_J188 fu L xs s 1 309 7658 a4 r k) P := by
  refine T_of (fL_law_J188.eq_1 ..) ?_
  refine T_leq (fun i1 f1 => ?_)
  have g1 := z_wx f1 (by omega)
  refine T_if1 (by omega) ?_
  refine T_leq (fun p1 e1 => ?_)
  have b1 : -2147483648 ≤ p1 ∧ p1 ≤ 2147483647 := by rw [← e1]; exact z_i32b _
  refine T_leq (fun i2 f2 => ?_)
  have g2 := z_wx f2 (by omega)
  refine T_if1 (by omega) ?_
  refine T_leq (fun p2 e2 => ?_)
  have b2 : -2147483648 ≤ p2 ∧ p2 ≤ 2147483647 := by rw [← e2]; exact z_i32b _
  refine T_leq (fun i3 f3 => ?_)
  have g3 := z_wx f3 (by omega)
  refine T_if1 (by omega) ?_
  refine T_leq (fun p3 e3 => ?_)
  have b3 : -2147483648 ≤ p3 ∧ p3 ≤ 2147483647 := by rw [← e3]; exact z_i32b _
  refine T_leq (fun i4 f4 => ?_)
  have g4 := z_wx f4 (by omega)
  refine T_if1 (by omega) ?_
  refine T_leq (fun p4 e4 => ?_)
  have b4 : -2147483648 ≤ p4 ∧ p4 ≤ 2147483647 := by rw [← e4]; exact z_i32b _
  refine T_leq (fun i5 f5 => ?_)
  have g5 := z_wx f5 (by omega)
  refine T_if1 (by omega) ?_
  refine T_leq (fun p5 e5 => ?_)
  have b5 : -2147483648 ≤ p5 ∧ p5 ≤ 2147483647 := by rw [← e5]; exact z_i32b _
  refine T_if1 (by decide +kernel) ?_
  refine T_useI (L_feed hfu h p1 p2 p3 p4 p5 b1 b2 b3 b4 b5) (fun v s1 hq => ?_)
  obtain ⟨x, rfl, h1, t1, t2⟩ := hq
  refine T_vI ?_
  refine T_leq (fun j1 f => ?_)
  have q9 : i1 = j1 := f1.symm.trans f
  subst q9
  refine T_if1 (by omega) ?_
  refine T_leq (fun p9 e => ?_)
  have q9 : p1 = p9 := e1.symm.trans e
  subst q9
  clear f e
  refine T_leq (fun j2 f => ?_)
  have q9 : i2 = j2 := f2.symm.trans f
  subst q9
  refine T_if1 (by omega) ?_
  refine T_leq (fun p9 e => ?_)
  have q9 : p2 = p9 := e2.symm.trans e
  subst q9
  clear f e
  refine T_leq (fun j3 f => ?_)
  have q9 : i3 = j3 := f3.symm.trans f
  subst q9
  refine T_if1 (by omega) ?_
  refine T_leq (fun p9 e => ?_)
  have q9 : p3 = p9 := e3.symm.trans e
  subst q9
  clear f e
  refine T_leq (fun j4 f => ?_)
  have q9 : i4 = j4 := f4.symm.trans f
  subst q9
  refine T_if1 (by omega) ?_
  refine T_leq (fun p9 e => ?_)
  have q9 : p4 = p9 := e4.symm.trans e
  subst q9
  clear f e
  refine T_leq (fun j5 f => ?_)
  have q9 : i5 = j5 := f5.symm.trans f
  subst q9
  refine T_if1 (by omega) ?_
  refine T_leq (fun p9 e => ?_)
  have q9 : p5 = p9 := e5.symm.trans e
  subst q9
  clear f e
  refine T_if1 (by decide +kernel) ?_
  refine T_useI (M_feed hfu h1 p1 p2 p3 p4 p5 b1 b2 b3 b4 b5) (fun v s2 hq => ?_)
  obtain ⟨y, rfl, h2, t3, t4⟩ := hq
  refine T_vI ?_
  refine T_of (fL_law_J1338.eq_1 ..) ?_
  refine T_leq (fun z e => ?_)
  exact hr _ _ h2 (ht.step t2 t1 t3 t4) (z_wx e (by omega))
theorem k_261 {fu L : Nat} (hfu : 8589934592 ≤ fu) (hL : L ≤ 2000000000) {xs : Nat → Int32} {s : z_M} {a4 : Int} {r : z_M → Int → z_O} {k : z_M → z_O} {P : z_V → z_M → Prop} (h : y_L0 s) (ht : y_I6 s) (h4 : 0 ≤ a4 ∧ a4 + 6 ≤ L) (hr : ∀ s' v, y_L0 s' → y_I6 s' → v = a4 + 6 → z_T (r s' v) P) : z_T (fL_law_J261 fu L xs s 1 309 7658 a4 r k) P := by
  refine T_of (fL_law_J261.eq_1 ..) ?_
  refine T_leq (fun i1 f1 => ?_)
  have g1 := z_wx f1 (by omega)
  refine T_if1 (by omega) ?_
  refine T_leq (fun p1 e1 => ?_)
  have b1 : -2147483648 ≤ p1 ∧ p1 ≤ 2147483647 := by rw [← e1]; exact z_i32b _
  refine T_useI (L_text hfu h p1 b1) (fun v s1 hq => ?_)
  obtain ⟨x, rfl, h1, t1, t2⟩ := hq
  refine T_vI ?_
  refine T_leq (fun j1 f => ?_)
  have q9 : i1 = j1 := f1.symm.trans f
  subst q9
  refine T_if1 (by omega) ?_
  refine T_leq (fun p9 e => ?_)
  have q9 : p1 = p9 := e1.symm.trans e
  subst q9
  clear f e
  refine T_if1 (by decide +kernel) ?_
  refine T_useI (M_text hfu h1 p1 b1) (fun v s2 hq => ?_)
  obtain ⟨y, rfl, h2, t3, t4⟩ := hq
  refine T_vI ?_
  refine T_of (fL_law_J1338.eq_1 ..) ?_
  refine T_leq (fun z e => ?_)
  exact hr _ _ h2 (ht.step t2 t1 t3 t4) (z_wx e (by omega))
theorem k_289 {fu L : Nat} (hfu : 8589934592 ≤ fu) (hL : L ≤ 2000000000) {xs : Nat → Int32} {s : z_M} {a4 : Int} {r : z_M → Int → z_O} {k : z_M → z_O} {P : z_V → z_M → Prop} (h : y_L0 s) (ht : y_I6 s) (h4 : 0 ≤ a4 ∧ a4 + 6 ≤ L) (hr : ∀ s' v, y_L0 s' → y_I6 s' → v = a4 + 6 → z_T (r s' v) P) : z_T (fL_law_J289 fu L xs s 1 309 7658 a4 r k) P := by
  refine T_of (fL_law_J289.eq_1 ..) ?_
  refine T_leq (fun i1 f1 => ?_)
  have g1 := z_wx f1 (by omega)
  refine T_if1 (by omega) ?_
  refine T_leq (fun p1 e1 => ?_)
  have b1 : -2147483648 ≤ p1 ∧ p1 ≤ 2147483647 := by rw [← e1]; exact z_i32b _
  refine T_useI (L_more hfu h p1 b1) (fun v s1 hq => ?_)
  obtain ⟨x, rfl, h1, t1, t2⟩ := hq
  refine T_vI ?_
  refine T_leq (fun j1 f => ?_)
  have q9 : i1 = j1 := f1.symm.trans f
  subst q9
  refine T_if1 (by omega) ?_
  refine T_leq (fun p9 e => ?_)
  have q9 : p1 = p9 := e1.symm.trans e
  subst q9
  clear f e
  refine T_if1 (by decide +kernel) ?_
  refine T_useI (M_more hfu h1 p1 b1) (fun v s2 hq => ?_)
  obtain ⟨y, rfl, h2, t3, t4⟩ := hq
  refine T_vI ?_
  refine T_of (fL_law_J1338.eq_1 ..) ?_
  refine T_leq (fun z e => ?_)
  exact hr _ _ h2 (ht.step t2 t1 t3 t4) (z_wx e (by omega))
theorem k_317 {fu L : Nat} (hfu : 8589934592 ≤ fu) (hL : L ≤ 2000000000) {xs : Nat → Int32} {s : z_M} {a4 : Int} {r : z_M → Int → z_O} {k : z_M → z_O} {P : z_V → z_M → Prop} (h : y_L0 s) (ht : y_I6 s) (h4 : 0 ≤ a4 ∧ a4 + 6 ≤ L) (hr : ∀ s' v, y_L0 s' → y_I6 s' → v = a4 + 6 → z_T (r s' v) P) : z_T (fL_law_J317 fu L xs s 1 309 7658 a4 r k) P := by
  refine T_of (fL_law_J317.eq_1 ..) ?_
  refine T_if1 (by decide +kernel) ?_
  refine T_useI (L_fault hfu h) (fun v s1 hq => ?_)
  obtain ⟨x, rfl, h1, t1, t2⟩ := hq
  refine T_vI ?_
  refine T_if1 (by decide +kernel) ?_
  refine T_useI (M_fault hfu h1) (fun v s2 hq => ?_)
  obtain ⟨y, rfl, h2, t3, t4⟩ := hq
  refine T_vI ?_
  refine T_of (fL_law_J1338.eq_1 ..) ?_
  refine T_leq (fun z e => ?_)
  exact hr _ _ h2 (ht.step t2 t1 t3 t4) (z_wx e (by omega))
theorem k_330 {fu L : Nat} (hfu : 8589934592 ≤ fu) (hL : L ≤ 2000000000) {xs : Nat → Int32} {s : z_M} {a4 : Int} {r : z_M → Int → z_O} {k : z_M → z_O} {P : z_V → z_M → Prop} (h : y_L0 s) (ht : y_I6 s) (h4 : 0 ≤ a4 ∧ a4 + 6 ≤ L) (hr : ∀ s' v, y_L0 s' → y_I6 s' → v = a4 + 6 → z_T (r s' v) P) : z_T (fL_law_J330 fu L xs s 1 309 7658 a4 r k) P := by
  refine T_of (fL_law_J330.eq_1 ..) ?_
  refine T_leq (fun i1 f1 => ?_)
  have g1 := z_wx f1 (by omega)
  refine T_if1 (by omega) ?_
  refine T_leq (fun p1 e1 => ?_)
  have b1 : -2147483648 ≤ p1 ∧ p1 ≤ 2147483647 := by rw [← e1]; exact z_i32b _
  refine T_leq (fun i2 f2 => ?_)
  have g2 := z_wx f2 (by omega)
  refine T_if1 (by omega) ?_
  refine T_leq (fun p2 e2 => ?_)
  have b2 : -2147483648 ≤ p2 ∧ p2 ≤ 2147483647 := by rw [← e2]; exact z_i32b _
  refine T_useI (L_set hfu h p1 p2 b1 b2) (fun v s1 hq => ?_)
  obtain ⟨x, rfl, h1, t1, t2⟩ := hq
  refine T_vI ?_
  refine T_leq (fun j1 f => ?_)
  have q9 : i1 = j1 := f1.symm.trans f
  subst q9
  refine T_if1 (by omega) ?_
  refine T_leq (fun p9 e => ?_)
  have q9 : p1 = p9 := e1.symm.trans e
  subst q9
  clear f e
  refine T_leq (fun j2 f => ?_)
  have q9 : i2 = j2 := f2.symm.trans f
  subst q9
  refine T_if1 (by omega) ?_
  refine T_leq (fun p9 e => ?_)
  have q9 : p2 = p9 := e2.symm.trans e
  subst q9
  clear f e
  refine T_if1 (by decide +kernel) ?_
  refine T_useI (M_set hfu h1 p1 p2 b1 b2) (fun v s2 hq => ?_)
  obtain ⟨y, rfl, h2, t3, t4⟩ := hq
  refine T_vI ?_
  obtain ⟨g6, g7, g8⟩ := ht.set t1 t2 t3 t4
  refine T_if1 (by decide +kernel) ?_
  refine T_bI (T_of (fX12_thrown.eq_1 ..) ?_)
  refine T_if1 (by decide +kernel) ?_
  refine T_let x g7 ?_
  refine T_rI ?_
  refine T_if1 rfl ?_
  refine T_ite (fun _ => ?_) (fun hx => ?_)
  · refine T_of (fL_law_J395.eq_1 ..) ?_
    refine T_of (fL_law_J1338.eq_1 ..) ?_
    refine T_leq (fun z e => ?_)
    exact hr _ _ h2 (g6) (z_wx e (by omega))
  · refine T_if1 (by decide +kernel) ?_
    refine T_let y (g8 (by omega)) ?_
    refine T_let 0 (by unfold z_cmp; rw [if_neg (by omega), if_pos rfl]) ?_
    refine T_if1 rfl ?_
    refine T_of (fL_law_J395.eq_1 ..) ?_
    refine T_of (fL_law_J1338.eq_1 ..) ?_
    refine T_leq (fun z e => ?_)
    exact hr _ _ h2 (g6) (z_wx e (by omega))
theorem k_398 {fu L : Nat} (hfu : 8589934592 ≤ fu) (hL : L ≤ 2000000000) {xs : Nat → Int32} {s : z_M} {a4 : Int} {r : z_M → Int → z_O} {k : z_M → z_O} {P : z_V → z_M → Prop} (h : y_L0 s) (ht : y_I6 s) (h4 : 0 ≤ a4 ∧ a4 + 6 ≤ L) (hr : ∀ s' v, y_L0 s' → y_I6 s' → v = a4 + 6 → z_T (r s' v) P) : z_T (fL_law_J398 fu L xs s 1 309 7658 a4 r k) P := by
  refine T_of (fL_law_J398.eq_1 ..) ?_
  refine T_leq (fun i1 f1 => ?_)
  have g1 := z_wx f1 (by omega)
  refine T_if1 (by omega) ?_
  refine T_leq (fun p1 e1 => ?_)
  have b1 : -2147483648 ≤ p1 ∧ p1 ≤ 2147483647 := by rw [← e1]; exact z_i32b _
  refine T_leq (fun i2 f2 => ?_)
  have g2 := z_wx f2 (by omega)
  refine T_if1 (by omega) ?_
  refine T_leq (fun p2 e2 => ?_)
  have b2 : -2147483648 ≤ p2 ∧ p2 ≤ 2147483647 := by rw [← e2]; exact z_i32b _
  refine T_useI (L_cut hfu h p1 p2 b1 b2) (fun v s1 hq => ?_)
  obtain ⟨x, rfl, h1, t1, t2⟩ := hq
  refine T_vI ?_
  refine T_leq (fun j1 f => ?_)
  have q9 : i1 = j1 := f1.symm.trans f
  subst q9
  refine T_if1 (by omega) ?_
  refine T_leq (fun p9 e => ?_)
  have q9 : p1 = p9 := e1.symm.trans e
  subst q9
  clear f e
  refine T_leq (fun j2 f => ?_)
  have q9 : i2 = j2 := f2.symm.trans f
  subst q9
  refine T_if1 (by omega) ?_
  refine T_leq (fun p9 e => ?_)
  have q9 : p2 = p9 := e2.symm.trans e
  subst q9
  clear f e
  refine T_if1 (by decide +kernel) ?_
  refine T_useI (M_cut hfu h1 p1 p2 b1 b2) (fun v s2 hq => ?_)
  obtain ⟨y, rfl, h2, t3, t4⟩ := hq
  refine T_vI ?_
  refine T_of (fL_law_J1338.eq_1 ..) ?_
  refine T_leq (fun z e => ?_)
  exact hr _ _ h2 (ht.step t2 t1 t3 t4) (z_wx e (by omega))
theorem k_438 {fu L : Nat} (hfu : 8589934592 ≤ fu) (hL : L ≤ 2000000000) {xs : Nat → Int32} {s : z_M} {a4 : Int} {r : z_M → Int → z_O} {k : z_M → z_O} {P : z_V → z_M → Prop} (h : y_L0 s) (ht : y_I6 s) (h4 : 0 ≤ a4 ∧ a4 + 6 ≤ L) (hr : ∀ s' v, y_L0 s' → y_I6 s' → v = a4 + 6 → z_T (r s' v) P) : z_T (fL_law_J438 fu L xs s 1 309 7658 a4 r k) P := by
  refine T_of (fL_law_J438.eq_1 ..) ?_
  refine T_if1 (by decide +kernel) ?_
  refine T_useI (L_undo hfu h) (fun v s1 hq => ?_)
  obtain ⟨x, rfl, h1, t1, t2⟩ := hq
  refine T_vI ?_
  refine T_if1 (by decide +kernel) ?_
  refine T_useI (M_undo hfu h1) (fun v s2 hq => ?_)
  obtain ⟨y, rfl, h2, t3, t4⟩ := hq
  refine T_vI ?_
  refine T_of (fL_law_J1338.eq_1 ..) ?_
  refine T_leq (fun z e => ?_)
  exact hr _ _ h2 (ht.step t2 t1 t3 t4) (z_wx e (by omega))
theorem k_451 {fu L : Nat} (hfu : 8589934592 ≤ fu) (hL : L ≤ 2000000000) {xs : Nat → Int32} {s : z_M} {a4 : Int} {r : z_M → Int → z_O} {k : z_M → z_O} {P : z_V → z_M → Prop} (h : y_L0 s) (ht : y_I6 s) (h4 : 0 ≤ a4 ∧ a4 + 6 ≤ L) (hr : ∀ s' v, y_L0 s' → y_I6 s' → v = a4 + 6 → z_T (r s' v) P) : z_T (fL_law_J451 fu L xs s 1 309 7658 a4 r k) P := by
  refine T_of (fL_law_J451.eq_1 ..) ?_
  refine T_leq (fun i1 f1 => ?_)
  have g1 := z_wx f1 (by omega)
  refine T_if1 (by omega) ?_
  refine T_leq (fun p1 e1 => ?_)
  have b1 : -2147483648 ≤ p1 ∧ p1 ≤ 2147483647 := by rw [← e1]; exact z_i32b _
  refine T_useI (L_told hfu h p1 b1) (fun v s1 hq => ?_)
  obtain ⟨x, rfl, h1, t1, t2⟩ := hq
  refine T_vI ?_
  refine T_leq (fun j1 f => ?_)
  have q9 : i1 = j1 := f1.symm.trans f
  subst q9
  refine T_if1 (by omega) ?_
  refine T_leq (fun p9 e => ?_)
  have q9 : p1 = p9 := e1.symm.trans e
  subst q9
  clear f e
  refine T_if1 (by decide +kernel) ?_
  refine T_useL (M_told hfu h1 p1 b1) (fun v s2 hq => ?_)
  obtain ⟨y, rfl, h2, t3, t4⟩ := hq
  refine T_vL ?_
  refine T_of (fL_law_J1338.eq_1 ..) ?_
  refine T_leq (fun z e => ?_)
  exact hr _ _ h2 (ht.step t2 t1 t3 t4) (z_wx e (by omega))
theorem k_479 {fu L : Nat} (hfu : 8589934592 ≤ fu) (hL : L ≤ 2000000000) {xs : Nat → Int32} {s : z_M} {a4 : Int} {r : z_M → Int → z_O} {k : z_M → z_O} {P : z_V → z_M → Prop} (h : y_L0 s) (ht : y_I6 s) (h4 : 0 ≤ a4 ∧ a4 + 6 ≤ L) (hr : ∀ s' v, y_L0 s' → y_I6 s' → v = a4 + 6 → z_T (r s' v) P) : z_T (fL_law_J479 fu L xs s 1 309 7658 a4 r k) P := by
  refine T_of (fL_law_J479.eq_1 ..) ?_
  refine T_leq (fun i1 f1 => ?_)
  have g1 := z_wx f1 (by omega)
  refine T_if1 (by omega) ?_
  refine T_leq (fun p1 e1 => ?_)
  have b1 : -2147483648 ≤ p1 ∧ p1 ≤ 2147483647 := by rw [← e1]; exact z_i32b _
  refine T_leq (fun i2 f2 => ?_)
  have g2 := z_wx f2 (by omega)
  refine T_if1 (by omega) ?_
  refine T_leq (fun p2 e2 => ?_)
  have b2 : -2147483648 ≤ p2 ∧ p2 ≤ 2147483647 := by rw [← e2]; exact z_i32b _
  refine T_useI (L_unit hfu h p1 p2 b1 b2) (fun v s1 hq => ?_)
  obtain ⟨x, rfl, h1, t1, t2⟩ := hq
  refine T_vI ?_
  refine T_leq (fun j1 f => ?_)
  have q9 : i1 = j1 := f1.symm.trans f
  subst q9
  refine T_if1 (by omega) ?_
  refine T_leq (fun p9 e => ?_)
  have q9 : p1 = p9 := e1.symm.trans e
  subst q9
  clear f e
  refine T_leq (fun j2 f => ?_)
  have q9 : i2 = j2 := f2.symm.trans f
  subst q9
  refine T_if1 (by omega) ?_
  refine T_leq (fun p9 e => ?_)
  have q9 : p2 = p9 := e2.symm.trans e
  subst q9
  clear f e
  refine T_if1 (by decide +kernel) ?_
  refine T_useI (M_unit hfu h1 p1 p2 b1 b2) (fun v s2 hq => ?_)
  obtain ⟨y, rfl, h2, t3, t4⟩ := hq
  refine T_vI ?_
  refine T_of (fL_law_J1338.eq_1 ..) ?_
  refine T_leq (fun z e => ?_)
  exact hr _ _ h2 (ht.step t2 t1 t3 t4) (z_wx e (by omega))
theorem k_519 {fu L : Nat} (hfu : 8589934592 ≤ fu) (hL : L ≤ 2000000000) {xs : Nat → Int32} {s : z_M} {a4 : Int} {r : z_M → Int → z_O} {k : z_M → z_O} {P : z_V → z_M → Prop} (h : y_L0 s) (ht : y_I6 s) (h4 : 0 ≤ a4 ∧ a4 + 6 ≤ L) (hr : ∀ s' v, y_L0 s' → y_I6 s' → v = a4 + 6 → z_T (r s' v) P) : z_T (fL_law_J519 fu L xs s 1 309 7658 a4 r k) P := by
  refine T_of (fL_law_J519.eq_1 ..) ?_
  refine T_leq (fun i1 f1 => ?_)
  have g1 := z_wx f1 (by omega)
  refine T_if1 (by omega) ?_
  refine T_leq (fun p1 e1 => ?_)
  have b1 : -2147483648 ≤ p1 ∧ p1 ≤ 2147483647 := by rw [← e1]; exact z_i32b _
  refine T_leq (fun i2 f2 => ?_)
  have g2 := z_wx f2 (by omega)
  refine T_if1 (by omega) ?_
  refine T_leq (fun p2 e2 => ?_)
  have b2 : -2147483648 ≤ p2 ∧ p2 ≤ 2147483647 := by rw [← e2]; exact z_i32b _
  refine T_useI (L_sign hfu h p1 p2 b1 b2) (fun v s1 hq => ?_)
  obtain ⟨x, rfl, h1, t1, t2⟩ := hq
  refine T_vI ?_
  refine T_leq (fun j1 f => ?_)
  have q9 : i1 = j1 := f1.symm.trans f
  subst q9
  refine T_if1 (by omega) ?_
  refine T_leq (fun p9 e => ?_)
  have q9 : p1 = p9 := e1.symm.trans e
  subst q9
  clear f e
  refine T_leq (fun j2 f => ?_)
  have q9 : i2 = j2 := f2.symm.trans f
  subst q9
  refine T_if1 (by omega) ?_
  refine T_leq (fun p9 e => ?_)
  have q9 : p2 = p9 := e2.symm.trans e
  subst q9
  clear f e
  refine T_if1 (by decide +kernel) ?_
  refine T_useI (M_sign hfu h1 p1 p2 b1 b2) (fun v s2 hq => ?_)
  obtain ⟨y, rfl, h2, t3, t4⟩ := hq
  refine T_vI ?_
  refine T_of (fL_law_J1338.eq_1 ..) ?_
  refine T_leq (fun z e => ?_)
  exact hr _ _ h2 (ht.step t2 t1 t3 t4) (z_wx e (by omega))
theorem k_559 {fu L : Nat} (hfu : 8589934592 ≤ fu) (hL : L ≤ 2000000000) {xs : Nat → Int32} {s : z_M} {a4 : Int} {r : z_M → Int → z_O} {k : z_M → z_O} {P : z_V → z_M → Prop} (h : y_L0 s) (ht : y_I6 s) (h4 : 0 ≤ a4 ∧ a4 + 6 ≤ L) (hr : ∀ s' v, y_L0 s' → y_I6 s' → v = a4 + 6 → z_T (r s' v) P) : z_T (fL_law_J559 fu L xs s 1 309 7658 a4 r k) P := by
  refine T_of (fL_law_J559.eq_1 ..) ?_
  refine T_leq (fun i1 f1 => ?_)
  have g1 := z_wx f1 (by omega)
  refine T_if1 (by omega) ?_
  refine T_leq (fun p1 e1 => ?_)
  have b1 : -2147483648 ≤ p1 ∧ p1 ≤ 2147483647 := by rw [← e1]; exact z_i32b _
  refine T_leq (fun i2 f2 => ?_)
  have g2 := z_wx f2 (by omega)
  refine T_if1 (by omega) ?_
  refine T_leq (fun p2 e2 => ?_)
  have b2 : -2147483648 ≤ p2 ∧ p2 ≤ 2147483647 := by rw [← e2]; exact z_i32b _
  refine T_useI (L_line hfu h p1 p2 b1 b2) (fun v s1 hq => ?_)
  obtain ⟨x, rfl, h1, t1, t2⟩ := hq
  refine T_vI ?_
  refine T_leq (fun j1 f => ?_)
  have q9 : i1 = j1 := f1.symm.trans f
  subst q9
  refine T_if1 (by omega) ?_
  refine T_leq (fun p9 e => ?_)
  have q9 : p1 = p9 := e1.symm.trans e
  subst q9
  clear f e
  refine T_leq (fun j2 f => ?_)
  have q9 : i2 = j2 := f2.symm.trans f
  subst q9
  refine T_if1 (by omega) ?_
  refine T_leq (fun p9 e => ?_)
  have q9 : p2 = p9 := e2.symm.trans e
  subst q9
  clear f e
  refine T_if1 (by decide +kernel) ?_
  refine T_useI (M_line hfu h1 p1 p2 b1 b2) (fun v s2 hq => ?_)
  obtain ⟨y, rfl, h2, t3, t4⟩ := hq
  refine T_vI ?_
  refine T_of (fL_law_J1338.eq_1 ..) ?_
  refine T_leq (fun z e => ?_)
  exact hr _ _ h2 (ht.step t2 t1 t3 t4) (z_wx e (by omega))
theorem k_599 {fu L : Nat} (hfu : 8589934592 ≤ fu) (hL : L ≤ 2000000000) {xs : Nat → Int32} {s : z_M} {a4 : Int} {r : z_M → Int → z_O} {k : z_M → z_O} {P : z_V → z_M → Prop} (h : y_L0 s) (ht : y_I6 s) (h4 : 0 ≤ a4 ∧ a4 + 6 ≤ L) (hr : ∀ s' v, y_L0 s' → y_I6 s' → v = a4 + 6 → z_T (r s' v) P) : z_T (fL_law_J599 fu L xs s 1 309 7658 a4 r k) P := by
  refine T_of (fL_law_J599.eq_1 ..) ?_
  refine T_leq (fun i1 f1 => ?_)
  have g1 := z_wx f1 (by omega)
  refine T_if1 (by omega) ?_
  refine T_leq (fun p1 e1 => ?_)
  have b1 : -2147483648 ≤ p1 ∧ p1 ≤ 2147483647 := by rw [← e1]; exact z_i32b _
  refine T_leq (fun i2 f2 => ?_)
  have g2 := z_wx f2 (by omega)
  refine T_if1 (by omega) ?_
  refine T_leq (fun p2 e2 => ?_)
  have b2 : -2147483648 ≤ p2 ∧ p2 ≤ 2147483647 := by rw [← e2]; exact z_i32b _
  refine T_useI (L_block hfu h p1 p2 b1 b2) (fun v s1 hq => ?_)
  obtain ⟨x, rfl, h1, t1, t2⟩ := hq
  refine T_vI ?_
  refine T_leq (fun j1 f => ?_)
  have q9 : i1 = j1 := f1.symm.trans f
  subst q9
  refine T_if1 (by omega) ?_
  refine T_leq (fun p9 e => ?_)
  have q9 : p1 = p9 := e1.symm.trans e
  subst q9
  clear f e
  refine T_leq (fun j2 f => ?_)
  have q9 : i2 = j2 := f2.symm.trans f
  subst q9
  refine T_if1 (by omega) ?_
  refine T_leq (fun p9 e => ?_)
  have q9 : p2 = p9 := e2.symm.trans e
  subst q9
  clear f e
  refine T_if1 (by decide +kernel) ?_
  refine T_useI (M_block hfu h1 p1 p2 b1 b2) (fun v s2 hq => ?_)
  obtain ⟨y, rfl, h2, t3, t4⟩ := hq
  refine T_vI ?_
  refine T_of (fL_law_J1338.eq_1 ..) ?_
  refine T_leq (fun z e => ?_)
  exact hr _ _ h2 (ht.step t2 t1 t3 t4) (z_wx e (by omega))
theorem k_639 {fu L : Nat} (hfu : 8589934592 ≤ fu) (hL : L ≤ 2000000000) {xs : Nat → Int32} {s : z_M} {a4 : Int} {r : z_M → Int → z_O} {k : z_M → z_O} {P : z_V → z_M → Prop} (h : y_L0 s) (ht : y_I6 s) (h4 : 0 ≤ a4 ∧ a4 + 6 ≤ L) (hr : ∀ s' v, y_L0 s' → y_I6 s' → v = a4 + 6 → z_T (r s' v) P) : z_T (fL_law_J639 fu L xs s 1 309 7658 a4 r k) P := by
  refine T_of (fL_law_J639.eq_1 ..) ?_
  refine T_leq (fun i1 f1 => ?_)
  have g1 := z_wx f1 (by omega)
  refine T_if1 (by omega) ?_
  refine T_leq (fun p1 e1 => ?_)
  have b1 : -2147483648 ≤ p1 ∧ p1 ≤ 2147483647 := by rw [← e1]; exact z_i32b _
  refine T_leq (fun i2 f2 => ?_)
  have g2 := z_wx f2 (by omega)
  refine T_if1 (by omega) ?_
  refine T_leq (fun p2 e2 => ?_)
  have b2 : -2147483648 ≤ p2 ∧ p2 ≤ 2147483647 := by rw [← e2]; exact z_i32b _
  refine T_leq (fun i3 f3 => ?_)
  have g3 := z_wx f3 (by omega)
  refine T_if1 (by omega) ?_
  refine T_leq (fun p3 e3 => ?_)
  have b3 : -2147483648 ≤ p3 ∧ p3 ≤ 2147483647 := by rw [← e3]; exact z_i32b _
  refine T_leq (fun i4 f4 => ?_)
  have g4 := z_wx f4 (by omega)
  refine T_if1 (by omega) ?_
  refine T_leq (fun p4 e4 => ?_)
  have b4 : -2147483648 ≤ p4 ∧ p4 ≤ 2147483647 := by rw [← e4]; exact z_i32b _
  refine T_useI (L_reading hfu h p1 p2 p3 p4 b1 b2 b3 b4) (fun v s1 hq => ?_)
  obtain ⟨x, rfl, h1, t1, t2⟩ := hq
  refine T_vI ?_
  refine T_leq (fun j1 f => ?_)
  have q9 : i1 = j1 := f1.symm.trans f
  subst q9
  refine T_if1 (by omega) ?_
  refine T_leq (fun p9 e => ?_)
  have q9 : p1 = p9 := e1.symm.trans e
  subst q9
  clear f e
  refine T_leq (fun j2 f => ?_)
  have q9 : i2 = j2 := f2.symm.trans f
  subst q9
  refine T_if1 (by omega) ?_
  refine T_leq (fun p9 e => ?_)
  have q9 : p2 = p9 := e2.symm.trans e
  subst q9
  clear f e
  refine T_leq (fun j3 f => ?_)
  have q9 : i3 = j3 := f3.symm.trans f
  subst q9
  refine T_if1 (by omega) ?_
  refine T_leq (fun p9 e => ?_)
  have q9 : p3 = p9 := e3.symm.trans e
  subst q9
  clear f e
  refine T_leq (fun j4 f => ?_)
  have q9 : i4 = j4 := f4.symm.trans f
  subst q9
  refine T_if1 (by omega) ?_
  refine T_leq (fun p9 e => ?_)
  have q9 : p4 = p9 := e4.symm.trans e
  subst q9
  clear f e
  refine T_if1 (by decide +kernel) ?_
  refine T_useI (M_reading hfu h1 p1 p2 p3 p4 b1 b2 b3 b4) (fun v s2 hq => ?_)
  obtain ⟨y, rfl, h2, t3, t4⟩ := hq
  refine T_vI ?_
  refine T_of (fL_law_J1338.eq_1 ..) ?_
  refine T_leq (fun z e => ?_)
  exact hr _ _ h2 (ht.step t2 t1 t3 t4) (z_wx e (by omega))
theorem k_703 {fu L : Nat} (hfu : 8589934592 ≤ fu) (hL : L ≤ 2000000000) {xs : Nat → Int32} {s : z_M} {a4 : Int} {r : z_M → Int → z_O} {k : z_M → z_O} {P : z_V → z_M → Prop} (h : y_L0 s) (ht : y_I6 s) (h4 : 0 ≤ a4 ∧ a4 + 6 ≤ L) (hr : ∀ s' v, y_L0 s' → y_I6 s' → v = a4 + 6 → z_T (r s' v) P) : z_T (fL_law_J703 fu L xs s 1 309 7658 a4 r k) P := by
  refine T_of (fL_law_J703.eq_1 ..) ?_
  refine T_leq (fun i1 f1 => ?_)
  have g1 := z_wx f1 (by omega)
  refine T_if1 (by omega) ?_
  refine T_leq (fun p1 e1 => ?_)
  have b1 : -2147483648 ≤ p1 ∧ p1 ≤ 2147483647 := by rw [← e1]; exact z_i32b _
  refine T_leq (fun i2 f2 => ?_)
  have g2 := z_wx f2 (by omega)
  refine T_if1 (by omega) ?_
  refine T_leq (fun p2 e2 => ?_)
  have b2 : -2147483648 ≤ p2 ∧ p2 ≤ 2147483647 := by rw [← e2]; exact z_i32b _
  refine T_useI (L_run hfu h p1 p2 b1 b2) (fun v s1 hq => ?_)
  obtain ⟨x, rfl, h1, t1, t2⟩ := hq
  refine T_vI ?_
  refine T_leq (fun j1 f => ?_)
  have q9 : i1 = j1 := f1.symm.trans f
  subst q9
  refine T_if1 (by omega) ?_
  refine T_leq (fun p9 e => ?_)
  have q9 : p1 = p9 := e1.symm.trans e
  subst q9
  clear f e
  refine T_leq (fun j2 f => ?_)
  have q9 : i2 = j2 := f2.symm.trans f
  subst q9
  refine T_if1 (by omega) ?_
  refine T_leq (fun p9 e => ?_)
  have q9 : p2 = p9 := e2.symm.trans e
  subst q9
  clear f e
  refine T_if1 (by decide +kernel) ?_
  refine T_useI (M_run hfu h1 p1 p2 b1 b2) (fun v s2 hq => ?_)
  obtain ⟨y, rfl, h2, t3, t4⟩ := hq
  refine T_vI ?_
  refine T_of (fL_law_J1338.eq_1 ..) ?_
  refine T_leq (fun z e => ?_)
  exact hr _ _ h2 (ht.step t2 t1 t3 t4) (z_wx e (by omega))
theorem k_743 {fu L : Nat} (hfu : 8589934592 ≤ fu) (hL : L ≤ 2000000000) {xs : Nat → Int32} {s : z_M} {a4 : Int} {r : z_M → Int → z_O} {k : z_M → z_O} {P : z_V → z_M → Prop} (h : y_L0 s) (ht : y_I6 s) (h4 : 0 ≤ a4 ∧ a4 + 6 ≤ L) (hr : ∀ s' v, y_L0 s' → y_I6 s' → v = a4 + 6 → z_T (r s' v) P) : z_T (fL_law_J743 fu L xs s 1 309 7658 a4 r k) P := by
  refine T_of (fL_law_J743.eq_1 ..) ?_
  refine T_leq (fun i1 f1 => ?_)
  have g1 := z_wx f1 (by omega)
  refine T_if1 (by omega) ?_
  refine T_leq (fun p1 e1 => ?_)
  have b1 : -2147483648 ≤ p1 ∧ p1 ≤ 2147483647 := by rw [← e1]; exact z_i32b _
  refine T_leq (fun i2 f2 => ?_)
  have g2 := z_wx f2 (by omega)
  refine T_if1 (by omega) ?_
  refine T_leq (fun p2 e2 => ?_)
  have b2 : -2147483648 ≤ p2 ∧ p2 ≤ 2147483647 := by rw [← e2]; exact z_i32b _
  refine T_useI (L_at hfu h p1 p2 b1 b2) (fun v s1 hq => ?_)
  obtain ⟨x, rfl, h1, t1, t2⟩ := hq
  refine T_vI ?_
  refine T_leq (fun j1 f => ?_)
  have q9 : i1 = j1 := f1.symm.trans f
  subst q9
  refine T_if1 (by omega) ?_
  refine T_leq (fun p9 e => ?_)
  have q9 : p1 = p9 := e1.symm.trans e
  subst q9
  clear f e
  refine T_leq (fun j2 f => ?_)
  have q9 : i2 = j2 := f2.symm.trans f
  subst q9
  refine T_if1 (by omega) ?_
  refine T_leq (fun p9 e => ?_)
  have q9 : p2 = p9 := e2.symm.trans e
  subst q9
  clear f e
  refine T_if1 (by decide +kernel) ?_
  refine T_useI (M_at hfu h1 p1 p2 b1 b2) (fun v s2 hq => ?_)
  obtain ⟨y, rfl, h2, t3, t4⟩ := hq
  refine T_vI ?_
  refine T_of (fL_law_J1338.eq_1 ..) ?_
  refine T_leq (fun z e => ?_)
  exact hr _ _ h2 (ht.step t2 t1 t3 t4) (z_wx e (by omega))
theorem k_783 {fu L : Nat} (hfu : 8589934592 ≤ fu) (hL : L ≤ 2000000000) {xs : Nat → Int32} {s : z_M} {a4 : Int} {r : z_M → Int → z_O} {k : z_M → z_O} {P : z_V → z_M → Prop} (h : y_L0 s) (ht : y_I6 s) (h4 : 0 ≤ a4 ∧ a4 + 6 ≤ L) (hr : ∀ s' v, y_L0 s' → y_I6 s' → v = a4 + 6 → z_T (r s' v) P) : z_T (fL_law_J783 fu L xs s 1 309 7658 a4 r k) P := by
  refine T_of (fL_law_J783.eq_1 ..) ?_
  refine T_leq (fun i1 f1 => ?_)
  have g1 := z_wx f1 (by omega)
  refine T_if1 (by omega) ?_
  refine T_leq (fun p1 e1 => ?_)
  have b1 : -2147483648 ≤ p1 ∧ p1 ≤ 2147483647 := by rw [← e1]; exact z_i32b _
  refine T_useI (L_ends hfu h p1 b1) (fun v s1 hq => ?_)
  obtain ⟨x, rfl, h1, t1, t2⟩ := hq
  refine T_vI ?_
  refine T_leq (fun j1 f => ?_)
  have q9 : i1 = j1 := f1.symm.trans f
  subst q9
  refine T_if1 (by omega) ?_
  refine T_leq (fun p9 e => ?_)
  have q9 : p1 = p9 := e1.symm.trans e
  subst q9
  clear f e
  refine T_if1 (by decide +kernel) ?_
  refine T_useI (M_ends hfu h1 p1 b1) (fun v s2 hq => ?_)
  obtain ⟨y, rfl, h2, t3, t4⟩ := hq
  refine T_vI ?_
  refine T_of (fL_law_J1338.eq_1 ..) ?_
  refine T_leq (fun z e => ?_)
  exact hr _ _ h2 (ht.step t2 t1 t3 t4) (z_wx e (by omega))
theorem k_811 {fu L : Nat} (hfu : 8589934592 ≤ fu) (hL : L ≤ 2000000000) {xs : Nat → Int32} {s : z_M} {a4 : Int} {r : z_M → Int → z_O} {k : z_M → z_O} {P : z_V → z_M → Prop} (h : y_L0 s) (ht : y_I6 s) (h4 : 0 ≤ a4 ∧ a4 + 6 ≤ L) (hr : ∀ s' v, y_L0 s' → y_I6 s' → v = a4 + 6 → z_T (r s' v) P) : z_T (fL_law_J811 fu L xs s 1 309 7658 a4 r k) P := by
  refine T_of (fL_law_J811.eq_1 ..) ?_
  refine T_leq (fun i1 f1 => ?_)
  have g1 := z_wx f1 (by omega)
  refine T_if1 (by omega) ?_
  refine T_leq (fun p1 e1 => ?_)
  have b1 : -2147483648 ≤ p1 ∧ p1 ≤ 2147483647 := by rw [← e1]; exact z_i32b _
  refine T_leq (fun i2 f2 => ?_)
  have g2 := z_wx f2 (by omega)
  refine T_if1 (by omega) ?_
  refine T_leq (fun p2 e2 => ?_)
  have b2 : -2147483648 ≤ p2 ∧ p2 ≤ 2147483647 := by rw [← e2]; exact z_i32b _
  refine T_useI (L_longOf hfu h p1 p2 b1 b2) (fun v s1 hq => ?_)
  obtain ⟨x, rfl, h1, t1, t2⟩ := hq
  refine T_vI ?_
  refine T_leq (fun j1 f => ?_)
  have q9 : i1 = j1 := f1.symm.trans f
  subst q9
  refine T_if1 (by omega) ?_
  refine T_leq (fun p9 e => ?_)
  have q9 : p1 = p9 := e1.symm.trans e
  subst q9
  clear f e
  refine T_leq (fun j2 f => ?_)
  have q9 : i2 = j2 := f2.symm.trans f
  subst q9
  refine T_if1 (by omega) ?_
  refine T_leq (fun p9 e => ?_)
  have q9 : p2 = p9 := e2.symm.trans e
  subst q9
  clear f e
  refine T_if1 (by decide +kernel) ?_
  refine T_useI (M_longOf hfu h1 p1 p2 b1 b2) (fun v s2 hq => ?_)
  obtain ⟨y, rfl, h2, t3, t4⟩ := hq
  refine T_vI ?_
  refine T_of (fL_law_J1338.eq_1 ..) ?_
  refine T_leq (fun z e => ?_)
  exact hr _ _ h2 (ht.step t2 t1 t3 t4) (z_wx e (by omega))
theorem k_851 {fu L : Nat} (hfu : 8589934592 ≤ fu) (hL : L ≤ 2000000000) {xs : Nat → Int32} {s : z_M} {a4 : Int} {r : z_M → Int → z_O} {k : z_M → z_O} {P : z_V → z_M → Prop} (h : y_L0 s) (ht : y_I6 s) (h4 : 0 ≤ a4 ∧ a4 + 6 ≤ L) (hr : ∀ s' v, y_L0 s' → y_I6 s' → v = a4 + 6 → z_T (r s' v) P) : z_T (fL_law_J851 fu L xs s 1 309 7658 a4 r k) P := by
  refine T_of (fL_law_J851.eq_1 ..) ?_
  refine T_leq (fun i1 f1 => ?_)
  have g1 := z_wx f1 (by omega)
  refine T_if1 (by omega) ?_
  refine T_leq (fun p1 e1 => ?_)
  have b1 : -2147483648 ≤ p1 ∧ p1 ≤ 2147483647 := by rw [← e1]; exact z_i32b _
  refine T_leq (fun i2 f2 => ?_)
  have g2 := z_wx f2 (by omega)
  refine T_if1 (by omega) ?_
  refine T_leq (fun p2 e2 => ?_)
  have b2 : -2147483648 ≤ p2 ∧ p2 ≤ 2147483647 := by rw [← e2]; exact z_i32b _
  refine T_useI (L_lines hfu h p1 p2 b1 b2) (fun v s1 hq => ?_)
  obtain ⟨x, rfl, h1, t1, t2⟩ := hq
  refine T_vI ?_
  refine T_leq (fun j1 f => ?_)
  have q9 : i1 = j1 := f1.symm.trans f
  subst q9
  refine T_if1 (by omega) ?_
  refine T_leq (fun p9 e => ?_)
  have q9 : p1 = p9 := e1.symm.trans e
  subst q9
  clear f e
  refine T_leq (fun j2 f => ?_)
  have q9 : i2 = j2 := f2.symm.trans f
  subst q9
  refine T_if1 (by omega) ?_
  refine T_leq (fun p9 e => ?_)
  have q9 : p2 = p9 := e2.symm.trans e
  subst q9
  clear f e
  refine T_if1 (by decide +kernel) ?_
  refine T_useI (M_lines hfu h1 p1 p2 b1 b2) (fun v s2 hq => ?_)
  obtain ⟨y, rfl, h2, t3, t4⟩ := hq
  refine T_vI ?_
  refine T_of (fL_law_J1338.eq_1 ..) ?_
  refine T_leq (fun z e => ?_)
  exact hr _ _ h2 (ht.step t2 t1 t3 t4) (z_wx e (by omega))
theorem k_891 {fu L : Nat} (hfu : 8589934592 ≤ fu) (hL : L ≤ 2000000000) {xs : Nat → Int32} {s : z_M} {a4 : Int} {r : z_M → Int → z_O} {k : z_M → z_O} {P : z_V → z_M → Prop} (h : y_L0 s) (ht : y_I6 s) (h4 : 0 ≤ a4 ∧ a4 + 6 ≤ L) (hr : ∀ s' v, y_L0 s' → y_I6 s' → v = a4 + 6 → z_T (r s' v) P) : z_T (fL_law_J891 fu L xs s 1 309 7658 a4 r k) P := by
  refine T_of (fL_law_J891.eq_1 ..) ?_
  refine T_leq (fun i1 f1 => ?_)
  have g1 := z_wx f1 (by omega)
  refine T_if1 (by omega) ?_
  refine T_leq (fun p1 e1 => ?_)
  have b1 : -2147483648 ≤ p1 ∧ p1 ≤ 2147483647 := by rw [← e1]; exact z_i32b _
  refine T_useI (L_least hfu h p1 b1) (fun v s1 hq => ?_)
  obtain ⟨x, rfl, h1, t1, t2⟩ := hq
  refine T_vI ?_
  refine T_leq (fun j1 f => ?_)
  have q9 : i1 = j1 := f1.symm.trans f
  subst q9
  refine T_if1 (by omega) ?_
  refine T_leq (fun p9 e => ?_)
  have q9 : p1 = p9 := e1.symm.trans e
  subst q9
  clear f e
  refine T_if1 (by decide +kernel) ?_
  refine T_useI (M_least hfu h1 p1 b1) (fun v s2 hq => ?_)
  obtain ⟨y, rfl, h2, t3, t4⟩ := hq
  refine T_vI ?_
  refine T_of (fL_law_J1338.eq_1 ..) ?_
  refine T_leq (fun z e => ?_)
  exact hr _ _ h2 (ht.step t2 t1 t3 t4) (z_wx e (by omega))
theorem k_919 {fu L : Nat} (hfu : 8589934592 ≤ fu) (hL : L ≤ 2000000000) {xs : Nat → Int32} {s : z_M} {a4 : Int} {r : z_M → Int → z_O} {k : z_M → z_O} {P : z_V → z_M → Prop} (h : y_L0 s) (ht : y_I6 s) (h4 : 0 ≤ a4 ∧ a4 + 6 ≤ L) (hr : ∀ s' v, y_L0 s' → y_I6 s' → v = a4 + 6 → z_T (r s' v) P) : z_T (fL_law_J919 fu L xs s 1 309 7658 a4 r k) P := by
  refine T_of (fL_law_J919.eq_1 ..) ?_
  refine T_if1 (by decide +kernel) ?_
  refine T_useL (L_better hfu h) (fun v s1 hq => ?_)
  obtain ⟨x, rfl, h1, t1, t2⟩ := hq
  refine T_vL ?_
  refine T_if1 (by decide +kernel) ?_
  refine T_useL (M_better hfu h1) (fun v s2 hq => ?_)
  obtain ⟨y, rfl, h2, t3, t4⟩ := hq
  refine T_vL ?_
  refine T_of (fL_law_J1338.eq_1 ..) ?_
  refine T_leq (fun z e => ?_)
  exact hr _ _ h2 (ht.step t2 t1 t3 t4) (z_wx e (by omega))
theorem k_932 {fu L : Nat} (hfu : 8589934592 ≤ fu) (hL : L ≤ 2000000000) {xs : Nat → Int32} {s : z_M} {a4 : Int} {r : z_M → Int → z_O} {k : z_M → z_O} {P : z_V → z_M → Prop} (h : y_L0 s) (ht : y_I6 s) (h4 : 0 ≤ a4 ∧ a4 + 6 ≤ L) (hr : ∀ s' v, y_L0 s' → y_I6 s' → v = a4 + 6 → z_T (r s' v) P) : z_T (fL_law_J932 fu L xs s 1 309 7658 a4 r k) P := by
  refine T_of (fL_law_J932.eq_1 ..) ?_
  refine T_leq (fun i1 f1 => ?_)
  have g1 := z_wx f1 (by omega)
  refine T_if1 (by omega) ?_
  refine T_leq (fun p1 e1 => ?_)
  have b1 : -2147483648 ≤ p1 ∧ p1 ≤ 2147483647 := by rw [← e1]; exact z_i32b _
  refine T_useI (L_marks hfu h p1 b1) (fun v s1 hq => ?_)
  obtain ⟨x, rfl, h1, t1, t2⟩ := hq
  refine T_vI ?_
  refine T_leq (fun j1 f => ?_)
  have q9 : i1 = j1 := f1.symm.trans f
  subst q9
  refine T_if1 (by omega) ?_
  refine T_leq (fun p9 e => ?_)
  have q9 : p1 = p9 := e1.symm.trans e
  subst q9
  clear f e
  refine T_if1 (by decide +kernel) ?_
  refine T_useI (M_marks hfu h1 p1 b1) (fun v s2 hq => ?_)
  obtain ⟨y, rfl, h2, t3, t4⟩ := hq
  refine T_vI ?_
  refine T_of (fL_law_J1338.eq_1 ..) ?_
  refine T_leq (fun z e => ?_)
  exact hr _ _ h2 (ht.step t2 t1 t3 t4) (z_wx e (by omega))
theorem k_960 {fu L : Nat} (hfu : 8589934592 ≤ fu) (hL : L ≤ 2000000000) {xs : Nat → Int32} {s : z_M} {a4 : Int} {r : z_M → Int → z_O} {k : z_M → z_O} {P : z_V → z_M → Prop} (h : y_L0 s) (ht : y_I6 s) (h4 : 0 ≤ a4 ∧ a4 + 6 ≤ L) (hr : ∀ s' v, y_L0 s' → y_I6 s' → v = a4 + 6 → z_T (r s' v) P) : z_T (fL_law_J960 fu L xs s 1 309 7658 a4 r k) P := by
  refine T_of (fL_law_J960.eq_1 ..) ?_
  refine T_if1 (by decide +kernel) ?_
  refine T_useI (L_moves hfu h) (fun v s1 hq => ?_)
  obtain ⟨x, rfl, h1, t1, t2⟩ := hq
  refine T_vI ?_
  refine T_if1 (by decide +kernel) ?_
  refine T_useI (M_moves hfu h1) (fun v s2 hq => ?_)
  obtain ⟨y, rfl, h2, t3, t4⟩ := hq
  refine T_vI ?_
  refine T_of (fL_law_J1338.eq_1 ..) ?_
  refine T_leq (fun z e => ?_)
  exact hr _ _ h2 (ht.step t2 t1 t3 t4) (z_wx e (by omega))
theorem k_973 {fu L : Nat} (hfu : 8589934592 ≤ fu) (hL : L ≤ 2000000000) {xs : Nat → Int32} {s : z_M} {a4 : Int} {r : z_M → Int → z_O} {k : z_M → z_O} {P : z_V → z_M → Prop} (h : y_L0 s) (ht : y_I6 s) (h4 : 0 ≤ a4 ∧ a4 + 6 ≤ L) (hr : ∀ s' v, y_L0 s' → y_I6 s' → v = a4 + 6 → z_T (r s' v) P) : z_T (fL_law_J973 fu L xs s 1 309 7658 a4 r k) P := by
  refine T_of (fL_law_J973.eq_1 ..) ?_
  refine T_leq (fun i1 f1 => ?_)
  have g1 := z_wx f1 (by omega)
  refine T_if1 (by omega) ?_
  refine T_leq (fun p1 e1 => ?_)
  have b1 : -2147483648 ≤ p1 ∧ p1 ≤ 2147483647 := by rw [← e1]; exact z_i32b _
  refine T_useI (L_lend hfu h p1 b1) (fun v s1 hq => ?_)
  obtain ⟨x, rfl, h1, t1, t2⟩ := hq
  refine T_vI ?_
  refine T_leq (fun j1 f => ?_)
  have q9 : i1 = j1 := f1.symm.trans f
  subst q9
  refine T_if1 (by omega) ?_
  refine T_leq (fun p9 e => ?_)
  have q9 : p1 = p9 := e1.symm.trans e
  subst q9
  clear f e
  refine T_if1 (by decide +kernel) ?_
  refine T_useI (M_lend hfu h1 p1 b1) (fun v s2 hq => ?_)
  obtain ⟨y, rfl, h2, t3, t4⟩ := hq
  refine T_vI ?_
  refine T_of (fL_law_J1338.eq_1 ..) ?_
  refine T_leq (fun z e => ?_)
  exact hr _ _ h2 (ht.step t2 t1 t3 t4) (z_wx e (by omega))
theorem k_1001 {fu L : Nat} (hfu : 8589934592 ≤ fu) (hL : L ≤ 2000000000) {xs : Nat → Int32} {s : z_M} {a4 : Int} {r : z_M → Int → z_O} {k : z_M → z_O} {P : z_V → z_M → Prop} (h : y_L0 s) (ht : y_I6 s) (h4 : 0 ≤ a4 ∧ a4 + 6 ≤ L) (hr : ∀ s' v, y_L0 s' → y_I6 s' → v = a4 + 6 → z_T (r s' v) P) : z_T (fL_law_J1001 fu L xs s 1 309 7658 a4 r k) P := by
  refine T_of (fL_law_J1001.eq_1 ..) ?_
  refine T_leq (fun i1 f1 => ?_)
  have g1 := z_wx f1 (by omega)
  refine T_if1 (by omega) ?_
  refine T_leq (fun p1 e1 => ?_)
  have b1 : -2147483648 ≤ p1 ∧ p1 ≤ 2147483647 := by rw [← e1]; exact z_i32b _
  refine T_useI (L_nearest hfu h p1 b1) (fun v s1 hq => ?_)
  obtain ⟨x, rfl, h1, t1, t2⟩ := hq
  refine T_vI ?_
  refine T_leq (fun j1 f => ?_)
  have q9 : i1 = j1 := f1.symm.trans f
  subst q9
  refine T_if1 (by omega) ?_
  refine T_leq (fun p9 e => ?_)
  have q9 : p1 = p9 := e1.symm.trans e
  subst q9
  clear f e
  refine T_if1 (by decide +kernel) ?_
  refine T_useI (M_nearest hfu h1 p1 b1) (fun v s2 hq => ?_)
  obtain ⟨y, rfl, h2, t3, t4⟩ := hq
  refine T_vI ?_
  refine T_of (fL_law_J1338.eq_1 ..) ?_
  refine T_leq (fun z e => ?_)
  exact hr _ _ h2 (ht.step t2 t1 t3 t4) (z_wx e (by omega))
theorem k_1029 {fu L : Nat} (hfu : 8589934592 ≤ fu) (hL : L ≤ 2000000000) {xs : Nat → Int32} {s : z_M} {a4 : Int} {r : z_M → Int → z_O} {k : z_M → z_O} {P : z_V → z_M → Prop} (h : y_L0 s) (ht : y_I6 s) (h4 : 0 ≤ a4 ∧ a4 + 6 ≤ L) (hr : ∀ s' v, y_L0 s' → y_I6 s' → v = a4 + 6 → z_T (r s' v) P) : z_T (fL_law_J1029 fu L xs s 1 309 7658 a4 r k) P := by
  refine T_of (fL_law_J1029.eq_1 ..) ?_
  refine T_leq (fun i1 f1 => ?_)
  have g1 := z_wx f1 (by omega)
  refine T_if1 (by omega) ?_
  refine T_leq (fun p1 e1 => ?_)
  have b1 : -2147483648 ≤ p1 ∧ p1 ≤ 2147483647 := by rw [← e1]; exact z_i32b _
  refine T_useI (L_partner hfu h p1 b1) (fun v s1 hq => ?_)
  obtain ⟨x, rfl, h1, t1, t2⟩ := hq
  refine T_vI ?_
  refine T_leq (fun j1 f => ?_)
  have q9 : i1 = j1 := f1.symm.trans f
  subst q9
  refine T_if1 (by omega) ?_
  refine T_leq (fun p9 e => ?_)
  have q9 : p1 = p9 := e1.symm.trans e
  subst q9
  clear f e
  refine T_if1 (by decide +kernel) ?_
  refine T_useI (M_partner hfu h1 p1 b1) (fun v s2 hq => ?_)
  obtain ⟨y, rfl, h2, t3, t4⟩ := hq
  refine T_vI ?_
  refine T_of (fL_law_J1338.eq_1 ..) ?_
  refine T_leq (fun z e => ?_)
  exact hr _ _ h2 (ht.step t2 t1 t3 t4) (z_wx e (by omega))
theorem k_1057 {fu L : Nat} (hfu : 8589934592 ≤ fu) (hL : L ≤ 2000000000) {xs : Nat → Int32} {s : z_M} {a4 : Int} {r : z_M → Int → z_O} {k : z_M → z_O} {P : z_V → z_M → Prop} (h : y_L0 s) (ht : y_I6 s) (h4 : 0 ≤ a4 ∧ a4 + 6 ≤ L) (hr : ∀ s' v, y_L0 s' → y_I6 s' → v = a4 + 6 → z_T (r s' v) P) : z_T (fL_law_J1057 fu L xs s 1 309 7658 a4 r k) P := by
  refine T_of (fL_law_J1057.eq_1 ..) ?_
  refine T_leq (fun i1 f1 => ?_)
  have g1 := z_wx f1 (by omega)
  refine T_if1 (by omega) ?_
  refine T_leq (fun p1 e1 => ?_)
  have b1 : -2147483648 ≤ p1 ∧ p1 ≤ 2147483647 := by rw [← e1]; exact z_i32b _
  refine T_leq (fun i2 f2 => ?_)
  have g2 := z_wx f2 (by omega)
  refine T_if1 (by omega) ?_
  refine T_leq (fun p2 e2 => ?_)
  have b2 : -2147483648 ≤ p2 ∧ p2 ≤ 2147483647 := by rw [← e2]; exact z_i32b _
  refine T_leq (fun i3 f3 => ?_)
  have g3 := z_wx f3 (by omega)
  refine T_if1 (by omega) ?_
  refine T_leq (fun p3 e3 => ?_)
  have b3 : -2147483648 ≤ p3 ∧ p3 ≤ 2147483647 := by rw [← e3]; exact z_i32b _
  refine T_useI (L_side hfu h p1 p2 p3 b1 b2 b3) (fun v s1 hq => ?_)
  obtain ⟨x, rfl, h1, t1, t2⟩ := hq
  refine T_vI ?_
  refine T_leq (fun j1 f => ?_)
  have q9 : i1 = j1 := f1.symm.trans f
  subst q9
  refine T_if1 (by omega) ?_
  refine T_leq (fun p9 e => ?_)
  have q9 : p1 = p9 := e1.symm.trans e
  subst q9
  clear f e
  refine T_leq (fun j2 f => ?_)
  have q9 : i2 = j2 := f2.symm.trans f
  subst q9
  refine T_if1 (by omega) ?_
  refine T_leq (fun p9 e => ?_)
  have q9 : p2 = p9 := e2.symm.trans e
  subst q9
  clear f e
  refine T_leq (fun j3 f => ?_)
  have q9 : i3 = j3 := f3.symm.trans f
  subst q9
  refine T_if1 (by omega) ?_
  refine T_leq (fun p9 e => ?_)
  have q9 : p3 = p9 := e3.symm.trans e
  subst q9
  clear f e
  refine T_if1 (by decide +kernel) ?_
  refine T_useI (M_side hfu h1 p1 p2 p3 b1 b2 b3) (fun v s2 hq => ?_)
  obtain ⟨y, rfl, h2, t3, t4⟩ := hq
  refine T_vI ?_
  refine T_of (fL_law_J1338.eq_1 ..) ?_
  refine T_leq (fun z e => ?_)
  exact hr _ _ h2 (ht.step t2 t1 t3 t4) (z_wx e (by omega))
theorem k_1109 {fu L : Nat} (hfu : 8589934592 ≤ fu) (hL : L ≤ 2000000000) {xs : Nat → Int32} {s : z_M} {a4 : Int} {r : z_M → Int → z_O} {k : z_M → z_O} {P : z_V → z_M → Prop} (h : y_L0 s) (ht : y_I6 s) (h4 : 0 ≤ a4 ∧ a4 + 6 ≤ L) (hr : ∀ s' v, y_L0 s' → y_I6 s' → v = a4 + 6 → z_T (r s' v) P) : z_T (fL_law_J1109 fu L xs s 1 309 7658 a4 r k) P := by
  refine T_of (fL_law_J1109.eq_1 ..) ?_
  refine T_leq (fun i1 f1 => ?_)
  have g1 := z_wx f1 (by omega)
  refine T_if1 (by omega) ?_
  refine T_leq (fun p1 e1 => ?_)
  have b1 : -2147483648 ≤ p1 ∧ p1 ≤ 2147483647 := by rw [← e1]; exact z_i32b _
  refine T_useI (L_gutter hfu h p1 b1) (fun v s1 hq => ?_)
  obtain ⟨x, rfl, h1, t1, t2⟩ := hq
  refine T_vI ?_
  refine T_leq (fun j1 f => ?_)
  have q9 : i1 = j1 := f1.symm.trans f
  subst q9
  refine T_if1 (by omega) ?_
  refine T_leq (fun p9 e => ?_)
  have q9 : p1 = p9 := e1.symm.trans e
  subst q9
  clear f e
  refine T_if1 (by decide +kernel) ?_
  refine T_useI (M_gutter hfu h1 p1 b1) (fun v s2 hq => ?_)
  obtain ⟨y, rfl, h2, t3, t4⟩ := hq
  refine T_vI ?_
  refine T_of (fL_law_J1338.eq_1 ..) ?_
  refine T_leq (fun z e => ?_)
  exact hr _ _ h2 (ht.step t2 t1 t3 t4) (z_wx e (by omega))
theorem k_1137 {fu L : Nat} (hfu : 8589934592 ≤ fu) (hL : L ≤ 2000000000) {xs : Nat → Int32} {s : z_M} {a4 : Int} {r : z_M → Int → z_O} {k : z_M → z_O} {P : z_V → z_M → Prop} (h : y_L0 s) (ht : y_I6 s) (h4 : 0 ≤ a4 ∧ a4 + 6 ≤ L) (hr : ∀ s' v, y_L0 s' → y_I6 s' → v = a4 + 6 → z_T (r s' v) P) : z_T (fL_law_J1137 fu L xs s 1 309 7658 a4 r k) P := by
  refine T_of (fL_law_J1137.eq_1 ..) ?_
  refine T_leq (fun i1 f1 => ?_)
  have g1 := z_wx f1 (by omega)
  refine T_if1 (by omega) ?_
  refine T_leq (fun p1 e1 => ?_)
  have b1 : -2147483648 ≤ p1 ∧ p1 ≤ 2147483647 := by rw [← e1]; exact z_i32b _
  refine T_useI (L_clash hfu h p1 b1) (fun v s1 hq => ?_)
  obtain ⟨x, rfl, h1, t1, t2⟩ := hq
  refine T_vI ?_
  refine T_leq (fun j1 f => ?_)
  have q9 : i1 = j1 := f1.symm.trans f
  subst q9
  refine T_if1 (by omega) ?_
  refine T_leq (fun p9 e => ?_)
  have q9 : p1 = p9 := e1.symm.trans e
  subst q9
  clear f e
  refine T_if1 (by decide +kernel) ?_
  refine T_useI (M_clash hfu h1 p1 b1) (fun v s2 hq => ?_)
  obtain ⟨y, rfl, h2, t3, t4⟩ := hq
  refine T_vI ?_
  refine T_of (fL_law_J1338.eq_1 ..) ?_
  refine T_leq (fun z e => ?_)
  exact hr _ _ h2 (ht.step t2 t1 t3 t4) (z_wx e (by omega))
theorem k_1165 {fu L : Nat} (hfu : 8589934592 ≤ fu) (hL : L ≤ 2000000000) {xs : Nat → Int32} {s : z_M} {a4 : Int} {r : z_M → Int → z_O} {k : z_M → z_O} {P : z_V → z_M → Prop} (h : y_L0 s) (ht : y_I6 s) (h4 : 0 ≤ a4 ∧ a4 + 6 ≤ L) (hr : ∀ s' v, y_L0 s' → y_I6 s' → v = a4 + 6 → z_T (r s' v) P) : z_T (fL_law_J1165 fu L xs s 1 309 7658 a4 r k) P := by
  refine T_of (fL_law_J1165.eq_1 ..) ?_
  refine T_leq (fun i1 f1 => ?_)
  have g1 := z_wx f1 (by omega)
  refine T_if1 (by omega) ?_
  refine T_leq (fun p1 e1 => ?_)
  have b1 : -2147483648 ≤ p1 ∧ p1 ≤ 2147483647 := by rw [← e1]; exact z_i32b _
  refine T_leq (fun i2 f2 => ?_)
  have g2 := z_wx f2 (by omega)
  refine T_if1 (by omega) ?_
  refine T_leq (fun p2 e2 => ?_)
  have b2 : -2147483648 ≤ p2 ∧ p2 ≤ 2147483647 := by rw [← e2]; exact z_i32b _
  refine T_useI (L_thick hfu h p1 p2 b1 b2) (fun v s1 hq => ?_)
  obtain ⟨x, rfl, h1, t1, t2⟩ := hq
  refine T_vI ?_
  refine T_leq (fun j1 f => ?_)
  have q9 : i1 = j1 := f1.symm.trans f
  subst q9
  refine T_if1 (by omega) ?_
  refine T_leq (fun p9 e => ?_)
  have q9 : p1 = p9 := e1.symm.trans e
  subst q9
  clear f e
  refine T_leq (fun j2 f => ?_)
  have q9 : i2 = j2 := f2.symm.trans f
  subst q9
  refine T_if1 (by omega) ?_
  refine T_leq (fun p9 e => ?_)
  have q9 : p2 = p9 := e2.symm.trans e
  subst q9
  clear f e
  refine T_if1 (by decide +kernel) ?_
  refine T_useI (M_thick hfu h1 p1 p2 b1 b2) (fun v s2 hq => ?_)
  obtain ⟨y, rfl, h2, t3, t4⟩ := hq
  refine T_vI ?_
  refine T_of (fL_law_J1338.eq_1 ..) ?_
  refine T_leq (fun z e => ?_)
  exact hr _ _ h2 (ht.step t2 t1 t3 t4) (z_wx e (by omega))
theorem k_1205 {fu L : Nat} (hfu : 8589934592 ≤ fu) (hL : L ≤ 2000000000) {xs : Nat → Int32} {s : z_M} {a4 : Int} {r : z_M → Int → z_O} {k : z_M → z_O} {P : z_V → z_M → Prop} (h : y_L0 s) (ht : y_I6 s) (h4 : 0 ≤ a4 ∧ a4 + 6 ≤ L) (hr : ∀ s' v, y_L0 s' → y_I6 s' → v = a4 + 6 → z_T (r s' v) P) : z_T (fL_law_J1205 fu L xs s 1 309 7658 a4 r k) P := by
  refine T_of (fL_law_J1205.eq_1 ..) ?_
  refine T_leq (fun i1 f1 => ?_)
  have g1 := z_wx f1 (by omega)
  refine T_if1 (by omega) ?_
  refine T_leq (fun p1 e1 => ?_)
  have b1 : -2147483648 ≤ p1 ∧ p1 ≤ 2147483647 := by rw [← e1]; exact z_i32b _
  refine T_useI (L_pages hfu h p1 b1) (fun v s1 hq => ?_)
  obtain ⟨x, rfl, h1, t1, t2⟩ := hq
  refine T_vI ?_
  refine T_leq (fun j1 f => ?_)
  have q9 : i1 = j1 := f1.symm.trans f
  subst q9
  refine T_if1 (by omega) ?_
  refine T_leq (fun p9 e => ?_)
  have q9 : p1 = p9 := e1.symm.trans e
  subst q9
  clear f e
  refine T_if1 (by decide +kernel) ?_
  refine T_useI (M_pages hfu h1 p1 b1) (fun v s2 hq => ?_)
  obtain ⟨y, rfl, h2, t3, t4⟩ := hq
  refine T_vI ?_
  refine T_of (fL_law_J1338.eq_1 ..) ?_
  refine T_leq (fun z e => ?_)
  exact hr _ _ h2 (ht.step t2 t1 t3 t4) (z_wx e (by omega))
theorem k_1233 {fu L : Nat} (hfu : 8589934592 ≤ fu) (hL : L ≤ 2000000000) {xs : Nat → Int32} {s : z_M} {a4 : Int} {r : z_M → Int → z_O} {k : z_M → z_O} {P : z_V → z_M → Prop} (h : y_L0 s) (ht : y_I6 s) (h4 : 0 ≤ a4 ∧ a4 + 6 ≤ L) (hr : ∀ s' v, y_L0 s' → y_I6 s' → v = a4 + 6 → z_T (r s' v) P) : z_T (fL_law_J1233 fu L xs s 1 309 7658 a4 r k) P := by
  refine T_of (fL_law_J1233.eq_1 ..) ?_
  refine T_leq (fun i1 f1 => ?_)
  have g1 := z_wx f1 (by omega)
  refine T_if1 (by omega) ?_
  refine T_leq (fun p1 e1 => ?_)
  have b1 : -2147483648 ≤ p1 ∧ p1 ≤ 2147483647 := by rw [← e1]; exact z_i32b _
  refine T_leq (fun i2 f2 => ?_)
  have g2 := z_wx f2 (by omega)
  refine T_if1 (by omega) ?_
  refine T_leq (fun p2 e2 => ?_)
  have b2 : -2147483648 ≤ p2 ∧ p2 ≤ 2147483647 := by rw [← e2]; exact z_i32b _
  refine T_leq (fun i3 f3 => ?_)
  have g3 := z_wx f3 (by omega)
  refine T_if1 (by omega) ?_
  refine T_leq (fun p3 e3 => ?_)
  have b3 : -2147483648 ≤ p3 ∧ p3 ≤ 2147483647 := by rw [← e3]; exact z_i32b _
  refine T_useI (L_page hfu h p1 p2 p3 b1 b2 b3) (fun v s1 hq => ?_)
  obtain ⟨x, rfl, h1, t1, t2⟩ := hq
  refine T_vI ?_
  refine T_leq (fun j1 f => ?_)
  have q9 : i1 = j1 := f1.symm.trans f
  subst q9
  refine T_if1 (by omega) ?_
  refine T_leq (fun p9 e => ?_)
  have q9 : p1 = p9 := e1.symm.trans e
  subst q9
  clear f e
  refine T_leq (fun j2 f => ?_)
  have q9 : i2 = j2 := f2.symm.trans f
  subst q9
  refine T_if1 (by omega) ?_
  refine T_leq (fun p9 e => ?_)
  have q9 : p2 = p9 := e2.symm.trans e
  subst q9
  clear f e
  refine T_leq (fun j3 f => ?_)
  have q9 : i3 = j3 := f3.symm.trans f
  subst q9
  refine T_if1 (by omega) ?_
  refine T_leq (fun p9 e => ?_)
  have q9 : p3 = p9 := e3.symm.trans e
  subst q9
  clear f e
  refine T_if1 (by decide +kernel) ?_
  refine T_useI (M_page hfu h1 p1 p2 p3 b1 b2 b3) (fun v s2 hq => ?_)
  obtain ⟨y, rfl, h2, t3, t4⟩ := hq
  refine T_vI ?_
  refine T_of (fL_law_J1338.eq_1 ..) ?_
  refine T_leq (fun z e => ?_)
  exact hr _ _ h2 (ht.step t2 t1 t3 t4) (z_wx e (by omega))
theorem k_1285 {fu L : Nat} (hfu : 8589934592 ≤ fu) (hL : L ≤ 2000000000) {xs : Nat → Int32} {s : z_M} {a4 : Int} {r : z_M → Int → z_O} {k : z_M → z_O} {P : z_V → z_M → Prop} (h : y_L0 s) (ht : y_I6 s) (h4 : 0 ≤ a4 ∧ a4 + 6 ≤ L) (hr : ∀ s' v, y_L0 s' → y_I6 s' → v = a4 + 6 → z_T (r s' v) P) : z_T (fL_law_J1285 fu L xs s 1 309 7658 a4 r k) P := by
  refine T_of (fL_law_J1285.eq_1 ..) ?_
  refine T_leq (fun i1 f1 => ?_)
  have g1 := z_wx f1 (by omega)
  refine T_if1 (by omega) ?_
  refine T_leq (fun p1 e1 => ?_)
  have b1 : -2147483648 ≤ p1 ∧ p1 ≤ 2147483647 := by rw [← e1]; exact z_i32b _
  refine T_useI (L_narrow hfu h p1 b1) (fun v s1 hq => ?_)
  obtain ⟨x, rfl, h1, t1, t2⟩ := hq
  refine T_vI ?_
  refine T_leq (fun j1 f => ?_)
  have q9 : i1 = j1 := f1.symm.trans f
  subst q9
  refine T_if1 (by omega) ?_
  refine T_leq (fun p9 e => ?_)
  have q9 : p1 = p9 := e1.symm.trans e
  subst q9
  clear f e
  refine T_if1 (by decide +kernel) ?_
  refine T_useI (M_narrow hfu h1 p1 b1) (fun v s2 hq => ?_)
  obtain ⟨y, rfl, h2, t3, t4⟩ := hq
  refine T_vI ?_
  refine T_of (fL_law_J1338.eq_1 ..) ?_
  refine T_leq (fun z e => ?_)
  exact hr _ _ h2 (ht.step t2 t1 t3 t4) (z_wx e (by omega))
theorem k_1313 {fu L : Nat} (hfu : 8589934592 ≤ fu) (hL : L ≤ 2000000000) {xs : Nat → Int32} {s : z_M} {a4 : Int} {r : z_M → Int → z_O} {k : z_M → z_O} {P : z_V → z_M → Prop} (h : y_L0 s) (ht : y_I6 s) (h4 : 0 ≤ a4 ∧ a4 + 6 ≤ L) (hr : ∀ s' v, y_L0 s' → y_I6 s' → v = a4 + 6 → z_T (r s' v) P) : z_T (fL_law_J1313 fu L xs s 1 309 7658 a4 r k) P := by
  refine T_of (fL_law_J1313.eq_1 ..) ?_
  refine T_leq (fun i1 f1 => ?_)
  have g1 := z_wx f1 (by omega)
  refine T_if1 (by omega) ?_
  refine T_leq (fun p1 e1 => ?_)
  have b1 : -2147483648 ≤ p1 ∧ p1 ≤ 2147483647 := by rw [← e1]; exact z_i32b _
  refine T_if1 (by decide +kernel) ?_
  refine T_useI (L_status hfu h p1 b1) (fun v s1 hq => ?_)
  obtain ⟨x, rfl, h1, t1, t2⟩ := hq
  refine T_vI ?_
  refine T_leq (fun j1 f => ?_)
  have q9 : i1 = j1 := f1.symm.trans f
  subst q9
  refine T_if1 (by omega) ?_
  refine T_leq (fun p9 e => ?_)
  have q9 : p1 = p9 := e1.symm.trans e
  subst q9
  clear f e
  refine T_if1 (by decide +kernel) ?_
  refine T_useI (M_status hfu h1 p1 b1) (fun v s2 hq => ?_)
  obtain ⟨y, rfl, h2, t3, t4⟩ := hq
  refine T_vI ?_
  refine T_of (fL_law_J1338.eq_1 ..) ?_
  refine T_leq (fun z e => ?_)
  exact hr _ _ h2 (ht.step t2 t1 t3 t4) (z_wx e (by omega))
theorem law_go {fu L : Nat} (hfu : 8589934592 ≤ fu) (hL : L ≤ 2000000000) {xs : Nat → Int32} : ∀ (F : Nat) (s : z_M) (a4 : Int), y_L0 s → y_I6 s → 0 ≤ a4 ∧ a4 ≤ L → (L : Int) - a4 < 6 * F → z_T (fL_law_L23 fu L xs 1 309 7658 F s a4 z_kr) (fun v _ => v = vI 1) := by
  intro F
  induction F with
  | zero =>
    intro s a4 h ht h4 hm
    exfalso; omega
  | succ F ih =>
    intro s a4 h ht h4 hm
    refine T_of (fL_law_L23.eq_2 ..) ?_
    refine T_leq (fun x1 e1 => ?_)
    have w1 := z_wx e1 (by omega)
    refine T_ite (fun hc => ?_) (fun hc => ?_)
    · refine T_of (z_kr.eq_1 ..) ?_
      refine T_if1 (by decide) ?_
      exact T_ret rfl
    · have hr : ∀ s' v, y_L0 s' → y_I6 s' → v = a4 + 6 → z_T (fL_law_L23 fu L xs 1 309 7658 F s' v z_kr) (fun v _ => v = vI 1) := fun s' v g1 g2 g3 => ih s' v g1 g2 (by omega) (by omega)
      have h6 : 0 ≤ a4 ∧ a4 + 6 ≤ L := by omega
      refine T_if1 (by omega) ?_
      refine T_letg (fun x2 => ?_)
      refine T_letg (fun x3 => ?_)
      refine T_ite (fun _ => k_188 hfu hL h ht h6 hr) (fun _ => ?_)
      refine T_ite (fun _ => k_261 hfu hL h ht h6 hr) (fun _ => ?_)
      refine T_ite (fun _ => k_289 hfu hL h ht h6 hr) (fun _ => ?_)
      refine T_ite (fun _ => k_317 hfu hL h ht h6 hr) (fun _ => ?_)
      refine T_ite (fun _ => k_330 hfu hL h ht h6 hr) (fun _ => ?_)
      refine T_ite (fun _ => k_398 hfu hL h ht h6 hr) (fun _ => ?_)
      refine T_ite (fun _ => k_438 hfu hL h ht h6 hr) (fun _ => ?_)
      refine T_ite (fun _ => k_451 hfu hL h ht h6 hr) (fun _ => ?_)
      refine T_ite (fun _ => k_479 hfu hL h ht h6 hr) (fun _ => ?_)
      refine T_ite (fun _ => k_519 hfu hL h ht h6 hr) (fun _ => ?_)
      refine T_ite (fun _ => k_559 hfu hL h ht h6 hr) (fun _ => ?_)
      refine T_ite (fun _ => k_599 hfu hL h ht h6 hr) (fun _ => ?_)
      refine T_ite (fun _ => k_639 hfu hL h ht h6 hr) (fun _ => ?_)
      refine T_ite (fun _ => k_703 hfu hL h ht h6 hr) (fun _ => ?_)
      refine T_ite (fun _ => k_743 hfu hL h ht h6 hr) (fun _ => ?_)
      refine T_ite (fun _ => k_783 hfu hL h ht h6 hr) (fun _ => ?_)
      refine T_ite (fun _ => k_811 hfu hL h ht h6 hr) (fun _ => ?_)
      refine T_ite (fun _ => k_851 hfu hL h ht h6 hr) (fun _ => ?_)
      refine T_ite (fun _ => k_891 hfu hL h ht h6 hr) (fun _ => ?_)
      refine T_ite (fun _ => k_919 hfu hL h ht h6 hr) (fun _ => ?_)
      refine T_ite (fun _ => k_932 hfu hL h ht h6 hr) (fun _ => ?_)
      refine T_ite (fun _ => k_960 hfu hL h ht h6 hr) (fun _ => ?_)
      refine T_ite (fun _ => k_973 hfu hL h ht h6 hr) (fun _ => ?_)
      refine T_ite (fun _ => k_1001 hfu hL h ht h6 hr) (fun _ => ?_)
      refine T_ite (fun _ => k_1029 hfu hL h ht h6 hr) (fun _ => ?_)
      refine T_ite (fun _ => k_1057 hfu hL h ht h6 hr) (fun _ => ?_)
      refine T_ite (fun _ => k_1109 hfu hL h ht h6 hr) (fun _ => ?_)
      refine T_ite (fun _ => k_1137 hfu hL h ht h6 hr) (fun _ => ?_)
      refine T_ite (fun _ => k_1165 hfu hL h ht h6 hr) (fun _ => ?_)
      refine T_ite (fun _ => k_1205 hfu hL h ht h6 hr) (fun _ => ?_)
      refine T_ite (fun _ => k_1233 hfu hL h ht h6 hr) (fun _ => ?_)
      refine T_ite (fun _ => k_1285 hfu hL h ht h6 hr) (fun _ => ?_)
      refine T_ite (fun _ => k_1313 hfu hL h ht h6 hr) (fun _ => ?_)
      refine T_of (fL_law_J1338.eq_1 ..) ?_
      refine T_leq (fun z e => ?_)
      exact hr _ _ h ht (z_wx e (by omega))
theorem CI_0 : z_CI (fun _ _ => 0) := fun k j => z_bd0 k j
theorem bq_1_13 : z_bd 1 13 = (-2147483648, 2147483647) := by decide +kernel
theorem bq_3_0 : z_bd 3 0 = (-2147483648, 2147483647) := by decide +kernel
theorem bq_3_1 : z_bd 3 1 = (-2147483648, 2147483647) := by decide +kernel
theorem bq_3_2 : z_bd 3 2 = (-2147483648, 2147483647) := by decide +kernel
theorem bq_3_3 : z_bd 3 3 = (-2147483648, 2147483647) := by decide +kernel
theorem bq_3_4 : z_bd 3 4 = (-2147483648, 2147483647) := by decide +kernel
theorem bq_3_5 : z_bd 3 5 = (-2147483648, 2147483647) := by decide +kernel
theorem bq_3_6 : z_bd 3 6 = (-2147483648, 2147483647) := by decide +kernel
theorem bq_3_7 : z_bd 3 7 = (-2147483648, 2147483647) := by decide +kernel
theorem bq_3_8 : z_bd 3 8 = (-2147483648, 2147483647) := by decide +kernel
theorem bq_309_5 : z_bd 309 5 = (-2147483648, 2147483647) := by decide +kernel
theorem bq_312_0 : z_bd 312 0 = (-2147483648, 2147483647) := by decide +kernel
theorem bq_312_1 : z_bd 312 1 = (-2147483648, 2147483647) := by decide +kernel
theorem bq_312_2 : z_bd 312 2 = (-2147483648, 2147483647) := by decide +kernel
theorem bq_312_3 : z_bd 312 3 = (-2147483648, 2147483647) := by decide +kernel
theorem bq_312_4 : z_bd 312 4 = (-2147483648, 2147483647) := by decide +kernel
theorem bq_312_5 : z_bd 312 5 = (-2147483648, 2147483647) := by decide +kernel
theorem bq_312_6 : z_bd 312 6 = (-2147483648, 2147483647) := by decide +kernel
theorem bq_312_7 : z_bd 312 7 = (-2147483648, 2147483647) := by decide +kernel
theorem bq_312_8 : z_bd 312 8 = (-2147483648, 2147483647) := by decide +kernel
theorem bq_313_0 : z_bd 313 0 = (-2147483648, 2147483647) := by decide +kernel
theorem bq_313_1 : z_bd 313 1 = (-2147483648, 2147483647) := by decide +kernel
theorem bq_313_2 : z_bd 313 2 = (-2147483648, 2147483647) := by decide +kernel
theorem bq_313_3 : z_bd 313 3 = (-2147483648, 2147483647) := by decide +kernel
theorem bq_313_4 : z_bd 313 4 = (-2147483648, 2147483647) := by decide +kernel
theorem bq_313_5 : z_bd 313 5 = (-2147483648, 2147483647) := by decide +kernel
theorem bq_313_6 : z_bd 313 6 = (-2147483648, 2147483647) := by decide +kernel
theorem bq_313_7 : z_bd 313 7 = (-2147483648, 2147483647) := by decide +kernel
theorem bq_313_8 : z_bd 313 8 = (-2147483648, 2147483647) := by decide +kernel
theorem bq_314_0 : z_bd 314 0 = (-2147483648, 2147483647) := by decide +kernel
theorem bq_314_1 : z_bd 314 1 = (-2147483648, 2147483647) := by decide +kernel
theorem bq_314_2 : z_bd 314 2 = (-2147483648, 2147483647) := by decide +kernel
theorem bq_314_3 : z_bd 314 3 = (-2147483648, 2147483647) := by decide +kernel
theorem bq_314_4 : z_bd 314 4 = (-2147483648, 2147483647) := by decide +kernel
theorem bq_314_5 : z_bd 314 5 = (-2147483648, 2147483647) := by decide +kernel
theorem bq_314_6 : z_bd 314 6 = (-2147483648, 2147483647) := by decide +kernel
theorem bq_314_7 : z_bd 314 7 = (-2147483648, 2147483647) := by decide +kernel
theorem bq_314_8 : z_bd 314 8 = (-2147483648, 2147483647) := by decide +kernel
theorem CI_s0 : z_CI z_s0 := (CI_up (CI_up (CI_up (CI_up (CI_up (CI_up (CI_up (CI_up (CI_up (CI_up (CI_up (CI_up (CI_up (CI_up (CI_up (CI_up (CI_up (CI_up (CI_up (CI_up (CI_up (CI_up (CI_up (CI_up (CI_up (CI_up (CI_up (CI_up (CI_up (CI_up (CI_up (CI_up (CI_up (CI_up (CI_up (CI_up (CI_up (CI_up CI_0 bq_1_13 (by decide)) bq_3_0 (by decide)) bq_3_1 (by decide)) bq_3_2 (by decide)) bq_3_3 (by decide)) bq_3_4 (by decide)) bq_3_5 (by decide)) bq_3_6 (by decide)) bq_3_7 (by decide)) bq_3_8 (by decide)) bq_309_5 (by decide)) bq_312_0 (by decide)) bq_312_1 (by decide)) bq_312_2 (by decide)) bq_312_3 (by decide)) bq_312_4 (by decide)) bq_312_5 (by decide)) bq_312_6 (by decide)) bq_312_7 (by decide)) bq_312_8 (by decide)) bq_313_0 (by decide)) bq_313_1 (by decide)) bq_313_2 (by decide)) bq_313_3 (by decide)) bq_313_4 (by decide)) bq_313_5 (by decide)) bq_313_6 (by decide)) bq_313_7 (by decide)) bq_313_8 (by decide)) bq_314_0 (by decide)) bq_314_1 (by decide)) bq_314_2 (by decide)) bq_314_3 (by decide)) bq_314_4 (by decide)) bq_314_5 (by decide)) bq_314_6 (by decide)) bq_314_7 (by decide)) bq_314_8 (by decide))
theorem z_s0_f {a b : Int} (h : a ≠ 1) (h3 : a ≠ 3) (h9 : a ≠ 309) (h12 : a ≠ 312) (h13 : a ≠ 313) (h14 : a ≠ 314) : z_s0 a b = 0 := by
  unfold z_s0 z_sA
  repeat rw [z_up_k (by omega)]
theorem L0_s0 : y_L0 z_s0 := by
  have e20 : z_s0 309 20 = 0 := by decide +kernel
  have e36 : z_s0 309 36 = 0 := by decide +kernel
  have e16 : z_s0 1 16 = 0 := by decide +kernel
  refine ⟨CI_s0, Or.inl e16, ?_, ?_, ?_, y_K.k0 e36⟩
  · intro t h0 h1
    rw [z_s0_f (a := 316 + t) (b := 1) (by omega) (by omega) (by omega) (by omega) (by omega) (by omega), z_s0_f (a := 316 + t) (b := 0) (by omega) (by omega) (by omega) (by omega) (by omega) (by omega)]
    exact ⟨by omega, fun i a b => by omega⟩
  · exact y_DD.z (z_s0_f (by decide) (by decide) (by decide) (by decide) (by decide) (by decide)) (z_s0_f (by decide) (by decide) (by decide) (by decide) (by decide) (by decide))
  · show y_Q z_s0 (z_s0 309 20) (z_s0 316 0)
    exact y_Q.z e20 (z_s0_f (by decide) (by decide) (by decide) (by decide) (by decide) (by decide))
theorem I6_s0 : y_I6 z_s0 := fun j => by
  refine ⟨?_, rfl, rfl⟩
  by_cases h : 0 ≤ j ∧ j ≤ 8
  · rcases (show j = 0 ∨ j = 1 ∨ j = 2 ∨ j = 3 ∨ j = 4 ∨ j = 5 ∨ j = 6 ∨ j = 7 ∨ j = 8 by omega) with rfl | rfl | rfl | rfl | rfl | rfl | rfl | rfl | rfl <;> decide +kernel
  · unfold z_s0 z_sA
    repeat (first | rw [z_up_k (by omega)] | rw [z_up_j (by omega)])
theorem law_pure (L : Nat) (hL : L ≤ 3072) (xs : Nat → Int32) : ∃ (fu F : Nat) (s' : z_M), F ≤ 513 ∧ fL_law_L23 fu L xs 1 309 7658 F z_s0 0 z_kr = some (vI 1, s') := by
  obtain ⟨v, s, e, rfl⟩ := law_go (fu := 8589934592) (L := L) (Nat.le_refl _) (by omega) (xs := xs) 513 z_s0 0 L0_s0 I6_s0 (by omega) (by omega)
  exact ⟨8589934592, 513, s, Nat.le_refl _, e⟩
