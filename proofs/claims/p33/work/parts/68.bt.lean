/-! BOTH SIDES, units fresh -/
/-- both sides with fresh units -/
def y_BT (g s : z_M) : Prop := y_U2 g ∧ y_T2 g 6 s 0 ∧ y_PU s ∧ z_CI s ∧ z_CI g ∧ ∀ j : Int, g 3 j = s 312 j
theorem y_T2.md {g s s1 : z_M} (h : y_T2 g 6 s 0) (c : z_CI s) (f : ∀ a b : Int, 309 ≤ a → a ≤ 7657 → s1 a b = s a b) : y_T2 g 6 s1 0 := by
  obtain ⟨h1, h2, h3⟩ := h
  have hn := y_NN.of c 0 (by decide) (by decide)
  have r : y_RS2 s s1 0 0 := y_RS2.id (by decide) f
  have r1 := r.2.1
  refine ⟨?_, h2, h3.rs r hn.1 hn.2.2 hn.2.1⟩
  rw [r1]
  exact h1.rs r hn.1
theorem y_n0 {s : z_M} (c : z_CI s) : 0 ≤ s 316 0 ∧ s 316 0 ≤ 200 := CI_b c (z_bd_head (t := 0) (by decide) (Or.inl rfl))
theorem y_n1 {s : z_M} (c : z_CI s) : 0 ≤ s 316 1 ∧ s 316 1 ≤ 200 := CI_b c (z_bd_head (t := 0) (by decide) (Or.inr rfl))
theorem y_uo {s : z_M} (c : z_CI s) (j : Int) : 0 ≤ s 3223 j ∧ s 3223 j < 200 := by
  have := CI_b c (k := 3223) (j := j) (bdr_3223 j)
  omega
