/-! moves: both sides answer alike -/
theorem q_moves {s s1 : z_M} {x y : Int} (q : y_QMc s x) (q' : y_QMm s1 y) (hb : ∀ sr, y_RF s sr → y_BT sr s1) (hk : ∀ sr, y_RF s sr → y_OKc sr) (hbf : ∀ g m : z_M, y_FLc s g → z_CI m → (∀ a b : Int, (a ≤ 3223 ∧ a ≠ 309 ∧ ¬ (a = 312 ∧ b = 5)) ∨ (a = 309 ∧ b = 20) → m a b = s1 a b) → m 312 5 = 1 - s1 312 5 → y_BT g m) : x = y := by
  obtain ⟨sr, g, nx, c, ry, fl, ⟨nx1, cn, c6, lr⟩, rfl⟩ := q
  obtain ⟨sl, m, rm, ⟨cm, fm, em, lbm, okm⟩, rfl⟩ := q'
  obtain ⟨⟨_, _, l3, _, _⟩, bl⟩ := (hb sr ry.1).le (hk sr ry.1) ry.2.2.2 rm
  have b2 := hbf g m fl cm fm em
  have eD := b2.D
  have en := b2.n
  have st := b2.2.2.2.2.2
  have e2 := (b2.2.1.1.EU b2.1.2.1 b2.2.2.1).2.1
  obtain ⟨nx', c', ⟨nx1', cn', c6', lr'⟩, ly', _⟩ := lbm
  rw [eD, en, st 2, st 7, st 0, st 3] at nx1
  rw [en] at cn lr
  obtain ⟨ecc, er⟩ := nx1.cnt nx1' lr lr'
  subst ecc
  have at' : ∀ i : Int, 0 ≤ i → i < (c : Int) → 0 ≤ g 257 i ∧ g 257 i < g 257 (i + 1) ∧ g 257 (i + 1) ≤ m 309 20 := fun i p q => lr.SV nx1.b p q
  have er2 : ∀ l : Int, 0 ≤ l → l ≤ (c : Int) → g 257 l = m 3438 l := fun l p q => by
    have w := er l.toNat (by omega)
    rw [show ((l.toNat : Nat) : Int) = l by omega] at w
    exact w
  have e20 : m 309 20 = s1 309 20 := fm 309 20 (by omega)
  have e21 : sl 309 20 = s1 309 20 := rm.2.1 309 20 (by omega)
  rw [en]
  refine y_su_cg (fun u p q => ?_)
  obtain ⟨⟨a1, _⟩, _⟩ := l3 u p (by omega)
  obtain ⟨l, l0, l1, u0, u1⟩ := lr'.ln p q
  have z : y_LMl (y_dm m) (y_me (y_dm m) (m 312 7) (m 309 20)) (y_qm m) m l (m 3438 l) (m 3438 (l + 1) - 1) (y_bn (y_dm m) (m 3438) l) := ly' l l0 (by rw [c6']; exact l1)
  have m1 := (z.2 u u0 (by omega)).1.1
  have f1 := er2 l l0 (by omega)
  have f2 := er2 (l + 1) (by omega) (by omega)
  have nl := y_nl_at c at' l u l0 l1 (by omega) (by omega)
  have cu := (e2 u p q).2.1
  unfold y_mF
  rw [a1, nl, m1, cu]
