/-! both sides' lines are the same -/
theorem y_BT.w4 {g s : z_M} (b : y_BT g s) {u : Int} (h0 : 0 ≤ u) (h1 : u < s 309 20) (k4 : s 3220 u = 4) : 1 ≤ y_wm s u := by
  obtain ⟨U, X, p, c, cg, st⟩ := b
  have BS := X.1.BS X.2.2 rfl
  have w := p.un h0 h1
  have a0 : y_am s u = 0 := by
    unfold y_am; rw [if_neg (by omega)]
  have f := p.in0 h0 h1 (i := s 3221 u) (Int.le_refl _) (by omega)
  have v := p.of0 BS f.1 f.2.1
  rw [f.2.2] at v
  have kk : s 346 (s 3221 u) = 4 := by omega
  have l6 : y_lm s (s 3221 u) = 6 := by
    unfold y_lm
    rw [if_neg (show ¬ s 346 (s 3221 u) = 1 by omega), if_neg (show ¬ s 346 (s 3221 u) = 2 by omega), if_neg (show ¬ (s 346 (s 3221 u) = 0 ∨ s 346 (s 3221 u) = 7) by omega), if_neg (show ¬ s 346 (s 3221 u) = 6 by omega)]
  have e := y_sum_pt (f := y_lm s) (a := s 3221 u) (x := s 3221 u + 1) (y := s 3221 u + s 3222 u) (by omega) (by omega)
  have r := y_sum_r (f := y_lm s) (a := s 3221 u + 1) (m := 12) (s 3221 u + s 3222 u - (s 3221 u + 1)).toNat (fun i _ _ => y_lm_b)
  have o : y_sum (y_lm s) (s 3221 u) (s 3221 u + 1 - s 3221 u).toNat = 6 := by
    rw [show (s 3221 u + 1 - s 3221 u).toNat = 0 + 1 by omega, y_sum_s]
    show 0 + y_lm s (s 3221 u + ((0 : Nat) : Int)) = 6
    rw [show s 3221 u + ((0 : Nat) : Int) = s 3221 u by omega, l6]; rfl
  unfold y_wm
  rw [if_pos a0, show (s 3222 u).toNat = (s 3221 u + s 3222 u - s 3221 u).toNat by omega]
  omega
/-- the class's rows, as D tells them -/
theorem y_BT.CM {g s : z_M} (b : y_BT g s) (kn : y_KN (y_dm s) g) (r : 0 ≤ g 3 2 ∧ g 3 2 ≤ 6) : y_CM (y_dm s) (y_me (y_dm s) (s 312 7) (s 309 20)) g g := by
  have e := b.D
  have cu := b.CU
  have w4 := fun u h0 h1 k4 => b.w4 (u := u) h0 h1 k4
  have un := fun u h0 h1 => b.un (u := u) h0 h1
  obtain ⟨d, _⟩ := b.DF
  obtain ⟨U, X, p, c, cg, st⟩ := b
  obtain ⟨e1, _, _⟩ := X.1.EU U.2.1 p
  have n := CI_b cg (k := 191) (j := 16) bd_191_16q
  have t := X.tok (y_n0 c).1
  refine ⟨cu, kn, r, fun u h0 h1 => ?_, fun v h0 h1 => ?_, fun _ _ _ _ => rfl⟩
  · have m := U.me t n (by rw [e, e1]; exact d) (fun x h0 h1 k4 => by
      have w := un x h0 (by omega)
      rw [w.2.1]
      exact w4 x h0 (by omega) (by omega)) h0 h1
    rw [m, e, st 7, e1]
  · have ud := U.2.2 t
    rw [(ud.2.1 v h0 h1).2]
    refine y_sum_cg _ (fun i a q => ?_)
    have ci := cu.2.2.1 i a (by omega)
    unfold y_fl y_sol
    rw [ci.1, ci.2.1]
/-- how many lines -/
theorem y_NX.cnt {L : Int → Int → Int} {C nx nx' r r' : Int → Int} {n len md : Int} {c c' : Nat} (h : y_NX L C n len md nx) (h' : y_NX L C n len md nx') (l : y_LR nx r n c) (l' : y_LR nx' r' n c') : c = c' ∧ ∀ k : Nat, k ≤ c → r k = r' k :=
  l.un l' (h.un h') (fun a p q => (h.b a p q).1)
