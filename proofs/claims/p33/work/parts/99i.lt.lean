/-! letters of readings, block by block, and their places: both sides -/
theorem w_r292 : z_rw 292 ∧ z_gr 292 0 = 293 ∧ z_ln 292 = 200 := by decide +kernel
theorem w_r294 : z_rw 294 ∧ z_gr 294 0 = 295 ∧ z_ln 294 = 200 := by decide +kernel
def y_ltr (s : z_M) (k d : Int) : Int := if d ≠ 0 then s 295 k else s 293 k
theorem e_letters {fu : Nat} {s : z_M} {k d : Int} (h : 0 ≤ k ∧ k < 200) : fX0_letters fu s 279 k d = some (vI (y_ltr s k d), s) := by
  refine T_eq ?_
  refine T_of (fX0_letters.eq_1 ..) ?_
  refine T_ite (fun hd => ?_) (fun hd => ?_)
  · refine T_if1 (by decide +kernel) ?_
    refine T_let 294 (by decide +kernel) ?_
    refine T_if1 (by decide +kernel) ?_
    refine T_getV w_r294 (by omega) rfl ?_
    refine T_of (fX0_letters_J23.eq_1 ..) ?_
    refine T_ret ⟨?_, rfl⟩
    unfold y_ltr
    rw [if_pos hd]
  · refine T_if1 (by decide +kernel) ?_
    refine T_let 292 (by decide +kernel) ?_
    refine T_if1 (by decide +kernel) ?_
    refine T_getV w_r292 (by omega) rfl ?_
    refine T_of (fX0_letters_J23.eq_1 ..) ?_
    refine T_ret ⟨?_, rfl⟩
    unfold y_ltr
    rw [if_neg hd]
/-- where letter i of n stands, over a block of WIDE w that begins at st -/
def y_pf (n w st i : Int) : Int := if z_w (6 * n) ≤ w then (if n ≤ 0 then st else z_w (z_w (st + z_w (Int.tdiv (z_w (w * z_w (z_w (2 * i) + 1))) (z_w (2 * n)))) - 3)) else z_w (z_w (st - z_w (Int.tdiv (z_w (z_w (6 * n) - w)) 2)) + z_w (6 * i))
theorem e_letterPlace {fu : Nat} {s : z_M} {k d i : Int} (h : 0 ≤ k ∧ k < 200) (hf : 0 ≤ s 281 k ∧ s 281 k < 200) (hn : y_ltr s k d ≤ 100000000) : fX3_letterPlace fu s 258 k d i = some (vI (y_pf (y_ltr s k d) (s 285 k) (s 262 (s 281 k)) i), s) := by
  have hz : y_ltr s k d ≤ 0 ∨ z_w (2 * y_ltr s k d) ≠ 0 := by
    by_cases q : y_ltr s k d ≤ 0
    · exact Or.inl q
    · exact Or.inr (by rw [v_wid (by omega)]; omega)
  refine T_eq ?_
  refine T_of (fX3_letterPlace.eq_1 ..) ?_
  refine T_if1 (by decide +kernel) ?_
  refine T_let 279 (by decide +kernel) ?_
  refine T_if1 (by decide +kernel) ?_
  refine T_bI (T_of (e_letters h) (T_rI ?_))
  refine T_if1 (by decide +kernel) ?_
  refine T_let 279 (by decide +kernel) ?_
  refine T_if1 (by decide +kernel) ?_
  refine T_let 284 (by decide +kernel) ?_
  refine T_if1 (by decide +kernel) ?_
  refine T_getV w_r284 (by omega) rfl ?_
  refine T_if1 (by decide +kernel) ?_
  refine T_let 261 (by decide +kernel) ?_
  refine T_if1 (by decide +kernel) ?_
  refine T_let 279 (by decide +kernel) ?_
  refine T_if1 (by decide +kernel) ?_
  refine T_let 280 (by decide +kernel) ?_
  refine T_if1 (by decide +kernel) ?_
  refine T_getV w_r280 (by omega) rfl ?_
  refine T_if1 (by decide +kernel) ?_
  refine T_getV w_r261 (by omega) rfl ?_
  refine T_let (z_w (6 * (y_ltr s k d))) rfl ?_
  refine T_ite (fun hA => ?_) (fun hA => ?_)
  · refine T_ite (fun hB => ?_) (fun hB => ?_)
    · refine T_of (fX3_letterPlace_J101.eq_1 ..) ?_
      refine T_ret ⟨?_, rfl⟩
      unfold y_pf
      rw [if_pos hA, if_pos hB]
    · refine T_let (z_w (2 * i)) rfl ?_
      refine T_let (z_w ((z_w (2 * i)) + 1)) rfl ?_
      refine T_let (z_w ((s 285 k) * (z_w ((z_w (2 * i)) + 1)))) rfl ?_
      refine T_let (z_w (2 * (y_ltr s k d))) rfl ?_
      refine T_if1 (by omega) ?_
      refine T_let (z_w (Int.tdiv (z_w ((s 285 k) * (z_w ((z_w (2 * i)) + 1)))) (z_w (2 * (y_ltr s k d))))) rfl ?_
      refine T_let (z_w ((s 262 (s 281 k)) + (z_w (Int.tdiv (z_w ((s 285 k) * (z_w ((z_w (2 * i)) + 1)))) (z_w (2 * (y_ltr s k d))))))) rfl ?_
      refine T_let (z_w ((z_w ((s 262 (s 281 k)) + (z_w (Int.tdiv (z_w ((s 285 k) * (z_w ((z_w (2 * i)) + 1)))) (z_w (2 * (y_ltr s k d))))))) - 3)) rfl ?_
      refine T_of (fX3_letterPlace_J101.eq_1 ..) ?_
      refine T_ret ⟨?_, rfl⟩
      unfold y_pf
      rw [if_pos hA, if_neg hB]
  · refine T_let (z_w (6 * (y_ltr s k d))) rfl ?_
    refine T_let (z_w ((z_w (6 * (y_ltr s k d))) - (s 285 k))) rfl ?_
    refine T_if1 (by omega) ?_
    refine T_let (z_w (Int.tdiv (z_w ((z_w (6 * (y_ltr s k d))) - (s 285 k))) 2)) rfl ?_
    refine T_let (z_w ((s 262 (s 281 k)) - (z_w (Int.tdiv (z_w ((z_w (6 * (y_ltr s k d))) - (s 285 k))) 2)))) rfl ?_
    refine T_let (z_w (6 * i)) rfl ?_
    refine T_let (z_w ((z_w ((s 262 (s 281 k)) - (z_w (Int.tdiv (z_w ((z_w (6 * (y_ltr s k d))) - (s 285 k))) 2)))) + (z_w (6 * i)))) rfl ?_
    refine T_ret ⟨?_, rfl⟩
    unfold y_pf
    rw [if_neg hA]
/-! the reference -/
/-- block k of all: its line, where it begins and ends -/
theorem y_LBm.bk {s : z_M} (ok : y_OKy s) (lm : y_LBm (y_dm s) s) {k : Int} (h0 : 0 ≤ k) (h1 : k < s 309 58) : ∃ l f z : Int, (0 ≤ l ∧ l < s 309 44) ∧ (0 ≤ s 3438 l ∧ s 3438 l ≤ f ∧ f ≤ z ∧ z < s 3438 (l + 1) ∧ s 3438 (l + 1) ≤ s 309 20) ∧ (s (3452 + k) 0 = f ∧ s (3452 + k) 1 = z - f + 1 ∧ s (3452 + k) 2 = y_sum (y_dm s 1) f (z - f + 1).toNat) ∧ y_Bl (y_dm s) (s 3438 l) (s 3438 (l + 1) - 1) f z ∧ (∀ v : Int, f ≤ v → v ≤ z → s 3220 v = 7) ∧ (s 3441 f = l ∧ s 3442 f = y_pl (y_dm s) (y_me (y_dm s) (s 312 7) (s 309 20)) (y_qm s) (s 3438 l) (s 3438 (l + 1) - 1) f) ∧ k = y_bn (y_dm s) (s 3438) l + y_ns (y_dm s) (s 3438 l) f ∧ y_bn (y_dm s) (s 3438) (l + 1) = y_bn (y_dm s) (s 3438) l + y_ns (y_dm s) (s 3438 l) (s 3438 (l + 1)) := by
  obtain ⟨nx, cc, ls, ly, l58⟩ := lm
  have e44 := ls.2.2.1
  obtain ⟨l, u, ⟨l0, l1⟩, ⟨u0, u1⟩, sa, ek⟩ := y_bi_hit (D := y_dm s) (r := s 3438) (c := (cc : Int)) (n := s 309 20) (fun i p q => ls.at p q) (by omega) h0 (by rw [← e44, ← l58]; exact h1)
  have rl := ls.at l0 l1
  have lml := ly l l0 (by rw [e44]; exact l1)
  have um := lml.2 u u0 (by omega)
  have bw := um.2 sa
  rw [← ek] at bw
  have bl := y_Bl.of (D := y_dm s) (a := s 3438 l) (b := s 3438 (l + 1) - 1) u0 (by omega) sa
  have e1 := bl.2.1
  have e2 := bl.2.2.1
  refine ⟨l, u, y_e (y_dm s) (s 3438 l) (s 3438 (l + 1) - 1) u, ⟨l0, by rw [e44]; exact l1⟩, ⟨rl.1, u0, e1, by omega, rl.2.2⟩, ⟨bw.1, bw.2.1, bw.2.2.1⟩, bl, fun v p q => ?_, ⟨um.1.1, um.1.2.1⟩, ek, y_bi_s l0⟩
  have k7 := bl.k p q
  rw [y_dm0 ⟨by omega, by omega⟩] at k7
  exact k7
theorem y_rl_b {s : z_M} (rw0 : y_Rw s) (d : y_DF (y_dm s) (s 309 20)) {u e : Int} (h0 : 0 ≤ u) (h1 : u < s 309 20) (k7 : s 3220 u = 7) (he : e = 0 ∨ e = 1) : 0 ≤ y_rl s u e ∧ y_rl s u e ≤ 15 := by
  have dd := d u h0 h1
  obtain ⟨_, d3, d4⟩ := y_dm7 ⟨h0, h1⟩ k7
  rcases he with rfl | rfl
  · rw [← d3]; exact dd.2.2.2.2.1
  · rw [← d4]; exact dd.2.2.2.2.2
/-- letters of block k -/
def y_kl (s : z_M) (k d : Int) : Int := y_sum (fun u => y_rl s u d) (s (3452 + k) 0) (s (3452 + k) 1).toNat
theorem y_kl_b {s : z_M} (ok : y_OKy s) (lm : y_LBm (y_dm s) s) {k d : Int} (h0 : 0 ≤ k) (h1 : k < s 309 58) (hd : d = 0 ∨ d = 1) : 0 ≤ y_kl s k d ∧ y_kl s k d ≤ 3000 := by
  obtain ⟨l, f, z, l01, r1, ⟨b0, b1, _⟩, _, k7, _⟩ := lm.bk ok h0 h1
  have nn := ok.1.1.1
  have r := y_sum_r (f := fun u => y_rl s u d) (a := f) (m := 15) (z - f + 1).toNat (fun i p q => y_rl_b ok.1.1 ok.1.2.1 (by omega) (by omega) (k7 i p (by omega)) hd)
  unfold y_kl
  rw [b0, b1]
  omega
theorem em_lettersIn {fu : Nat} (hfu : 8589934592 ≤ fu) {s : z_M} (ok : y_OKy s) (lm : y_LBm (y_dm s) s) {k d : Int} (h0 : 0 ≤ k) (h1 : k < s 309 58) (h2 : k < 200) (hd : d = 0 ∨ d = 1) : fX12_lettersIn fu s 309 k d = some (vI (y_kl s k d), s) := by
  obtain ⟨l, f, z, l01, r1, ⟨b0, b1, _⟩, _, k7, _⟩ := lm.bk ok h0 h1
  have nn := ok.1.1.1
  have go : ∀ (m F : Nat) (i : Int), (m : Int) = z + 1 - i → m < F → f ≤ i → fX12_lettersIn_L12 fu 309 k d F s (y_sum (fun u => y_rl s u d) f (i - f).toNat) i (fun s15 x16 => some (vI x16, s15)) = some (vI (y_sum (fun u => y_rl s u d) f (z - f + 1).toNat), s) := by
    intro m
    induction m with
    | zero =>
      intro F i e1 hF g
      obtain ⟨F, rfl⟩ : ∃ F2, F = F2 + 1 := ⟨F - 1, by omega⟩
      have ei : i = z + 1 := by omega
      subst ei
      refine T_eq ?_
      refine T_of (fX12_lettersIn_L12.eq_2 ..) ?_
      refine T_if1 v_ob309 ?_
      refine T_let 3451 v_gm59 ?_
      refine T_if1 (v_x3451 (by omega)) ?_
      refine T_let (3452 + k) (gr_3451 _) ?_
      refine T_if1 (v_xb (by omega) (by omega)) ?_
      refine T_let f b0 ?_
      refine T_if1 v_ob309 ?_
      refine T_let 3451 v_gm59 ?_
      refine T_if1 (v_x3451 (by omega)) ?_
      refine T_let (3452 + k) (gr_3451 _) ?_
      refine T_if1 (v_xb (by omega) (by omega)) ?_
      refine T_let (z - f + 1) b1 ?_
      refine T_let (f + (z - f + 1)) (v_wid (by omega)) ?_
      refine T_if1 (by omega) ?_
      refine T_ret ⟨?_, rfl⟩
      rw [show z + 1 - f = z - f + 1 by omega]
    | succ m ih =>
      intro F i e1 hF g
      obtain ⟨F, rfl⟩ : ∃ F2, F = F2 + 1 := ⟨F - 1, by omega⟩
      have k7i := k7 i g (by omega)
      have lb := y_rl_b ok.1.1 ok.1.2.1 (u := i) (by omega) (by omega) k7i hd
      have sb := y_sum_r (f := fun u => y_rl s u d) (a := f) (m := 15) (i - f).toNat (fun j p q => y_rl_b ok.1.1 ok.1.2.1 (by omega) (by omega) (k7 j p (by omega)) hd)
      have es : y_sum (fun u => y_rl s u d) f (i + 1 - f).toNat = y_sum (fun u => y_rl s u d) f (i - f).toNat + y_rl s i d := by
        rw [show (i + 1 - f).toNat = (i - f).toNat + 1 by omega, y_sum_s, show f + (((i - f).toNat : Nat) : Int) = i by omega]
      generalize hS : y_sum (fun u => y_rl s u d) f (i - f).toNat = S at *
      refine T_eq ?_
      refine T_of (fX12_lettersIn_L12.eq_2 ..) ?_
      refine T_if1 v_ob309 ?_
      refine T_let 3451 v_gm59 ?_
      refine T_if1 (v_x3451 (by omega)) ?_
      refine T_let (3452 + k) (gr_3451 _) ?_
      refine T_if1 (v_xb (by omega) (by omega)) ?_
      refine T_let f b0 ?_
      refine T_if1 v_ob309 ?_
      refine T_let 3451 v_gm59 ?_
      refine T_if1 (v_x3451 (by omega)) ?_
      refine T_let (3452 + k) (gr_3451 _) ?_
      refine T_if1 (v_xb (by omega) (by omega)) ?_
      refine T_let (z - f + 1) b1 ?_
      refine T_let (f + (z - f + 1)) (v_wid (by omega)) ?_
      refine T_if0 (by omega) ?_
      refine T_if1 v_ob309 ?_
      refine T_bI (T_of (em_lettersOf ok.1.1 ⟨by omega, by omega⟩ k7i hd) (T_rI ?_))
      refine T_let (S + (y_rl s i d)) (v_wid (by omega)) ?_
      refine T_let (i + 1) (v_wid (by omega)) ?_
      have e := ih F (i + 1) (by omega) (by omega) (by omega)
      rw [es] at e
      exact ⟨_, _, e, rfl, rfl⟩
  refine T_eq ?_
  refine T_of (fX12_lettersIn.eq_1 ..) ?_
  refine T_if1 v_ob309 ?_
  refine T_let 3451 v_gm59 ?_
  refine T_if1 (v_x3451 (by omega)) ?_
  refine T_let (3452 + k) (gr_3451 _) ?_
  refine T_if1 (v_xb (by omega) (by omega)) ?_
  refine T_let f b0 ?_
  have e := go (z + 1 - f).toNat fu f (by omega) (by omega) (Int.le_refl _)
  rw [show (f - f).toNat = 0 by omega] at e
  refine ⟨_, _, e, ?_, rfl⟩
  unfold y_kl
  rw [b0, b1]
theorem em_letterPlace {fu : Nat} (hfu : 8589934592 ≤ fu) {s : z_M} (ok : y_OKy s) (lm : y_LBm (y_dm s) s) {k d i : Int} (h0 : 0 ≤ k) (h1 : k < s 309 58) (h2 : k < 200) (hd : d = 0 ∨ d = 1) (hn : 0 < y_kl s k d) : fX12_letterPlace fu s 309 k d i = some (vI (y_pf (y_kl s k d) (s (3452 + k) 2) (s 3442 (s (3452 + k) 0)) i), s) := by
  obtain ⟨l, f, z, l01, r1, ⟨b0, b1, _⟩, _, k7, _⟩ := lm.bk ok h0 h1
  have nn := ok.1.1.1
  have kb := y_kl_b ok lm h0 h1 hd
  have hz : z_w (2 * y_kl s k d) ≠ 0 := by rw [v_wid (by omega)]; omega
  refine T_eq ?_
  refine T_of (fX12_letterPlace.eq_1 ..) ?_
  refine T_if1 v_ob309 ?_
  refine T_bI (T_of (em_lettersIn hfu ok lm h0 h1 h2 hd) (T_rI ?_))
  refine T_if1 v_ob309 ?_
  refine T_let 3442 v_gm49 ?_
  refine T_if1 v_ob309 ?_
  refine T_let 3451 v_gm59 ?_
  refine T_if1 (v_x3451 (by omega)) ?_
  refine T_let (3452 + k) (gr_3451 _) ?_
  refine T_if1 (v_xb (by omega) (by omega)) ?_
  refine T_let (s (3452 + k) 0) rfl ?_
  refine T_if1 (v_x3442 (by omega)) ?_
  refine T_let (s 3442 (s (3452 + k) 0)) rfl ?_
  refine T_if1 v_ob309 ?_
  refine T_let 3451 v_gm59 ?_
  refine T_if1 (v_x3451 (by omega)) ?_
  refine T_let (3452 + k) (gr_3451 _) ?_
  refine T_if1 (v_xb (by omega) (by omega)) ?_
  refine T_let (s (3452 + k) 2) rfl ?_
  refine T_let (z_w (6 * (y_kl s k d))) rfl ?_
  refine T_ite (fun hA => ?_) (fun hA => ?_)
  · refine T_let (z_w (2 * i)) rfl ?_
    refine T_let (z_w ((z_w (2 * i)) + 1)) rfl ?_
    refine T_let (z_w ((s (3452 + k) 2) * (z_w ((z_w (2 * i)) + 1)))) rfl ?_
    refine T_let (z_w (2 * (y_kl s k d))) rfl ?_
    refine T_if1 (by omega) ?_
    refine T_let (z_w (Int.tdiv (z_w ((s (3452 + k) 2) * (z_w ((z_w (2 * i)) + 1)))) (z_w (2 * (y_kl s k d))))) rfl ?_
    refine T_let (z_w ((s 3442 (s (3452 + k) 0)) + (z_w (Int.tdiv (z_w ((s (3452 + k) 2) * (z_w ((z_w (2 * i)) + 1)))) (z_w (2 * (y_kl s k d))))))) rfl ?_
    refine T_let (z_w ((z_w ((s 3442 (s (3452 + k) 0)) + (z_w (Int.tdiv (z_w ((s (3452 + k) 2) * (z_w ((z_w (2 * i)) + 1)))) (z_w (2 * (y_kl s k d))))))) - 3)) rfl ?_
    refine T_ret ⟨?_, rfl⟩
    unfold y_pf
    rw [if_pos hA, if_neg (show ¬ y_kl s k d ≤ 0 by omega)]
  · refine T_let (z_w (6 * (y_kl s k d))) rfl ?_
    refine T_let (z_w ((z_w (6 * (y_kl s k d))) - (s (3452 + k) 2))) rfl ?_
    refine T_if1 (by omega) ?_
    refine T_let (z_w (Int.tdiv (z_w ((z_w (6 * (y_kl s k d))) - (s (3452 + k) 2))) 2)) rfl ?_
    refine T_let (z_w ((s 3442 (s (3452 + k) 0)) - (z_w (Int.tdiv (z_w ((z_w (6 * (y_kl s k d))) - (s (3452 + k) 2))) 2)))) rfl ?_
    refine T_let (z_w (6 * i)) rfl ?_
    refine T_let (z_w ((z_w ((s 3442 (s (3452 + k) 0)) - (z_w (Int.tdiv (z_w ((z_w (6 * (y_kl s k d))) - (s (3452 + k) 2))) 2)))) + (z_w (6 * i)))) rfl ?_
    refine T_ret ⟨?_, rfl⟩
    unfold y_pf
    rw [if_neg hA]
theorem em_lineOfBlock {fu : Nat} {s : z_M} (ok : y_OKy s) (lm : y_LBm (y_dm s) s) {k : Int} (h0 : 0 ≤ k) (h1 : k < s 309 58) (h2 : k < 200) : fX12_lineOfBlock fu s 309 k = some (vI (s 3441 (s (3452 + k) 0)), s) := by
  obtain ⟨l, f, z, l01, r1, ⟨b0, b1, _⟩, _⟩ := lm.bk ok h0 h1
  have nn := ok.1.1.1
  refine T_eq ?_
  refine T_of (fX12_lineOfBlock.eq_1 ..) ?_
  refine T_if1 v_ob309 ?_
  refine T_let 3441 v_gm48 ?_
  refine T_if1 v_ob309 ?_
  refine T_let 3451 v_gm59 ?_
  refine T_if1 (v_x3451 (by omega)) ?_
  refine T_let (3452 + k) (gr_3451 _) ?_
  refine T_if1 (v_xb (by omega) (by omega)) ?_
  refine T_let (s (3452 + k) 0) rfl ?_
  refine T_if1 (v_x3441 (by omega)) ?_
  refine T_let (s 3441 (s (3452 + k) 0)) rfl ?_
  exact T_ret ⟨rfl, rfl⟩
/-! both sides are the same -/
theorem y_LEq.lt {g s : z_M} (e : y_LEq g s) {k d : Int} (h0 : 0 ≤ k) (h1 : k < g 279 9) (hd : d = 0 ∨ d = 1) : y_ltr g k d = y_kl s k d := by
  obtain ⟨b1, _, b3, b4, b5, _, _, _, _, _, r3, r4, r7, _⟩ := e.2.2.2.2.2.2 k h0 h1
  unfold y_ltr y_kl
  have key : ∀ j : Int, (j = 3 ∧ d = 0) ∨ (j = 4 ∧ d = 1) → y_sum (y_dm s j) (g 281 k) (g 283 k - g 281 k + 1).toNat = y_sum (fun u => y_rl s u d) (s (3452 + k) 0) (s (3452 + k) 1).toNat := fun j hj => by
    rw [b4, b3]
    refine y_sum_cg _ (fun i p q => ?_)
    have k7 := (r7 i (by omega) (by omega)).1
    rw [y_dm0 ⟨by omega, by omega⟩] at k7
    obtain ⟨_, d3, d4⟩ := y_dm7 (s := s) (u := i) ⟨by omega, by omega⟩ k7
    rcases hj with ⟨rfl, rfl⟩ | ⟨rfl, rfl⟩
    · exact d3
    · exact d4
  rcases hd with rfl | rfl
  · rw [if_neg (by decide), r3]; exact key 3 (Or.inl ⟨rfl, rfl⟩)
  · rw [if_pos (by decide), r4]; exact key 4 (Or.inr ⟨rfl, rfl⟩)
theorem y_LEq.pf {g s : z_M} (e : y_LEq g s) {k d i : Int} (h0 : 0 ≤ k) (h1 : k < g 279 9) (hd : d = 0 ∨ d = 1) : y_pf (y_ltr g k d) (g 285 k) (g 262 (g 281 k)) i = y_pf (y_kl s k d) (s (3452 + k) 2) (s 3442 (s (3452 + k) 0)) i := by
  rw [e.lt h0 h1 hd]
  obtain ⟨b1, _, b3, _, b5, _⟩ := e.2.2.2.2.2.2 k h0 h1
  have u := (e.2.2.1 (g 281 k) (by omega) (by omega)).1
  rw [b5, u.2.1, b3]
