/-! units as numbers alone: of the class, of the reference; alike -/
def y_dc (g : z_M) : z_M := fun a b => if a = 5 then g 3 6 else if 0 ≤ b ∧ b < g 191 16 then (if a = 0 then g 193 b else if a = 1 then g 199 b else if g 193 b = 7 then (if a = 2 then g 201 b else if a = 3 then g 203 b else if a = 4 then g 205 b else 0) else if a = 2 then -1 else 0) else 0
def y_dm (s : z_M) : z_M := fun a b => if a = 5 then s 312 6 else if 0 ≤ b ∧ b < s 309 20 then (if a = 0 then s 3220 b else if a = 1 then y_wm s b else if s 3220 b = 7 then (if a = 2 then y_gm s b else if a = 3 then y_rl s b 0 else if a = 4 then y_rl s b 1 else 0) else if a = 2 then -1 else 0) else 0
theorem y_dc5 {g : z_M} : y_dc g 5 0 = g 3 6 := by unfold y_dc; rw [if_pos rfl]
theorem y_dc0 {g : z_M} {u : Int} (h : 0 ≤ u ∧ u < g 191 16) : y_dc g 0 u = g 193 u := by
  unfold y_dc; rw [if_neg (show ¬ (0 : Int) = 5 by decide), if_pos h, if_pos rfl]
theorem y_dc1 {g : z_M} {u : Int} (h : 0 ≤ u ∧ u < g 191 16) : y_dc g 1 u = g 199 u := by
  unfold y_dc; rw [if_neg (show ¬ (1 : Int) = 5 by decide), if_pos h, if_neg (show ¬ (1 : Int) = 0 by decide), if_pos rfl]
theorem y_dc7 {g : z_M} {u : Int} (h : 0 ≤ u ∧ u < g 191 16) (k : g 193 u = 7) : y_dc g 2 u = g 201 u ∧ y_dc g 3 u = g 203 u ∧ y_dc g 4 u = g 205 u := by
  unfold y_dc
  refine ⟨?_, ?_, ?_⟩
  · rw [if_neg (show ¬ (2 : Int) = 5 by decide), if_pos h, if_neg (show ¬ (2 : Int) = 0 by decide), if_neg (show ¬ (2 : Int) = 1 by decide), if_pos k, if_pos rfl]
  · rw [if_neg (show ¬ (3 : Int) = 5 by decide), if_pos h, if_neg (show ¬ (3 : Int) = 0 by decide), if_neg (show ¬ (3 : Int) = 1 by decide), if_pos k, if_neg (show ¬ (3 : Int) = 2 by decide), if_pos rfl]
  · rw [if_neg (show ¬ (4 : Int) = 5 by decide), if_pos h, if_neg (show ¬ (4 : Int) = 0 by decide), if_neg (show ¬ (4 : Int) = 1 by decide), if_pos k, if_neg (show ¬ (4 : Int) = 2 by decide), if_neg (show ¬ (4 : Int) = 3 by decide), if_pos rfl]
theorem y_dm5 {s : z_M} : y_dm s 5 0 = s 312 6 := by unfold y_dm; rw [if_pos rfl]
theorem y_dm0 {s : z_M} {u : Int} (h : 0 ≤ u ∧ u < s 309 20) : y_dm s 0 u = s 3220 u := by
  unfold y_dm; rw [if_neg (show ¬ (0 : Int) = 5 by decide), if_pos h, if_pos rfl]
theorem y_dm1 {s : z_M} {u : Int} (h : 0 ≤ u ∧ u < s 309 20) : y_dm s 1 u = y_wm s u := by
  unfold y_dm; rw [if_neg (show ¬ (1 : Int) = 5 by decide), if_pos h, if_neg (show ¬ (1 : Int) = 0 by decide), if_pos rfl]
theorem y_dm7 {s : z_M} {u : Int} (h : 0 ≤ u ∧ u < s 309 20) (k : s 3220 u = 7) : y_dm s 2 u = y_gm s u ∧ y_dm s 3 u = y_rl s u 0 ∧ y_dm s 4 u = y_rl s u 1 := by
  unfold y_dm
  refine ⟨?_, ?_, ?_⟩
  · rw [if_neg (show ¬ (2 : Int) = 5 by decide), if_pos h, if_neg (show ¬ (2 : Int) = 0 by decide), if_neg (show ¬ (2 : Int) = 1 by decide), if_pos k, if_pos rfl]
  · rw [if_neg (show ¬ (3 : Int) = 5 by decide), if_pos h, if_neg (show ¬ (3 : Int) = 0 by decide), if_neg (show ¬ (3 : Int) = 1 by decide), if_pos k, if_neg (show ¬ (3 : Int) = 2 by decide), if_pos rfl]
  · rw [if_neg (show ¬ (4 : Int) = 5 by decide), if_pos h, if_neg (show ¬ (4 : Int) = 0 by decide), if_neg (show ¬ (4 : Int) = 1 by decide), if_pos k, if_neg (show ¬ (4 : Int) = 2 by decide), if_neg (show ¬ (4 : Int) = 3 by decide), if_pos rfl]
theorem y_dm34 {s : z_M} {u : Int} (h : 0 ≤ u ∧ u < s 309 20) (k : s 3220 u ≠ 7) : y_dm s 3 u = 0 ∧ y_dm s 4 u = 0 := by
  unfold y_dm
  refine ⟨?_, ?_⟩
  · rw [if_neg (show ¬ (3 : Int) = 5 by decide), if_pos h, if_neg (show ¬ (3 : Int) = 0 by decide), if_neg (show ¬ (3 : Int) = 1 by decide), if_neg k, if_neg (show ¬ (3 : Int) = 2 by decide)]
  · rw [if_neg (show ¬ (4 : Int) = 5 by decide), if_pos h, if_neg (show ¬ (4 : Int) = 0 by decide), if_neg (show ¬ (4 : Int) = 1 by decide), if_neg k, if_neg (show ¬ (4 : Int) = 2 by decide)]
/-- the class's units as D tells them -/
theorem y_U2.CU {g : z_M} (u : y_U2 g) (t : y_TOK g) (n : 0 ≤ g 191 16 ∧ g 191 16 ≤ 200) (d : y_DF (y_dc g) (g 191 16)) : y_CU2 (y_dc g) g := by
  have ud := u.2.2 t
  refine ⟨n, y_dc5.symm, fun v p q => ⟨(y_dc0 ⟨p, q⟩).symm, (y_dc1 ⟨p, q⟩).symm, fun k => ?_, fun k => ?_⟩, fun v p q => ?_, d⟩
  · rw [y_dc0 ⟨p, q⟩] at k
    have e := y_dc7 ⟨p, q⟩ k
    exact ⟨e.1.symm, e.2.1.symm, e.2.2.symm⟩
  · rw [y_dc0 ⟨p, q⟩] at k
    obtain ⟨j, j1, j2, j3, j4, j5⟩ := (u.2.1.2 t).2.at y_sC_01 p q
    rw [(ud.1 v p q).2.1, j4]
    rw [j5] at k
    unfold y_kc at k
    by_cases z : g 12 j = -1
    · exact z
    · rw [if_neg z] at k; exact absurd rfl k
  · rw [(ud.2.1 v p q).1]
    exact y_sum_cg _ (fun i a b => (y_dc1 ⟨a, by omega⟩).symm)
/-- within a unit no other one begins -/
theorem y_PT.in1 {st K f z k u : Int → Int} {c : Int} {n : Nat} (h : y_PT st K f z k u c n) (h01 : y_01 st) {v : Int} (h0 : 0 ≤ v) (h1 : v < c) {j : Nat} (p : f v < j) (q : (j : Int) < f v + z v) : st j = 0 := by
  obtain ⟨hj, e⟩ := h.of h01 h0 h1 (j := j) (by omega) q
  rcases h01 j with w | w
  · exact w
  · have a := (h.2.1 j hj w).1
    have b := h.2.2.1 j hj
    rw [y_cn_s w, e] at b
    rw [show y_cn st j = v by omega] at a
    omega
theorem y_ki_97 {c k : Int} (h : k = y_ki c) (h2 : 2 ≤ k) : c < 97 := by
  subst h
  rcases y_ki_cases c with w | w | w
  · omega
  · obtain ⟨_, w6, nb, a⟩ := w
    rcases a with a | a
    · unfold y_ki at h2
      rw [if_neg nb, if_pos a] at h2
      omega
    · omega
  · omega
/-- a sign's width is the same on both sides -/
theorem y_sl_lm {g s : z_M} (X : y_T2 g 6 s 0) {i : Int} (h0 : 0 ≤ i) (h1 : i < s 316 0) (ha : s 346 i = 2 → y_am s (s 3223 i) = 0) : y_sl (s 346 i) (g 8 i) = y_lm s i := by
  obtain ⟨_, e8, _, q⟩ := X.1.at0 h0 h1
  have e8' : g 8 i = s 331 i := e8
  have kk : s 346 i = 7 ∨ s 346 i = y_ki (g 8 i) := by
    rcases q with q | q
    · exact Or.inl q.1
    · exact Or.inr q.1
  have c97 : s 346 i ≠ 7 → 2 ≤ s 346 i → g 8 i < 97 := fun w w2 => y_ki_97 (kk.resolve_left w) w2
  unfold y_sl y_lm
  rw [← e8']
  by_cases k1 : s 346 i = 1
  · rw [if_neg (show ¬ (s 346 i = 0 ∨ s 346 i = 7) by omega), if_pos k1]
    unfold y_wi
    by_cases c1 : g 8 i = 105 ∨ g 8 i = 106 ∨ g 8 i = 108
    · rw [if_pos (show g 8 i = 105 ∨ g 8 i = 106 ∨ g 8 i = 108 ∨ s 346 i = 6 by omega), if_pos c1]
    · rw [if_neg (show ¬ (g 8 i = 105 ∨ g 8 i = 106 ∨ g 8 i = 108 ∨ s 346 i = 6) by omega), if_neg c1]
  · rw [if_neg k1]
    by_cases k0 : s 346 i = 0 ∨ s 346 i = 7
    · rw [if_pos k0, if_neg (show ¬ s 346 i = 2 by omega), if_pos k0]
    · rw [if_neg k0]
      have k2b : 2 ≤ s 346 i ∨ s 346 i < 0 := by omega
      have kb : 0 ≤ s 346 i := by
        rcases kk with w | w
        · omega
        · rcases q with q | q
          · have e : s 346 i = 7 := q.1
            omega
          · have e := q.2.1; omega
      have c := c97 (by omega) (by omega)
      by_cases k2 : s 346 i = 2
      · rw [if_neg (show ¬ (g 8 i = 105 ∨ g 8 i = 106 ∨ g 8 i = 108 ∨ s 346 i = 6) by omega), if_neg (show ¬ (g 8 i = 109 ∨ g 8 i = 119) by omega), if_pos k2, if_pos (ha k2)]
      · rw [if_neg k2, if_neg k0]
        by_cases k6 : s 346 i = 6
        · rw [if_pos (show g 8 i = 105 ∨ g 8 i = 106 ∨ g 8 i = 108 ∨ s 346 i = 6 by omega), if_pos k6]
        · rw [if_neg (show ¬ (g 8 i = 105 ∨ g 8 i = 106 ∨ g 8 i = 108 ∨ s 346 i = 6) by omega), if_neg (show ¬ (g 8 i = 109 ∨ g 8 i = 119) by omega), if_neg k6]
/-- one unit alike -/
theorem y_BT.un {g s : z_M} (b : y_BT g s) {u : Int} (h0 : 0 ≤ u) (h1 : u < s 309 20) : g 193 u = s 3220 u ∧ g 199 u = y_wm s u ∧ (s 3220 u = 7 → g 201 u = y_gm s u ∧ g 203 u = y_rl s u 0 ∧ g 205 u = y_rl s u 1 ∧ 0 ≤ s 361 (s 3221 u) ∧ s 361 (s 3221 u) < 200) := by
  obtain ⟨U, X, p, c, _, st⟩ := b
  have n0 := y_n0 c
  obtain ⟨e1, e2, e3⟩ := X.1.EU U.2.1 p
  obtain ⟨x1, x2, x3⟩ := e2 u h0 h1
  have mr := (U.2.2 (X.tok n0.1)).1 u h0 (by omega)
  have un := p.un h0 h1
  have BS := X.1.BS X.2.2 rfl
  have ea : y_ac g u = y_am s u := by
    unfold y_ac y_am
    rw [x3, x2, st, st]
  have sg : ∀ i : Int, s 3221 u ≤ i → i < s 3221 u + s 3222 u → (0 ≤ i ∧ i < s 316 0 ∧ s 3223 i = u) ∧ s 346 i = s 3220 u := fun i a q => by
    have w := p.in0 h0 h1 a q
    have v := p.of0 BS w.1 w.2.1
    rw [w.2.2] at v
    exact ⟨w, v.2.2.2.1.symm⟩
  refine ⟨x3, ?_, fun k7 => ?_⟩
  · rw [mr.1]
    unfold y_wd y_wm
    rw [ea]
    by_cases a : y_am s u = 0
    · rw [if_pos a, if_pos a, x1, x2]
      refine y_sum_cg _ (fun i p1 q1 => ?_)
      have w := sg i p1 (by omega)
      show y_sl (g 193 u) (g 8 i) = y_lm s i
      rw [x3, ← w.2]
      exact y_sl_lm X w.1.1 w.1.2.1 (fun _ => by rw [w.1.2.2]; exact a)
    · rw [if_neg a, if_neg a]
  · have f := sg (s 3221 u) (Int.le_refl _) (by omega)
    have hd := X.hd p f.1.1 f.1.2.1 (f.2.trans k7) (y_n1 c).2
    rw [f.1.2.2] at hd
    rw [mr.2.1, mr.2.2.1, mr.2.2.2.1, x1]
    unfold y_gm y_rl
    rw [if_pos k7]
    exact ⟨hd.2.2.2.2, hd.2.2.1, hd.2.2.2.1, hd.1.1, hd.1.2⟩
/-- both sides' units are the same numbers -/
theorem y_BT.D {g s : z_M} (b : y_BT g s) : y_dc g = y_dm s := by
  have un := fun u h0 h1 => b.un (u := u) h0 h1
  obtain ⟨U, X, p, c, _, st⟩ := b
  obtain ⟨e1, e2, e3⟩ := X.1.EU U.2.1 p
  refine funext fun a => funext fun v => ?_
  unfold y_dc y_dm
  rw [st 6, e1]
  by_cases q5 : a = 5
  · rw [if_pos q5, if_pos q5]
  · rw [if_neg q5, if_neg q5]
    by_cases h : 0 ≤ v ∧ v < s 309 20
    · obtain ⟨w0, w1, w7⟩ := un v h.1 h.2
      rw [if_pos h, if_pos h, w0, w1]
      by_cases k7 : s 3220 v = 7
      · rw [if_pos k7, if_pos k7, (w7 k7).1, (w7 k7).2.1, (w7 k7).2.2.1]
      · rw [if_neg k7, if_neg k7]
    · rw [if_neg h, if_neg h]
theorem bdr_391n {j : Int} (h : 0 ≤ j ∧ j ≤ 199) : z_bd 391 j = (0, j) := bdg (by decide) h
theorem bd_let {c j : Int} (h : 407 ≤ c ∧ c ≤ 606) (hj : j = 0 ∨ j = 10) : z_bd c j = (0, 9) := by
  rcases hj with rfl | rfl
  · unfold z_bd
    repeat (first | rw [if_neg (by omega)] | rw [if_pos (by omega)])
  · unfold z_bd
    repeat (first | rw [if_neg (by omega)] | rw [if_pos (by omega)])
/-- what the reference's units are -/
theorem y_BT.DF {g s : z_M} (b : y_BT g s) : y_DF (y_dm s) (s 309 20) ∧ y_Rw s := by
  have un := fun u h0 h1 => b.un (u := u) h0 h1
  obtain ⟨U, X, p, c, cg, st⟩ := b
  have n0 := y_n0 c
  have BS := X.1.BS X.2.2 rfl
  have nn : 0 ≤ s 309 20 ∧ s 309 20 ≤ 200 := by
    obtain ⟨e1, _, _⟩ := X.1.EU U.2.1 p
    have := CI_b cg (k := 191) (j := 16) bd_191_16q
    omega
  have rw0 : y_Rw s := ⟨nn, fun u h0 h1 => by have := p.un h0 h1; omega, fun j => y_uo c j, fun u h0 h1 k7 => ((un u h0 h1).2.2 k7).2.2.2⟩
  refine ⟨fun u h0 h1 => ?_, rw0⟩
  have w := p.un h0 h1
  have f := p.in0 h0 h1 (i := s 3221 u) (Int.le_refl _) (by omega)
  have sg : ∀ i : Int, s 3221 u ≤ i → i < s 3221 u + s 3222 u → s 346 i = s 3220 u ∧ s 3223 i = u := fun i a q => by
    have w := p.in0 h0 h1 a q
    have v := p.of0 BS w.1 w.2.1
    rw [w.2.2] at v
    exact ⟨v.2.2.2.1.symm, w.2.2⟩
  have kb : 0 ≤ s 3220 u ∧ s 3220 u ≤ 7 := by
    rw [w.2.2.2.1]
    obtain ⟨_, _, _, q⟩ := X.1.at0 f.1 f.2.1
    rcases q with q | q
    · have q1 : s 346 (s 3221 u) = 7 := q.1
      omega
    · have q1 : s 346 (s 3221 u) = y_ki (g 8 (s 3221 u)) := q.1
      rcases y_ki_cases (g 8 (s 3221 u)) with z | z | z <;> omega
  have sb := y_sum_r (f := y_lm s) (a := s 3221 u) (m := 12) (s 3222 u).toNat (fun i _ _ => y_lm_b)
  have sz : ((s 3222 u).toNat : Int) ≤ 200 := by omega
  have am := y_am_01 (s := s) (u := u)
  rw [y_dm0 ⟨h0, h1⟩, y_dm1 ⟨h0, h1⟩]
  refine ⟨kb, ?_, fun k6 => ?_, fun k7 => ?_, ?_, ?_⟩
  · unfold y_wm
    split <;> omega
  · have a0 : y_am s u = 0 := by
      unfold y_am; rw [if_neg (by omega)]
    have s1 : s 3222 u = 1 := by
      by_cases z : s 3222 u = 1
      · exact z
      · have e0 := p.2.in1 y_sS_01 h0 h1 (j := (s 3221 u + 1).toNat) (by omega) (by omega)
        rw [show (((s 3221 u + 1).toNat : Nat) : Int) = s 3221 u + 1 by omega] at e0
        have kk := (sg (s 3221 u + 1) (by omega) (by omega)).1
        unfold y_sS y_one at e0
        rw [if_neg (show ¬ s 3221 u + 1 ≤ 0 by omega), if_neg (show ¬ (s 346 (s 3221 u + 1) = 1 ∨ s 346 (s 3221 u + 1) = 2) by omega), if_neg (show ¬ (s 346 (s 3221 u + 1) = 7 ∧ s 361 (s 3221 u + 1) = s 361 (s 3221 u + 1 - 1)) by omega)] at e0
        omega
    unfold y_wm
    rw [if_pos a0, s1]
    show 0 + y_lm s (s 3221 u + ((0 : Nat) : Int)) = 4
    rw [show s 3221 u + ((0 : Nat) : Int) = s 3221 u by omega]
    have kk := (sg (s 3221 u) (Int.le_refl _) (by omega)).1
    unfold y_lm
    rw [if_neg (show ¬ s 346 (s 3221 u) = 1 by omega), if_neg (show ¬ s 346 (s 3221 u) = 2 by omega), if_neg (show ¬ (s 346 (s 3221 u) = 0 ∨ s 346 (s 3221 u) = 7) by omega), if_pos (show s 346 (s 3221 u) = 6 by omega)]
    rfl
  · have a0 : y_am s u = 0 := by
      unfold y_am; rw [if_neg (by omega)]
    have b7 := (un u h0 h1).2.2 k7
    constructor
    · unfold y_wm
      rw [if_pos a0]
      refine y_sum_m6 _ (fun i p1 q1 => ?_)
      have kk := (sg i p1 (by omega)).1
      unfold y_lm
      rw [if_neg (show ¬ s 346 i = 1 by omega), if_neg (show ¬ s 346 i = 2 by omega), if_pos (show s 346 i = 0 ∨ s 346 i = 7 by omega)]
      rfl
    · rw [(y_dm7 ⟨h0, h1⟩ k7).1]
      unfold y_gm
      rw [if_pos k7]
      have := CI_b c (bdr_391n (j := s 361 (s 3221 u)) (by omega))
      omega
  · by_cases k7 : s 3220 u = 7
    · have b7 := (un u h0 h1).2.2 k7
      rw [(y_dm7 ⟨h0, h1⟩ k7).2.1]
      unfold y_rl
      have := CI_b c (bd_let (c := 407 + s 361 (s 3221 u)) (j := 10 * 0) (by omega) (by omega))
      omega
    · rw [(y_dm34 ⟨h0, h1⟩ k7).1]; decide
  · by_cases k7 : s 3220 u = 7
    · have b7 := (un u h0 h1).2.2 k7
      rw [(y_dm7 ⟨h0, h1⟩ k7).2.2]
      unfold y_rl
      have := CI_b c (bd_let (c := 407 + s 361 (s 3221 u)) (j := 10 * 1) (by omega) (by omega))
      omega
    · rw [(y_dm34 ⟨h0, h1⟩ k7).2]; decide
theorem y_BT.MU {g s : z_M} (b : y_BT g s) : y_MU2 (y_dm s) s := by
  obtain ⟨d, r⟩ := b.DF
  refine ⟨r, y_dm5.symm, fun u h0 h1 => ⟨(y_dm0 ⟨h0, h1⟩).symm, (y_dm1 ⟨h0, h1⟩).symm, fun k => ?_⟩, d⟩
  rw [y_dm0 ⟨h0, h1⟩] at k
  have e := y_dm7 ⟨h0, h1⟩ k
  exact ⟨e.1.symm, e.2.1.symm, e.2.2.symm⟩
theorem y_BT.CU {g s : z_M} (b : y_BT g s) : y_CU2 (y_dm s) g := by
  have e := b.D
  obtain ⟨d, r⟩ := b.DF
  obtain ⟨U, X, p, c, cg, st⟩ := b
  obtain ⟨e1, _, _⟩ := X.1.EU U.2.1 p
  have n := CI_b cg (k := 191) (j := 16) bd_191_16q
  rw [← e] at d ⊢
  rw [← e1] at d
  exact U.CU (X.tok (y_n0 c).1) n d
