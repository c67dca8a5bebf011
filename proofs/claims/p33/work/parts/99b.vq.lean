/-! unit, sign, line, block: both sides answer alike -/
theorem z_bdK {p j : Int} (h : 0 ≤ p ∧ p < 200) (hj : j = 6 ∨ j = 7) : z_bd (3452 + p) j = (-2147483648, 2147483647) := by
  have e := sh_r3451 (c := 3452 + p) (by omega)
  rcases hj with rfl | rfl
  · unfold z_bd
    rw [e]
    repeat rw [if_neg (by omega)]
    rfl
  · unfold z_bd
    rw [e]
    repeat rw [if_neg (by omega)]
    rfl
theorem y_BT.gm {g s : z_M} (b : y_BT g s) {u : Int} (h0 : 0 ≤ u) (h1 : u < s 309 20) : g 201 u = y_gm s u := by
  have eD := congrFun (congrFun b.D 2) u
  have en := b.n
  obtain ⟨U, X, p, c, _, st⟩ := b
  have n0 := y_n0 c
  obtain ⟨e1, e2, e3⟩ := X.1.EU U.2.1 p
  obtain ⟨x1, x2, x3⟩ := e2 u h0 h1
  by_cases k : s 3220 u = 7
  · rw [(y_dc7 ⟨h0, by omega⟩ (x3.trans k)).1, (y_dm7 ⟨h0, h1⟩ k).1] at eD
    exact eD
  · have mr := (U.2.2 (X.tok n0.1)).1 u h0 (by omega)
    have un := p.un h0 h1
    obtain ⟨_, _, _, q⟩ := X.1.at0 un.1 (show s 3221 u < s 316 0 by omega)
    rw [show (346 + 0 : Int) = 346 by decide] at q
    have k9 : s 346 (s 3221 u) ≠ 7 := by rw [← un.2.2.2.1]; exact k
    rw [mr.2.1, x1]
    unfold y_gm
    rw [if_neg k]
    rcases q with ⟨q, _⟩ | ⟨_, _, q, _⟩
    · exact absurd q k9
    · exact q
theorem q_unit {g s s' : z_M} (b : y_BT g s) (ok : y_OKc g) (yc : y_YC g) (h : y_RM s s') {p q : Int} (hp : 0 ≤ p ∧ p < s 309 20) : (fun sr => y_v8 q (sr 193 p) (sr 195 p) (sr 197 p) (sr 264 p) (sr 260 p) (sr 262 p) (sr 201 p) (sr 266 p)) g = (fun sl => y_v8 q (sl 3220 p) (sl 3221 p) (sl 3222 p) (sl 3445 p) (sl 3441 p) (sl 3442 p) (y_gm sl p) (sl 3444 p)) s' := by
  obtain ⟨⟨l1, l2, l3, l4, l5⟩, b'⟩ := b.le ok yc h
  have e20 : s' 309 20 = s 309 20 := h.2.1 309 20 (by omega)
  have e6 : s' 316 0 = s 316 0 := h.2.1 316 0 (by omega)
  obtain ⟨⟨u1, u2, u3, u4⟩, _⟩ := l3 p hp.1 (by omega)
  have gm := b'.gm hp.1 (show p < s' 309 20 by omega)
  obtain ⟨U, X, pu, c, cg, st⟩ := b'
  have n0 := y_n0 c
  obtain ⟨e1, e2, e3⟩ := X.1.EU U.2.1 pu
  obtain ⟨x1, x2, x3⟩ := e2 p hp.1 (by omega)
  exact y_v8_cg x3 x1 x2 u3 u1 u2 gm u4
theorem q_sign {g s s' : z_M} (b : y_BT g s) (ok : y_OKc g) (yc : y_YC g) (h : y_RM s s') {p q : Int} (hp : 0 ≤ p ∧ p < s 316 0) : (fun sr => y_v8 q (sr 8 p) (sr 215 p) (sr 260 (sr 215 p)) (sr 268 p) (sr 219 p) (y_mk sr 0 p) (y_mk sr 1 p) (y_mk sr 1 p)) g = (fun sl => y_v8 q (sl 331 p) (sl 3223 p) (sl 3441 (sl 3223 p)) (sl 3443 p) (y_tm sl p) (y_ms sl 0 p) (y_ms sl 1 p) (y_ms sl 1 p)) s' := by
  obtain ⟨⟨l1, l2, l3, l4, l5⟩, b'⟩ := b.le ok yc h
  have e20 : s' 309 20 = s 309 20 := h.2.1 309 20 (by omega)
  have e6 : s' 316 0 = s 316 0 := h.2.1 316 0 (by omega)
  obtain ⟨U, X, pu, c, cg, st⟩ := b'
  have n0 := y_n0 c
  obtain ⟨e1, e2, e3⟩ := X.1.EU U.2.1 pu
  have i1 : p < s' 316 0 := by omega
  have BS := X.1.BS X.2.2 rfl
  have v := pu.of0 BS hp.1 i1
  have x1 := e3 p hp.1 i1
  obtain ⟨⟨u1, _⟩, _⟩ := l3 (s' 3223 p) v.1.1 v.1.2
  obtain ⟨_, y0, _⟩ := X.1.at0 hp.1 i1
  rw [show (331 + 0 : Int) = 331 by decide] at y0
  have m0 := y_mk_eq X U pu n0.1 (y_n1 c).2 (d := 0) (Or.inl rfl) hp.1 i1
  have m1 := y_mk_eq X U pu n0.1 (y_n1 c).2 (d := 1) (Or.inr rfl) hp.1 i1
  exact y_v8_cg y0 x1 (by rw [x1]; exact u1) (l4 p hp.1 i1) (y_tn_eq X U pu n0.1 st hp.1 i1) m0 m1 m1
theorem q_line {g s s' : z_M} (b : y_BT g s) (ok : y_OKc g) (yc : y_YC g) (h : y_RM s s') {p q : Int} (hp : 0 ≤ p ∧ p < s' 309 44) : (fun sr => y_v8 q (sr 248 p) (z_w (sr 248 (p + 1) - sr 248 p)) (sr 270 p) (z_w (sr 3 0 - sr 270 p)) (sr 272 p) (z_w (sr 278 (p + 1) - sr 278 p)) (sr 274 p) (sr 276 p)) g = (fun sl => y_v8 q (sl 3438 p) (z_w (sl 3438 (p + 1) - sl 3438 p)) (sl 3446 p) (z_w (sl 312 0 - sl 3446 p)) (sl 3447 p) (sl 3448 p) (sl 3449 p) (sl 3450 p)) s' := by
  obtain ⟨⟨l1, l2, l3, l4, l5⟩, b'⟩ := b.le ok yc h
  have e20 : s' 309 20 = s 309 20 := h.2.1 309 20 (by omega)
  have e6 : s' 316 0 = s 316 0 := h.2.1 316 0 (by omega)
  obtain ⟨c44, c200, lr, _⟩ := l1
  obtain ⟨r0, r1, r2, r3, r4, _, _⟩ := l2 p hp.1 (by omega)
  have a0 := lr p hp.1 (by omega)
  have a1 := lr (p + 1) (by omega) (by omega)
  have c8 := CI_b h.1 (k := 3448) (j := p) (bdr_3448 p)
  have st := b'.2.2.2.2.2
  exact y_v8_cg a0 (by rw [a0, a1]) r0 (by rw [st 0, r0]) r1 (by rw [r4]; exact v_wid (by omega)) r2 r3
theorem q_block {g s s' : z_M} (b : y_BT g s) (ok : y_OKc g) (yc : y_YC g) (h : y_RM s s') {p q : Int} (hp : 0 ≤ p ∧ p < s' 309 58) (hq : 0 ≤ q ∧ q ≤ 7) : (fun sr => y_v8 q (sr 281 p) (z_w (z_w (sr 283 p - sr 281 p) + 1)) (sr 285 p) (sr 287 p) (sr 289 p) (sr 291 p) (z_w (z_w (Int.tdiv (sr 287 p) 2) - sr 289 p)) (z_w (z_w (sr 287 p - z_w (Int.tdiv (sr 287 p) 2)) - sr 291 p))) g = (fun sl => sl (3452 + p) q) s' := by
  obtain ⟨⟨l1, l2, l3, l4, l5⟩, b'⟩ := b.le ok yc h
  have e20 : s' 309 20 = s 309 20 := h.2.1 309 20 (by omega)
  have e6 : s' 316 0 = s 316 0 := h.2.1 316 0 (by omega)
  obtain ⟨c58, c200, lr⟩ := l5
  obtain ⟨⟨o1, o2, o3⟩, o4, r0, r1, r2, r3, r4, r5, r6, r7, _⟩ := lr p hp.1 (by omega)
  have nn := CI_b h.1 (k := 309) (j := 20) bd_309_20
  have c6 := CI_b h.1 (k := 3452 + p) (j := 6) (z_bdK (by omega) (Or.inl rfl))
  have c7 := CI_b h.1 (k := 3452 + p) (j := 7) (z_bdK (by omega) (Or.inr rfl))
  have td : Int.tdiv (g 287 p) 2 = g 287 p / 2 := v_td2 o4.1
  have w1 : z_w (z_w (g 283 p - g 281 p) + 1) = s' (3452 + p) 1 := by rw [v_wid (x := g 283 p - g 281 p) (by omega), r1]; exact v_wid (by omega)
  have w6 : z_w (z_w (Int.tdiv (g 287 p) 2) - g 289 p) = s' (3452 + p) 6 := by rw [td, v_wid (x := g 287 p / 2) (by omega), r6]; exact v_wid (by omega)
  have w7 : z_w (z_w (g 287 p - z_w (Int.tdiv (g 287 p) 2)) - g 291 p) = s' (3452 + p) 7 := by rw [td, v_wid (x := g 287 p / 2) (by omega), v_wid (x := g 287 p - g 287 p / 2) (by omega), r7]; exact v_wid (by omega)
  show y_v8 q (g 281 p) (z_w (z_w (g 283 p - g 281 p) + 1)) (g 285 p) (g 287 p) (g 289 p) (g 291 p) (z_w (z_w (Int.tdiv (g 287 p) 2) - g 289 p)) (z_w (z_w (g 287 p - z_w (Int.tdiv (g 287 p) 2)) - g 291 p)) = s' (3452 + p) q
  rw [w1, w6, w7, r0, r2, r3, r4, r5]
  unfold y_v8
  rcases (show q = 0 ∨ q = 1 ∨ q = 2 ∨ q = 3 ∨ q = 4 ∨ q = 5 ∨ q = 6 ∨ q = 7 by omega) with rfl | rfl | rfl | rfl | rfl | rfl | rfl | rfl
  · rw [if_pos rfl]
  · rw [if_neg (by decide), if_pos rfl]
  · rw [if_neg (by decide), if_neg (by decide), if_pos rfl]
  · rw [if_neg (by decide), if_neg (by decide), if_neg (by decide), if_pos rfl]
  · rw [if_neg (by decide), if_neg (by decide), if_neg (by decide), if_neg (by decide), if_pos rfl]
  · rw [if_neg (by decide), if_neg (by decide), if_neg (by decide), if_neg (by decide), if_neg (by decide), if_pos rfl]
  · rw [if_neg (by decide), if_neg (by decide), if_neg (by decide), if_neg (by decide), if_neg (by decide), if_neg (by decide), if_pos rfl]
  · rw [if_neg (by decide), if_neg (by decide), if_neg (by decide), if_neg (by decide), if_neg (by decide), if_neg (by decide), if_neg (by decide)]
