/-! the class's layout stays right over steps; refresh -/
abbrev y_yr (x : Int) : Prop := x = 3 ∨ x = 193 ∨ x = 195 ∨ x = 197 ∨ x = 217 ∨ x = 248 ∨ (260 ≤ x ∧ x ≤ 278 ∧ x % 2 = 0) ∨ (281 ≤ x ∧ x ≤ 295 ∧ x % 2 = 1)
theorem y_LBc.fr {D s s' : z_M} (h : y_LBc D s) (e0 : s' 191 16 = s 191 16) (e6 : s' 240 6 = s 240 6) (e9 : s' 279 9 = s 279 9) (f : ∀ x b : Int, y_yr x → s' x b = s x b) : y_LBc D s' := by
  obtain ⟨nx, c, ⟨h1, h2, h3, h4⟩, h5, h6, h7⟩ := h
  have e3 : ∀ j : Int, s' 3 j = s 3 j := fun j => f 3 j (by omega)
  have e48 : s' 248 = s 248 := funext fun j => f 248 j (by omega)
  have eq : y_qc s' = y_qc s := funext fun j => by unfold y_qc; rw [e0, e3, e3, e3]
  refine ⟨nx, c, ⟨by rw [e0, e3, e3, e3, e3]; exact h1, by rw [e0]; exact h2, e6.trans h3, by rw [e48, e0]; exact h4⟩, fun l p q => ?_, by rw [e48, e6, f 278 _ (by omega)]; exact h6, by rw [e48, e6, e9]; exact h7⟩
  rw [e6] at q
  rw [e3, e0, eq, e48]
  obtain ⟨w1, w2⟩ := h5 l p q
  exact ⟨w1.fr (fun x w => f x l (by omega)) (fun x k w _ _ => f x k (by omega)), fun u p q => (w2 u p q).fr (fun x y w => f x y (by omega)) (fun x w => f x u (by omega)) (fun i _ _ => f 268 i (by omega))⟩
/-- the layout is right, where units are what they should be -/
def y_YC (s : z_M) : Prop := y_OKc s → y_LBc (y_dc s) s
/-- and where it is fresh -/
def y_Y4 (s : z_M) : Prop := s 1 16 = 0 ∨ s 1 17 = 0 ∨ y_YC s
theorem y_yfn {s s' : z_M} (e4 : ∀ b, s' 3 b = s 3 b) (e10 : ∀ b, s' 193 b = s 193 b) (e11 : ∀ b, s' 195 b = s 195 b) (e12 : ∀ b, s' 197 b = s 197 b) (e22 : ∀ b, s' 217 b = s 217 b) (e25 : ∀ b, s' 248 b = s 248 b) (e26 : ∀ b, s' 260 b = s 260 b) (e27 : ∀ b, s' 262 b = s 262 b) (e28 : ∀ b, s' 264 b = s 264 b) (e29 : ∀ b, s' 266 b = s 266 b) (e30 : ∀ b, s' 268 b = s 268 b) (e31 : ∀ b, s' 270 b = s 270 b) (e32 : ∀ b, s' 272 b = s 272 b) (e33 : ∀ b, s' 274 b = s 274 b) (e34 : ∀ b, s' 276 b = s 276 b) (e35 : ∀ b, s' 278 b = s 278 b) (e37 : ∀ b, s' 281 b = s 281 b) (e38 : ∀ b, s' 283 b = s 283 b) (e39 : ∀ b, s' 285 b = s 285 b) (e40 : ∀ b, s' 287 b = s 287 b) (e41 : ∀ b, s' 289 b = s 289 b) (e42 : ∀ b, s' 291 b = s 291 b) (e43 : ∀ b, s' 293 b = s 293 b) (e44 : ∀ b, s' 295 b = s 295 b) : ∀ x b : Int, y_yr x → s' x b = s x b := fun x b q => by
  rcases (show x = 3 ∨ x = 193 ∨ x = 195 ∨ x = 197 ∨ x = 217 ∨ x = 248 ∨ x = 260 ∨ x = 262 ∨ x = 264 ∨ x = 266 ∨ x = 268 ∨ x = 270 ∨ x = 272 ∨ x = 274 ∨ x = 276 ∨ x = 278 ∨ x = 281 ∨ x = 283 ∨ x = 285 ∨ x = 287 ∨ x = 289 ∨ x = 291 ∨ x = 293 ∨ x = 295 by omega) with rfl | rfl | rfl | rfl | rfl | rfl | rfl | rfl | rfl | rfl | rfl | rfl | rfl | rfl | rfl | rfl | rfl | rfl | rfl | rfl | rfl | rfl | rfl | rfl
  · exact e4 b
  · exact e10 b
  · exact e11 b
  · exact e12 b
  · exact e22 b
  · exact e25 b
  · exact e26 b
  · exact e27 b
  · exact e28 b
  · exact e29 b
  · exact e30 b
  · exact e31 b
  · exact e32 b
  · exact e33 b
  · exact e34 b
  · exact e35 b
  · exact e37 b
  · exact e38 b
  · exact e39 b
  · exact e40 b
  · exact e41 b
  · exact e42 b
  · exact e43 b
  · exact e44 b
theorem y_YC.fr {s s' : z_M} (h : y_YC s) (e0 : s' 191 16 = s 191 16) (e1 : s' 6 6 = s 6 6) (e2 : s' 191 17 = s 191 17) (e3 : s' 191 18 = s 191 18) (e4 : ∀ b, s' 3 b = s 3 b) (e5 : ∀ b, s' 8 b = s 8 b) (e6 : ∀ b, s' 12 b = s 12 b) (e7 : ∀ b, s' 14 b = s 14 b) (e8 : ∀ b, s' 16 b = s 16 b) (e9 : ∀ b, s' 18 b = s 18 b) (e10 : ∀ b, s' 193 b = s 193 b) (e11 : ∀ b, s' 195 b = s 195 b) (e12 : ∀ b, s' 197 b = s 197 b) (e13 : ∀ b, s' 199 b = s 199 b) (e14 : ∀ b, s' 201 b = s 201 b) (e15 : ∀ b, s' 203 b = s 203 b) (e16 : ∀ b, s' 205 b = s 205 b) (e17 : ∀ b, s' 207 b = s 207 b) (e18 : ∀ b, s' 209 b = s 209 b) (e19 : ∀ b, s' 211 b = s 211 b) (e20 : ∀ b, s' 213 b = s 213 b) (e21 : ∀ b, s' 215 b = s 215 b) (e22 : ∀ b, s' 217 b = s 217 b) (e23 : ∀ b, s' 219 b = s 219 b) (e24 : s' 240 6 = s 240 6) (e25 : ∀ b, s' 248 b = s 248 b) (e26 : ∀ b, s' 260 b = s 260 b) (e27 : ∀ b, s' 262 b = s 262 b) (e28 : ∀ b, s' 264 b = s 264 b) (e29 : ∀ b, s' 266 b = s 266 b) (e30 : ∀ b, s' 268 b = s 268 b) (e31 : ∀ b, s' 270 b = s 270 b) (e32 : ∀ b, s' 272 b = s 272 b) (e33 : ∀ b, s' 274 b = s 274 b) (e34 : ∀ b, s' 276 b = s 276 b) (e35 : ∀ b, s' 278 b = s 278 b) (e36 : s' 279 9 = s 279 9) (e37 : ∀ b, s' 281 b = s 281 b) (e38 : ∀ b, s' 283 b = s 283 b) (e39 : ∀ b, s' 285 b = s 285 b) (e40 : ∀ b, s' 287 b = s 287 b) (e41 : ∀ b, s' 289 b = s 289 b) (e42 : ∀ b, s' 291 b = s 291 b) (e43 : ∀ b, s' 293 b = s 293 b) (e44 : ∀ b, s' 295 b = s 295 b) : y_YC s' := fun ok => by
  have f := y_f5 e10 e13 e14 e15 e16
  have back : y_OKc s := ok.fr (ok.1.fr e0.symm e1.symm e2.symm e3.symm (fun b => (e4 b).symm) (fun b => (e5 b).symm) (fun b => (e6 b).symm) (fun b => (e7 b).symm) (fun b => (e8 b).symm) (fun b => (e9 b).symm) (fun b => (e10 b).symm) (fun b => (e11 b).symm) (fun b => (e12 b).symm) (fun b => (e13 b).symm) (fun b => (e14 b).symm) (fun b => (e15 b).symm) (fun b => (e16 b).symm) (fun b => (e17 b).symm) (fun b => (e18 b).symm) (fun b => (e19 b).symm) (fun b => (e20 b).symm) (fun b => (e21 b).symm) (fun b => (e22 b).symm) (fun b => (e23 b).symm)) e0.symm e1.symm ⟨(e4 2).symm, (e4 6).symm⟩ (by rw [← e4 0]; exact ok.2.2.2.2.2.1) (fun b => (e5 b).symm) (fun b => (e6 b).symm) (fun b => (e7 b).symm) (fun x b q => (f x b q).symm)
  rw [y_dc.fr e0 (e4 6) f]
  exact (h back).fr e0 e24 e36 (y_yfn e4 e10 e11 e12 e22 e25 e26 e27 e28 e29 e30 e31 e32 e33 e34 e35 e37 e38 e39 e40 e41 e42 e43 e44)
theorem y_Y4.fr {s s' : z_M} (h : y_Y4 s) (i16 : s' 1 16 = s 1 16) (i17 : s' 1 17 = s 1 17) (e0 : s' 191 16 = s 191 16) (e1 : s' 6 6 = s 6 6) (e2 : s' 191 17 = s 191 17) (e3 : s' 191 18 = s 191 18) (e4 : ∀ b, s' 3 b = s 3 b) (e5 : ∀ b, s' 8 b = s 8 b) (e6 : ∀ b, s' 12 b = s 12 b) (e7 : ∀ b, s' 14 b = s 14 b) (e8 : ∀ b, s' 16 b = s 16 b) (e9 : ∀ b, s' 18 b = s 18 b) (e10 : ∀ b, s' 193 b = s 193 b) (e11 : ∀ b, s' 195 b = s 195 b) (e12 : ∀ b, s' 197 b = s 197 b) (e13 : ∀ b, s' 199 b = s 199 b) (e14 : ∀ b, s' 201 b = s 201 b) (e15 : ∀ b, s' 203 b = s 203 b) (e16 : ∀ b, s' 205 b = s 205 b) (e17 : ∀ b, s' 207 b = s 207 b) (e18 : ∀ b, s' 209 b = s 209 b) (e19 : ∀ b, s' 211 b = s 211 b) (e20 : ∀ b, s' 213 b = s 213 b) (e21 : ∀ b, s' 215 b = s 215 b) (e22 : ∀ b, s' 217 b = s 217 b) (e23 : ∀ b, s' 219 b = s 219 b) (e24 : s' 240 6 = s 240 6) (e25 : ∀ b, s' 248 b = s 248 b) (e26 : ∀ b, s' 260 b = s 260 b) (e27 : ∀ b, s' 262 b = s 262 b) (e28 : ∀ b, s' 264 b = s 264 b) (e29 : ∀ b, s' 266 b = s 266 b) (e30 : ∀ b, s' 268 b = s 268 b) (e31 : ∀ b, s' 270 b = s 270 b) (e32 : ∀ b, s' 272 b = s 272 b) (e33 : ∀ b, s' 274 b = s 274 b) (e34 : ∀ b, s' 276 b = s 276 b) (e35 : ∀ b, s' 278 b = s 278 b) (e36 : s' 279 9 = s 279 9) (e37 : ∀ b, s' 281 b = s 281 b) (e38 : ∀ b, s' 283 b = s 283 b) (e39 : ∀ b, s' 285 b = s 285 b) (e40 : ∀ b, s' 287 b = s 287 b) (e41 : ∀ b, s' 289 b = s 289 b) (e42 : ∀ b, s' 291 b = s 291 b) (e43 : ∀ b, s' 293 b = s 293 b) (e44 : ∀ b, s' 295 b = s 295 b) : y_Y4 s' := by
  rcases h with h | h | h
  · exact Or.inl (i16.trans h)
  · exact Or.inr (Or.inl (i17.trans h))
  · exact Or.inr (Or.inr (h.fr e0 e1 e2 e3 e4 e5 e6 e7 e8 e9 e10 e11 e12 e13 e14 e15 e16 e17 e18 e19 e20 e21 e22 e23 e24 e25 e26 e27 e28 e29 e30 e31 e32 e33 e34 e35 e36 e37 e38 e39 e40 e41 e42 e43 e44))
theorem y_Y4.c {s : z_M} (h : y_YC s) : y_Y4 s := Or.inr (Or.inr h)
theorem y_Y4.z {s : z_M} (h : s 1 16 = 0) : y_Y4 s := Or.inl h
theorem y_Y4.z7 {s : z_M} (h : s 1 17 = 0) : y_Y4 s := Or.inr (Or.inl h)
theorem y_Y4.cls {s s' : z_M} (h : y_Y4 s) (f : ∀ a b : Int, a ≤ 308 → s' a b = s a b) : y_Y4 s' := h.fr (f _ _ (by decide)) (f _ _ (by decide)) (f _ _ (by decide)) (f _ _ (by decide)) (f _ _ (by decide)) (f _ _ (by decide)) (fun b => f _ b (by decide)) (fun b => f _ b (by decide)) (fun b => f _ b (by decide)) (fun b => f _ b (by decide)) (fun b => f _ b (by decide)) (fun b => f _ b (by decide)) (fun b => f _ b (by decide)) (fun b => f _ b (by decide)) (fun b => f _ b (by decide)) (fun b => f _ b (by decide)) (fun b => f _ b (by decide)) (fun b => f _ b (by decide)) (fun b => f _ b (by decide)) (fun b => f _ b (by decide)) (fun b => f _ b (by decide)) (fun b => f _ b (by decide)) (fun b => f _ b (by decide)) (fun b => f _ b (by decide)) (fun b => f _ b (by decide)) (fun b => f _ b (by decide)) (f _ _ (by decide)) (fun b => f _ b (by decide)) (fun b => f _ b (by decide)) (fun b => f _ b (by decide)) (fun b => f _ b (by decide)) (fun b => f _ b (by decide)) (fun b => f _ b (by decide)) (fun b => f _ b (by decide)) (fun b => f _ b (by decide)) (fun b => f _ b (by decide)) (fun b => f _ b (by decide)) (fun b => f _ b (by decide)) (f _ _ (by decide)) (fun b => f _ b (by decide)) (fun b => f _ b (by decide)) (fun b => f _ b (by decide)) (fun b => f _ b (by decide)) (fun b => f _ b (by decide)) (fun b => f _ b (by decide)) (fun b => f _ b (by decide)) (fun b => f _ b (by decide))
/-- cells up to 222 but for the measure's -/
theorem y_YC.lo {s s' : z_M} (h : y_YC s) (f : ∀ x b : Int, (x ≤ 219 ∨ (240 ≤ x ∧ x ≤ 248) ∨ (258 ≤ x ∧ x ≤ 295)) → x ≠ 1 → s' x b = s x b) : y_YC s' := h.fr (f _ _ (by decide) (by decide)) (f _ _ (by decide) (by decide)) (f _ _ (by decide) (by decide)) (f _ _ (by decide) (by decide)) (fun b => f _ b (by decide) (by decide)) (fun b => f _ b (by decide) (by decide)) (fun b => f _ b (by decide) (by decide)) (fun b => f _ b (by decide) (by decide)) (fun b => f _ b (by decide) (by decide)) (fun b => f _ b (by decide) (by decide)) (fun b => f _ b (by decide) (by decide)) (fun b => f _ b (by decide) (by decide)) (fun b => f _ b (by decide) (by decide)) (fun b => f _ b (by decide) (by decide)) (fun b => f _ b (by decide) (by decide)) (fun b => f _ b (by decide) (by decide)) (fun b => f _ b (by decide) (by decide)) (fun b => f _ b (by decide) (by decide)) (fun b => f _ b (by decide) (by decide)) (fun b => f _ b (by decide) (by decide)) (fun b => f _ b (by decide) (by decide)) (fun b => f _ b (by decide) (by decide)) (fun b => f _ b (by decide) (by decide)) (fun b => f _ b (by decide) (by decide)) (f _ _ (by decide) (by decide)) (fun b => f _ b (by decide) (by decide)) (fun b => f _ b (by decide) (by decide)) (fun b => f _ b (by decide) (by decide)) (fun b => f _ b (by decide) (by decide)) (fun b => f _ b (by decide) (by decide)) (fun b => f _ b (by decide) (by decide)) (fun b => f _ b (by decide) (by decide)) (fun b => f _ b (by decide) (by decide)) (fun b => f _ b (by decide) (by decide)) (fun b => f _ b (by decide) (by decide)) (fun b => f _ b (by decide) (by decide)) (f _ _ (by decide) (by decide)) (fun b => f _ b (by decide) (by decide)) (fun b => f _ b (by decide) (by decide)) (fun b => f _ b (by decide) (by decide)) (fun b => f _ b (by decide) (by decide)) (fun b => f _ b (by decide) (by decide)) (fun b => f _ b (by decide) (by decide)) (fun b => f _ b (by decide) (by decide)) (fun b => f _ b (by decide) (by decide))
theorem y_me01 {D : z_M} {T n : Int} : ∀ u : Int, y_me D T n u = 0 ∨ y_me D T n u = 1 := fun _ => y_me_01
/-- the lines are broken anew: what they are -/
theorem e_goY {fu : Nat} (hfu : 8589934592 ≤ fu) {s : z_M} (u : y_U3 s) (E : z_T (fX1_go fu s 240 (s 3 0) (s 3 3)) (fun _ s' => ∀ x y : Int, x ≤ 219 → s' x y = s x y)) : z_T (fX1_go fu s 240 (s 3 0) (s 3 3)) (fun _ s' => y_OKc s' → (∃ (nx : Int → Int) (c : Nat), y_LSc (y_dc s') s' nx c) ∧ y_CM (y_dc s') (y_me (y_dc s') (s' 3 7) (s' 191 16)) s' s') := by
  by_cases ok : y_OKc s
  · have cm := ok.CM (u.2 ok)
    refine T_mono (T_and E (e_go hfu (Or.inl rfl) cm rfl (by have w := ok.2.2.2.2.2.1; omega) (md := s 3 3))) (fun v s' hq => ?_)
    obtain ⟨f, rfl, ⟨nx, c, nxd, cn, ce, lr⟩, cm', _⟩ := hq
    intro _
    have f5 : ∀ x b : Int, y_r5 x → s' x b = s x b := fun x b q => f x b (by omega)
    have ed : y_dc s' = y_dc s := y_dc.fr (f 191 16 (by decide)) (f 3 6 (by decide)) f5
    have e0 := f 191 16 (by decide)
    have e3 : ∀ j : Int, s' 3 j = s 3 j := fun j => f 3 j (by decide)
    rw [ed, e3 7, e0]
    exact ⟨⟨nx, c, by rw [e3, e3, e0, e3, e3]; exact nxd, by rw [e0]; exact cn, ce, by rw [e0]; exact lr⟩, cm'⟩
  · refine T_mono E (fun v s' f => ?_)
    intro w
    exact absurd (w.lo (fun x b q => (f x b q).symm)) ok
/-- and laid out -/
theorem e_buildY {fu : Nat} (hfu : 8589934592 ≤ fu) {s : z_M} (ci : z_CI s) (u : y_U2 s) (h : y_OKc s → (∃ (nx : Int → Int) (c : Nat), y_LSc (y_dc s) s nx c) ∧ y_CM (y_dc s) (y_me (y_dc s) (s 3 7) (s 191 16)) s s) (E : z_T (fX3_build fu s 258) (fun _ s' => ∀ x y : Int, x ≤ 219 → s' x y = s x y)) : z_T (fX3_build fu s 258) (fun _ s' => y_YC s') := by
  by_cases ok : y_OKc s
  · obtain ⟨⟨nx, c, l1, l2, l3, l4⟩, cm⟩ := h ok
    have n6 := CI_b ci (k := 6) (j := 6) bd_6_6
    have t := ok.2.1
    have k2 := ok.2.2.2.2.1
    have k0 := ok.2.2.2.2.2.1
    refine T_mono (T_and E (e_buildX hfu (Q := y_qc s) (nx := nx) (n := s 191 16) (c := c) cm y_me01 (u.FZ t n6) (by rw [y_qc1]; exact k2) (by rw [y_qc2]; omega) y_qc1.symm y_qc2.symm y_qc3.symm rfl y_qc0 ⟨l3, l2, l4, l1.b⟩)) (fun v s' hq => ?_)
    obtain ⟨f, rfl, ly, cm', f2⟩ := hq
    intro _
    have f5 : ∀ x b : Int, y_r5 x → s' x b = s x b := fun x b q => f x b (by omega)
    have ed : y_dc s' = y_dc s := y_dc.fr (f 191 16 (by decide)) (f 3 6 (by decide)) f5
    have e0 := f 191 16 (by decide)
    have e3 : ∀ j : Int, s' 3 j = s 3 j := fun j => f 3 j (by decide)
    have eq : y_qc s' = y_qc s := funext fun j => by unfold y_qc; rw [e0, e3, e3, e3]
    have e48 : s' 248 = s 248 := funext fun j => f2 248 j (by omega)
    rw [ed]
    refine ⟨nx, c, ⟨by rw [e3, e3, e0, e3, e3]; exact l1, by rw [e0]; exact l2, (f2 240 6 (by omega)).trans l3, by rw [e48, e0]; exact l4⟩, by rw [eq, e3, e0]; exact ly⟩
  · refine T_mono E (fun v s' f => ?_)
    intro w
    exact absurd (w.lo (fun x b q => (f x b q).symm)) ok
