/-! READING as a whole, the reference's side -/
def y_TT (r s : z_M) : Prop := ∀ j : Int, 0 ≤ j → j ≤ 12 → y_RS2 r s j j
theorem y_TT.rf {r : z_M} : y_TT r r := fun _ _ _ => y_RS2.rf
theorem y_TT.fr {r s s' : z_M} (h : y_TT r s) (k1 : ∀ a b : Int, 316 ≤ a ∧ a ≤ 328 → s' a b = s a b) (k0 : ∀ a b : Int, 331 ≤ a ∧ a ≤ 343 → s' a b = s a b) (k2 : ∀ a b : Int, 346 ≤ a ∧ a ≤ 358 → s' a b = s a b) (k3 : ∀ a b : Int, 361 ≤ a ∧ a ≤ 373 → s' a b = s a b) (k4 : ∀ a b : Int, 376 ≤ a ∧ a ≤ 388 → s' a b = s a b) (k5 : ∀ a b : Int, 391 ≤ a ∧ a ≤ 403 → s' a b = s a b) (k6 : ∀ a b : Int, 407 ≤ a ∧ a ≤ 3018 → s' a b = s a b) : y_TT r s' := fun j p q =>
  (h j p q).tr ⟨k1 _ _ (by omega), k1 _ _ (by omega), k1 _ _ (by omega), fun b _ _ => ⟨k0 _ _ (by omega), k2 _ _ (by omega), k3 _ _ (by omega), k4 _ _ (by omega)⟩, y_RGL.fr12 ⟨p, q⟩ k5 k6⟩
/-- reading n bytes from r on, as far as s -/
def y_P0 (r s : z_M) (n : Int) : Prop := ∀ g, y_O g r → (s 309 6 = 0 → ∃ g', y_W (fun i => r 311 i) 0 g (s 309 4) g' ∧ y_O g' s) ∧ (s 309 6 ≠ 0 → ∃ g', y_W (fun i => r 311 i) 0 g (s 309 7) g' ∧ ((s 309 7 < n ∧ (y_st g' (r 311 (s 309 7))).1 = s 309 6) ∨ (s 309 7 = n ∧ g' 32 1 ≠ 0 ∧ s 309 6 = 1)))
theorem y_P0.cg {r s : z_M} {n n' : Int} (h : y_P0 r s n) (e : n' = n) : y_P0 r s n' := by subst e; exact h
theorem y_P0.z {r s : z_M} {n : Int} (sd : y_SD r s) (gs : y_GS r s) (b200 : r 329 1 ≤ 200) (e1 : s 329 1 = r 329 1) (f : s 309 6 = 0) (e4 : s 309 4 = 0) : y_P0 r s n := fun g o =>
  ⟨fun _ => ⟨g, by rw [e4]; exact y_W.rf, o.s sd gs e1 b200⟩, fun z => absurd f z⟩
theorem y_P0.tr {r s s' : z_M} {n : Int} (h : y_P0 r s n) (f : s 309 6 = 0) (h2 : y_PO s s') (e3 : s 309 3 = n) (k : ∀ b, s 311 b = r 311 b) : y_P0 r s' n := fun g o => by
  obtain ⟨g', w, o'⟩ := (h g o).1 f
  have e : (fun i => s 311 i) = fun i => r 311 i := funext k
  obtain ⟨x, y⟩ := h2 g' o'
  refine ⟨fun z => ?_, fun z => ?_⟩
  · obtain ⟨g2, w2, o2⟩ := x z
    rw [e] at w2
    exact ⟨g2, w.tr w2, o2⟩
  · obtain ⟨g2, w2, o2⟩ := y z
    rw [e] at w2
    rw [e3, k] at o2
    exact ⟨g2, w.tr w2, o2⟩
theorem y_P0.fr {r s s' : z_M} {n : Int} (b200 : s 329 1 ≤ 200) (h : y_P0 r s n) (e6 : s' 309 6 = s 309 6) (e7 : s' 309 7 = s 309 7) (e4 : s' 309 4 = s 309 4) (k0 : s' 329 0 = s 329 0) (k1 : s' 329 1 = s 329 1) (k2 : s' 329 2 = s 329 2) (a : ∀ b, s' 344 b = s 344 b) (b : ∀ b, s' 359 b = s 359 b) (c : ∀ b, s' 374 b = s 374 b) (d : ∀ b, s' 389 b = s 389 b) (k5 : ∀ b, s' 404 b = s 404 b) (k6 : ∀ c b : Int, 3020 ≤ c ∧ c ≤ 3219 → s' c b = s c b) : y_P0 r s' n := fun g o => by
  rw [e6, e7, e4]
  refine ⟨fun z => ?_, (h g o).2⟩
  obtain ⟨g', w, o'⟩ := (h g o).1 z
  refine ⟨g', w, o'.s ⟨k0, k2, a, b, c, d⟩ (y_GS.rf.fr k5 k6) k1 ?_⟩
  exact b200
/-- the kept texts behind a reading that stands -/
def y_SK (r s : z_M) : Prop := ((0 ≤ r 309 19 ∧ r 309 19 < 12) ∧ s 309 19 = r 309 19 + 1 ∧ y_RS2 r s (r 309 19 + 1) 0 ∧ ∀ j : Int, 1 ≤ j → j ≤ r 309 19 → y_RS2 r s j j) ∨ (r 309 19 = 12 ∧ s 309 19 = 12 ∧ y_RS2 r s 12 0 ∧ ∀ j : Int, 1 ≤ j → j ≤ 11 → y_RS2 r s j (j + 1))
theorem y_SK.mk {r s s' : z_M} (h : y_TT r s) (t : y_ST s s') (e : s 309 19 = r 309 19) : y_SK r s' := by
  have q := t.2
  rw [e] at q
  rcases q with ⟨q1, q2, q3, q4⟩ | ⟨q1, q2, q3, q4⟩
  · exact Or.inl ⟨q1, q2, (h 0 (by omega) (by omega)).tr q3, fun j u v => (h j (by omega) (by omega)).tr (q4 j u v)⟩
  · exact Or.inr ⟨q1, q2, (h 0 (by omega) (by omega)).tr q3, fun j u v => (h (j + 1) (by omega) (by omega)).tr (q4 j u v)⟩
/-- how reading ends, for the ghost g -/
def y_OC (r s : z_M) (n x : Int) (g : z_M) : Prop :=
  (∃ g', y_W (fun i => r 311 i) 0 g (s 309 5) g' ∧ x + 10 ≠ 0 ∧ ((s 309 5 < n ∧ (y_st g' (r 311 (s 309 5))).1 = x + 10) ∨ (s 309 5 = n ∧ g' 32 1 ≠ 0 ∧ x + 10 = 1)) ∧ y_TT r s ∧ s 309 19 = r 309 19) ∨
  (∃ g', y_W (fun i => r 311 i) 0 g n g' ∧ g' 32 1 = 0 ∧ g' 19 7 ≤ g' 19 6 ∧ y_TX g' 19 s 0 (s 316 1) ∧ y_XT g' 19 s 0 ∧ s 309 5 = -1 ∧ x = s 309 20 ∧ y_SK r s)
def y_RZ (r s : z_M) (n x : Int) : Prop := ∀ g, y_O g r → y_OC r s n x g
theorem y_SK.cv {r r1 s : z_M} (h : y_SK r1 s) (t : y_TT r r1) (e : r1 309 19 = r 309 19) : y_SK r s := by
  unfold y_SK at *
  rw [e] at h
  rcases h with ⟨q1, q2, q3, q4⟩ | ⟨q1, q2, q3, q4⟩
  · exact Or.inl ⟨q1, q2, (t 0 (by omega) (by omega)).tr q3, fun j u v => (t j (by omega) (by omega)).tr (q4 j u v)⟩
  · exact Or.inr ⟨q1, q2, (t 0 (by omega) (by omega)).tr q3, fun j u v => (t (j + 1) (by omega) (by omega)).tr (q4 j u v)⟩
theorem y_OC.cv {r r1 s g : z_M} {n x : Int} (h : y_OC r1 s n x g) (t : y_TT r r1) (e : r1 309 19 = r 309 19) (k : ∀ b, r1 311 b = r 311 b) : y_OC r s n x g := by
  have e1 : (fun i => r1 311 i) = fun i => r 311 i := funext k
  unfold y_OC at *
  rw [e1] at h
  rcases h with ⟨g', q1, q2, q3, q4, q5⟩ | ⟨g', q1, q2, q3, q4, q9, q5, q6, q7⟩
  · rw [k] at q3
    exact Or.inl ⟨g', q1, q2, q3, fun j u v => (t j u v).tr (q4 j u v), q5.trans e⟩
  · exact Or.inr ⟨g', q1, q2, q3, q4, q9, q5, q6, q7.cv t e⟩
theorem y_RZ.f {r s : z_M} {n x n' : Int} (h : y_P0 r s n) (f : s 309 6 ≠ 0) (e5 : s 309 5 = s 309 7) (hx : x + 10 = s 309 6) (t : y_TT r s) (e : s 309 19 = r 309 19) (en : n' = n) : y_RZ r s n' x := fun g o => by
  subst en
  obtain ⟨g', w, q⟩ := (h g o).2 f
  exact Or.inl ⟨g', by rw [e5]; exact w, by omega, by rw [e5, hx]; exact q, t, e⟩
theorem y_RZ.y {r s s' : z_M} {n x n' : Int} (c : z_CI s) (h : y_P0 r s n) (f : s 309 6 = 0) (e4 : s 309 4 = n) (t : y_TT r s) (e : s 309 19 = r 309 19) (st : y_ST s s') (e5 : s' 309 5 = -1) (hx : x = s' 309 20) (en : n' = n) : y_RZ r s' n' x := fun g o => by
  subst en
  obtain ⟨g', w, o'⟩ := (h g o).1 f
  have b := CI_b c (k := 329) (j := 0) bd_329_0
  have eb : s' 316 1 = s 329 1 := st.1.2.1
  have b1 := CI_b c (k := 329) (j := 1) bd_329_1
  refine Or.inr ⟨g', by rw [← e4]; exact w, o'.1, o'.2.1, ?_, o'.2.2.2.t.rs st.1 b.2 b1.2 b1.1, e5, hx, y_SK.mk t st e⟩
  rw [eb]
  refine o'.2.2.1.rs st.1 ?_
  rw [show (316 + 13 : Int) = 329 by decide]; exact b.2
/-- text and more -/
def y_RGE (r : z_M) (n : Int) : Prop := 0 ≤ n ∧ n ≤ r 309 2
def y_TZ (r s : z_M) (n x : Int) : Prop := (y_RGE r n → ∀ g : z_M, g 32 1 = 0 → g 19 6 = 0 → g 19 7 = 0 → g 19 8 = 0 → y_OC r s n x g) ∧ (¬ y_RGE r n → y_TT r s ∧ s 309 19 = r 309 19 ∧ s 309 5 = r 309 5)
def y_MZ (r s : z_M) (n x : Int) : Prop := (y_RGE r n → ∀ g : z_M, g 32 1 = 0 → g 19 7 ≤ g 19 6 → y_TX g 19 r 0 (r 316 1) → y_XT g 19 r 0 → y_OC r s n x g) ∧ (¬ y_RGE r n → y_TT r s ∧ s 309 19 = r 309 19 ∧ s 309 5 = r 309 5)
theorem y_TZ.no {r s : z_M} {n x : Int} (t : y_TT r s) (e : s 309 19 = r 309 19) (e5 : s 309 5 = r 309 5) (h : n < 0 ∨ r 309 2 < n) : y_TZ r s n x := ⟨fun q => by
  unfold y_RGE at q; omega, fun _ => ⟨t, e, e5⟩⟩
theorem y_MZ.no {r s : z_M} {n x : Int} (t : y_TT r s) (e : s 309 19 = r 309 19) (e5 : s 309 5 = r 309 5) (h : n < 0 ∨ r 309 2 < n) : y_MZ r s n x := ⟨fun q => by
  unfold y_RGE at q; omega, fun _ => ⟨t, e, e5⟩⟩
theorem y_TZ.y {r r1 s : z_M} {n x : Int} (hr : 0 ≤ n ∧ n ≤ r 309 2) (h : y_RZ r1 s n x) (t : y_TT r r1) (e : r1 309 19 = r 309 19) (k : ∀ b, r1 311 b = r 311 b) (h0 : r1 329 0 = 0) (h2 : r1 329 2 = 0) (h1 : r1 329 1 = 0) : y_TZ r s n x := ⟨fun _ g a b c d => by
  refine (h g ⟨a, by omega, ⟨?_, ?_, by omega, fun i p q => ?_⟩, fun i p q => by omega, by unfold y_gd; rw [if_pos h1]; exact c, fun i j m p q v w => by omega, fun i p q => by omega, by rw [d]; decide, fun i p q => by omega⟩).cv t e k
  · rw [show (316 + 13 : Int) = 329 by decide, h0]; exact b
  · rw [show (316 + 13 : Int) = 329 by decide, h2]; exact d
  · rw [show (316 + 13 : Int) = 329 by decide, h0] at q
    omega, fun z => absurd hr z⟩
theorem y_MZ.y {r rs r1 s : z_M} {n x : Int} (hr : 0 ≤ n ∧ n ≤ r 309 2) (cs : z_CI rs) (t0 : y_TT r rs) (h : y_RZ r1 s n x) (cf : y_CF rs r1 0 13 3 200) (cl : y_CL rs r1 0 13 200) (e : r1 309 19 = r 309 19) (k : ∀ b, r1 311 b = r 311 b) : y_MZ r s n x := ⟨fun _ g a b c d => by
  have w := CI_b cs (k := 316) (j := 0) bd_316_0
  have w9 := CI_b cs (k := 316) (j := 1) bd_316_1
  have z0 := t0 0 (by omega) (by omega)
  have ez : (316 + 0 : Int) = 316 := by decide
  have w0 := z0.1
  have w1 := z0.2.1
  rw [ez] at w0 w1
  have e1 : r1 329 1 = rs 316 1 := cf.1 1 (by omega) (by omega)
  refine (h g ⟨a, b, ?_, ?_⟩).cv (fun j u v => (t0 j u v).tr (cf.ck cl (by omega) (by omega))) e k
  · rw [e1, w1]
    refine (c.rs z0 ?_).cp cf ?_
    · rw [ez]; omega
    · rw [ez]; exact w.2
  · exact (d.rs (z0.tr (cf.cp cl)) (by rw [ez]; omega) (by rw [ez]; omega) (by rw [ez]; omega)).o, fun z => absurd hr z⟩
/-- undo -/
def y_UR (r s : z_M) : Prop := (1 ≤ r 309 19 ∧ r 309 19 ≤ 12) ∧ y_RS2 r s 0 (r 309 19) ∧ ∀ j : Int, 1 ≤ j → j ≤ 12 → y_RS2 r s j j
theorem y_UR.mk {r s s2 : z_M} {b : Int} (t : y_TT r s) (c : y_CF s s2 b 0 3 200) (cl : y_CL s s2 b 0 200) (hb : b = r 309 19) (h : 1 ≤ r 309 19 ∧ r 309 19 ≤ 12) : y_UR r s2 := by
  subst hb
  exact ⟨h, (t _ (by omega) (by omega)).tr (c.cp cl), fun j p q => (t j (by omega) q).tr (c.ck cl (by omega) (by omega))⟩
theorem y_UR.fr {r s s' : z_M} (h : y_UR r s) (k1 : ∀ a b : Int, 316 ≤ a ∧ a ≤ 329 → s' a b = s a b) (k0 : ∀ a b : Int, 331 ≤ a ∧ a ≤ 344 → s' a b = s a b) (k2 : ∀ a b : Int, 346 ≤ a ∧ a ≤ 359 → s' a b = s a b) (k3 : ∀ a b : Int, 361 ≤ a ∧ a ≤ 374 → s' a b = s a b) (k4 : ∀ a b : Int, 376 ≤ a ∧ a ≤ 389 → s' a b = s a b) (k5 : ∀ a b : Int, 391 ≤ a ∧ a ≤ 404 → s' a b = s a b) (k6 : ∀ a b : Int, 407 ≤ a ∧ a ≤ 3219 → s' a b = s a b) : y_UR r s' :=
  ⟨h.1, h.2.1.fr (by omega) k1 k0 k2 k3 k4 k5 k6, fun j p q => (h.2.2 j p q).fr (by omega) k1 k0 k2 k3 k4 k5 k6⟩
def y_UZ (r s : z_M) (x : Int) : Prop := (r 309 19 = 0 ∧ x = -1 ∧ y_TT r s ∧ s 309 19 = 0) ∨ (y_UR r s ∧ s 309 19 = r 309 19 - 1 ∧ x = s 309 20)
theorem y_UZ.z {r s : z_M} {x : Int} (t : y_TT r s) (h : r 309 19 = 0) (hx : x = -1) (e : s 309 19 = 0) : y_UZ r s x := Or.inl ⟨h, hx, t, e⟩
theorem y_UZ.y {r s : z_M} {x : Int} (t : y_UR r s) (e : s 309 19 = r 309 19 - 1) (hx : x = s 309 20) : y_UZ r s x := Or.inr ⟨t, e, hx⟩
