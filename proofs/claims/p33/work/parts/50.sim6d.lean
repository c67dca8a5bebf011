/-! READING, 6d: a group, a part -/
theorem y_BD.s {g s s' : z_M} {nb gr : Int} (h : y_BD g s nb gr) (k : y_SD s s') (q : y_GS s s') (e : s' 329 1 = s 329 1) (b200 : s 329 1 ≤ 200) : y_BD g s' nb gr := by
  unfold y_BD
  rw [e, k.1]
  exact ⟨h.1, h.2.1, h.2.2.1, h.2.2.2.1.s k, h.2.2.2.2.1.sd k q b200, h.2.2.2.2.2⟩
/-- in a group: nb bases are read -/
def y_GL (r s : z_M) (nb : Int) : Prop := ∀ g, y_O g r → (s 309 6 = 0 → ∃ g' d n, 1 ≤ n ∧ y_W (fun i => r 311 i) (r 309 4) g (s 309 4) g' ∧ y_IR g' s d n nb (y_gd r) ∧ ¬ y_sml (y_hr s) ∧ ¬ (y_hr s = 124 ∧ d = 0)) ∧ (s 309 6 ≠ 0 → y_FA r g s)
theorem y_GL.cg {r s : z_M} {nb nb' : Int} (h : y_GL r s nb) (e : nb' = nb) : y_GL r s nb' := by subst e; exact h
/-- the first base -/
theorem y_GL.b {r s s' : z_M} {nb gr : Int} (cr : z_CI r) (pb : y_PB s s' gr) (hg : gr = y_gd r) (hc : r 311 (r 309 4) = 123) (sd : y_SD r s) (gs : y_GS r s) (e1 : s 329 1 = r 329 1) (e4 : s 309 4 = r 309 4 + 1) (e3 : s 309 3 = r 309 3) (k : ∀ b, s 311 b = r 311 b) (hn : nb = 1) : y_GL r s' nb := fun g o => by
  subst hn; subst hg
  have b200 := (CI_b cr (k := 329) (j := 1) bd_329_1).2
  have t := t_opn (p := s 309 4) o cr hc
  have bd := t.2.s sd gs e1 b200
  have w := y_W.one (b := fun i => r 311 i) t.1 rfl e4
  have e : (fun i => s 311 i) = fun i => r 311 i := funext k
  obtain ⟨x, y⟩ := pb _ 0 ⟨by omega, by omega⟩ bd
  refine ⟨fun z => ?_, fun z => y_FA.tr k e3 w (y z)⟩
  obtain ⟨g2, d, n, o1, o2, o3, o4, o5⟩ := x z
  rw [e] at o2
  exact ⟨g2, d, n, o1, w.tr o2, o3, o4, o5⟩
/-- behind a ';' -/
def y_GD (r s : z_M) (nb : Int) : Prop := ∀ g, y_O g r → (s 309 6 = 0 → ∃ g', y_W (fun i => r 311 i) (r 309 4) g (s 309 4) g' ∧ y_BD g' s nb (y_gd r)) ∧ (s 309 6 ≠ 0 → y_FA r g s)
theorem y_GD.cg {r s : z_M} {nb nb' : Int} (h : y_GD r s nb) (e : nb' = nb) : y_GD r s nb' := by subst e; exact h
theorem y_O.s {g s s' : z_M} (h : y_O g s) (k : y_SD s s') (q : y_GS s s') (e : s' 329 1 = s 329 1) (b200 : s 329 1 ≤ 200) : y_O g s' := by
  unfold y_O
  rw [e, y_gd_cg q e]
  exact ⟨h.1, h.2.1, h.2.2.1.s k, h.2.2.2.sd k q b200⟩
theorem y_GD.mk {r s s' : z_M} {nb : Int} (h : y_GL r s nb) (f : s 309 6 = 0) (f' : s' 309 6 = 0) (hc : y_hr s = 59) (hl : s 309 4 < s 309 3) (k : ∀ b, s 311 b = r 311 b) (e4 : s' 309 4 = s 309 4 + 1) (sd : y_SD s s') (gs : y_GS s s') (e1 : s' 329 1 = s 329 1) (b200 : s 329 1 ≤ 200) : y_GD r s' nb := fun g o => by
  obtain ⟨g', d, n, hn, w, i, _, _⟩ := (h g o).1 f
  have t := t_sem (p := s' 309 4) i (by omega) hc
  have ec : r 311 (s 309 4) = y_hr s := by rw [y_hr_at hl, k]
  exact ⟨fun _ => ⟨_, w.tr (y_W.one t.1 ec e4), t.2.s sd gs e1 b200⟩, fun z => absurd f' z⟩
theorem y_GD.w4 {r s s' : z_M} {nb nb' : Int} (h : y_GD r s nb) (f : s 309 6 = 0) (h4 : nb = 4) (k : ∀ b, s 311 b = r 311 b) (e3 : s 309 3 = r 309 3) (hle : s 309 4 ≤ s 309 3) (e6 : s' 309 6 = 1) (e7 : s' 309 7 = s 309 4) : y_GD r s' nb' := fun g o => by
  obtain ⟨g', w, i⟩ := (h g o).1 f
  exact ⟨fun z => by omega, fun _ => y_FA.here w k e3 hle e6 e7 (by rw [i.1]; decide) (f_D1 i (Or.inl h4))⟩
theorem y_GL.d {r s s' : z_M} {nb nb' gr : Int} (h : y_GD r s nb) (f : s 309 6 = 0) (pb : y_PB s s' gr) (hg : gr = y_gd r) (hq : 0 ≤ nb ∧ nb < 4) (e3 : s 309 3 = r 309 3) (k : ∀ b, s 311 b = r 311 b) (hn : nb' = nb + 1) : y_GL r s' nb' := fun g o => by
  subst hn; subst hg
  obtain ⟨g', w, i⟩ := (h g o).1 f
  have e : (fun i => s 311 i) = fun i => r 311 i := funext k
  obtain ⟨x, y⟩ := pb g' nb hq i
  refine ⟨fun z => ?_, fun z => y_FA.tr k e3 w (y z)⟩
  obtain ⟨g2, d, n, o1, o2, o3, o4, o5⟩ := x z
  rw [e] at o2
  exact ⟨g2, d, n, o1, w.tr o2, o3, o4, o5⟩
theorem y_GL.f {r s : z_M} {nb nb' : Int} (h : y_GD r s nb) (f : s 309 6 ≠ 0) : y_GL r s nb' := fun g o => ⟨fun z => absurd z f, (h g o).2⟩
/-- behind the group's bases: a fault, or a '}' is to be read -/
def y_GE (r s : z_M) : Prop := ∀ g, y_O g r → (s 309 6 = 0 → ∃ g' d n nb, 1 ≤ n ∧ y_W (fun i => r 311 i) (r 309 4) g (s 309 4) g' ∧ y_IR g' s d n nb (y_gd r) ∧ y_hr s = 125 ∧ s 309 4 < s 309 3) ∧ (s 309 6 ≠ 0 → y_FA r g s)
theorem y_GE.f {r s : z_M} {nb : Int} (h : y_GL r s nb) (f : s 309 6 ≠ 0) : y_GE r s := fun g o => ⟨fun z => absurd z f, (h g o).2⟩
theorem y_GE.y {r s : z_M} {nb : Int} (h : y_GL r s nb) (f : s 309 6 = 0) (hc : y_hr s = 125) (hl : s 309 4 < s 309 3) : y_GE r s := fun g o => by
  refine ⟨fun z => ?_, fun z => absurd f z⟩
  obtain ⟨g', d, n, o1, o2, o3, _, _⟩ := (h g o).1 z
  exact ⟨g', d, n, nb, o1, o2, o3, hc, hl⟩
theorem y_GE.w {r s s' : z_M} {nb : Int} (h : y_GL r s nb) (f : s 309 6 = 0) (hc : y_hr s ≠ 125 ∧ y_hr s ≠ 59) (k : ∀ b, s 311 b = r 311 b) (e3 : s 309 3 = r 309 3) (hle : s 309 4 ≤ s 309 3) (e6 : s' 309 6 = 1) (e7 : s' 309 7 = s 309 4) : y_GE r s' := fun g o => by
  obtain ⟨g', d, n, hn, w, i, q1, q2⟩ := (h g o).1 f
  exact ⟨fun z => by omega, fun _ => y_FA.here w k e3 hle e6 e7 (by rw [i.1]; decide) (f_R1 i q1 (by omega) q2 hc.2 hc.1)⟩
/-- a part is read -/
def y_PO (r s : z_M) : Prop := ∀ g, y_O g r → (s 309 6 = 0 → ∃ g', y_W (fun i => r 311 i) (r 309 4) g (s 309 4) g' ∧ y_O g' s) ∧ (s 309 6 ≠ 0 → y_FA r g s)
theorem y_PO.e {r s s' : z_M} (h : y_GE r s) (f6 : s' 309 6 = s 309 6) (f7 : s' 309 7 = s 309 7) (k : ∀ b, s 311 b = r 311 b) (e4 : s' 309 4 = s 309 4 + 1) (sd : y_SD s s') (gs : y_GS s s') (e1 : s' 329 1 = s 329 1) (b200 : s 329 1 ≤ 200) : y_PO r s' := fun g o => by
  refine ⟨fun z => ?_, fun z => ?_⟩
  · obtain ⟨g', d, n, nb, hn, w, i, hc, hl⟩ := (h g o).1 (by omega)
    have t := t_cls (p := s' 309 4) i (by omega) hc
    have ec : r 311 (s 309 4) = y_hr s := by rw [y_hr_at hl, k]
    exact ⟨_, w.tr (y_W.one t.1 ec e4), t.2.s sd gs e1 b200⟩
  · obtain ⟨g', w, q⟩ := (h g o).2 (by omega)
    exact ⟨g', by rw [f7]; exact w, by rw [f7, f6]; exact q⟩
/-- a sign that stands by itself -/
theorem y_PO.a {r s : z_M} {kd : Int} (c : z_CI r) (as : y_AS r s kd (-1)) (hk : kd = y_ki (y_hr r)) (h0 : 0 ≤ kd) (f : r 309 6 = 0) (hl : r 309 4 < r 309 3) (ha : s 309 6 ≠ 0 ∨ s 309 4 = r 309 4 + 1) (b0 : 0 ≤ r 329 1) : y_PO r s := fun g o => by
  have ec : y_hr r = r 311 (r 309 4) := y_hr_at hl
  refine ⟨fun z => ?_, fun z => ?_⟩
  · have t := t_pln (p := s 309 4) o c hk h0 ec (as.2.1 f z) b0 as.2.2.2
    exact ⟨_, y_W.one t.1 ec.symm (ha.resolve_left (fun q => q z)), t.2⟩
  · obtain ⟨a1, a2, a3, a4, a5⟩ := as.2.2.1 f z
    refine ⟨g, by rw [a2]; exact y_W.rf, Or.inl ⟨by omega, ?_⟩⟩
    rw [a2, a1, ← ec]
    exact f_O2 o (by omega) a3
theorem y_PO.p {r s : z_M} {v : Int} (hc : (y_hr r = 42 ∧ v = 1) ∨ (y_hr r = 95 ∧ v = 2)) (hl : r 309 4 < r 309 3) (f : s 309 6 = 0) (ha : s 309 4 = r 309 4 + 1) (k0 : s 329 0 = r 329 0) (k1 : s 329 1 = r 329 1) (k2 : s 329 2 = z_xor (r 329 2) v) (kr : ∀ a b : Int, a = 344 ∨ a = 359 ∨ a = 374 ∨ a = 389 → s a b = r a b) (gs : y_GS r s) (b200 : r 329 1 ≤ 200) : y_PO r s := fun g o => by
  have ec : y_hr r = r 311 (r 309 4) := y_hr_at hl
  have t := t_pen (p := s 309 4) o v hc k0 k1 k2 kr gs b200
  exact ⟨fun _ => ⟨_, y_W.one t.1 ec.symm ha, t.2⟩, fun z => absurd f z⟩
theorem y_PO.w {r s : z_M} (hk : y_ki (y_hr r) = -1) (hc : y_hr r ≠ 42 ∧ y_hr r ≠ 95 ∧ y_hr r ≠ 123) (hl : r 309 4 < r 309 3) (e6 : s 309 6 = 1) (e7 : s 309 7 = r 309 4) : y_PO r s := fun g o => by
  have ec : y_hr r = r 311 (r 309 4) := y_hr_at hl
  refine ⟨fun z => by omega, fun _ => ⟨g, by rw [e7]; exact y_W.rf, Or.inl ⟨by omega, ?_⟩⟩⟩
  rw [e7, e6, ← ec]
  exact f_O1 o hk hc
/-- reading as far as s, from r on -/
theorem y_PO.rf {r : z_M} (f : r 309 6 = 0) : y_PO r r := fun g o => ⟨fun _ => ⟨g, y_W.rf, o⟩, fun z => absurd f z⟩
theorem y_PO.tr {r s s' : z_M} (h : y_PO r s) (f : s 309 6 = 0) (h2 : y_PO s s') (e3 : s 309 3 = r 309 3) (k : ∀ b, s 311 b = r 311 b) : y_PO r s' := fun g o => by
  obtain ⟨g', w, o'⟩ := (h g o).1 f
  have e : (fun i => s 311 i) = fun i => r 311 i := funext k
  obtain ⟨x, y⟩ := h2 g' o'
  refine ⟨fun z => ?_, fun z => y_FA.tr k e3 w (y z)⟩
  obtain ⟨g2, w2, o2⟩ := x z
  rw [e] at w2
  exact ⟨g2, w.tr w2, o2⟩
/-- behind the group's bases: no ';' is to be read -/
def y_G2 (r s : z_M) : Prop := ∃ nb, y_GL r s nb ∧ (s 309 6 ≠ 0 ∨ y_hr s ≠ 59)
theorem y_G2.mk {r s : z_M} {nb : Int} (h : y_GL r s nb) (f : s 309 6 ≠ 0 ∨ y_hr s ≠ 59) : y_G2 r s := ⟨nb, h, f⟩
theorem y_G2.f {r s : z_M} (h : y_G2 r s) (f : s 309 6 ≠ 0) : y_GE r s := by
  obtain ⟨nb, h, _⟩ := h
  exact y_GE.f h f
theorem y_G2.y {r s : z_M} (h : y_G2 r s) (f : s 309 6 = 0) (hc : y_hr s = 125) (hl : s 309 4 < s 309 3) : y_GE r s := by
  obtain ⟨nb, h, _⟩ := h
  exact y_GE.y h f hc hl
theorem y_G2.w {r s s' : z_M} (h : y_G2 r s) (f : s 309 6 = 0) (hc : y_hr s ≠ 125) (k : ∀ b, s 311 b = r 311 b) (e3 : s 309 3 = r 309 3) (hle : s 309 4 ≤ s 309 3) (e6 : s' 309 6 = 1) (e7 : s' 309 7 = s 309 4) : y_GE r s' := by
  obtain ⟨nb, h, o⟩ := h
  exact y_GE.w h f ⟨hc, o.resolve_left (fun z => z f)⟩ k e3 hle e6 e7
theorem y_kih (c : Int) : 0 ≤ c ∨ y_ki c = -1 := by
  have := y_ki_cases c
  unfold y_alo y_sml y_big at this
  omega
/-! what stores leave of groups and letters -/
theorem y_GV.mk {r s s' : z_M} {a B d i v : Int} (g : ∀ x b : Int, x ≠ 3020 + a → s x b = r x b) (g2 : ∀ b : Int, b ≠ i → s (3020 + a) b = r (3020 + a) b) (e : s (3020 + a) i = v) (hi : i = 10 * d) (hB : B = a) (f : ∀ x b : Int, x ≠ 309 → s' x b = s x b) (ha : 0 ≤ a ∧ a ≤ 199) : y_GV r s' B d v := by
  subst hi; subst hB
  refine ⟨fun b => ?_, ?_, fun c b p q w _ => ?_⟩
  · rw [f _ _ (by decide), g _ _ (by omega)]
  · rw [f _ _ (by omega)]; exact e
  · rw [f _ _ (by omega)]
    by_cases z : c = 3020 + B
    · subst z
      rcases w with w | w
      · exact absurd rfl w
      · exact g2 b w
    · exact g c b z
theorem y_GV.let {s s1 s2 s3 : z_M} {c i i2 : Int} (g1 : ∀ x b : Int, x ≠ c → s1 x b = s x b) (p1 : ∀ b : Int, b ≠ i → s1 c b = s c b) (g2 : ∀ x b : Int, x ≠ c → s2 x b = s1 x b) (p2 : ∀ b : Int, b ≠ i2 → s2 c b = s1 c b) (g3 : ∀ x b : Int, x ≠ 309 → s3 x b = s2 x b) (hc : 3020 ≤ c) (hi : i2 ≠ 0 ∧ i2 ≠ 10) : (∀ b, s3 404 b = s 404 b) ∧ ∀ c' b : Int, 3020 ≤ c' → c' ≤ 3219 → (c' ≠ c ∨ b ≠ i) → (b = 0 ∨ b = 10) → s3 c' b = s c' b := by
  refine ⟨fun b => ?_, fun c' b p q w z => ?_⟩
  · rw [g3 _ _ (by decide), g2 _ _ (by omega), g1 _ _ (by omega)]
  · rw [g3 _ _ (by omega)]
    by_cases y : c' = c
    · subst y
      rw [p2 b (by omega)]
      rcases w with w | w
      · exact absurd rfl w
      · exact p1 b w
    · rw [g2 _ _ y, g1 _ _ y]
theorem y_GJ.mk {s s1 s2 s3 : z_M} {b gr : Int} (g1 : ∀ x c : Int, x ≠ 404 → s1 x c = s x c) (p1 : ∀ c : Int, c ≠ b → s1 404 c = s 404 c) (e1 : s1 404 b = gr) (g2 : ∀ x c : Int, x ≠ 3020 + b → s2 x c = s1 x c) (e2 : s2 (3020 + b) 10 = 0) (g3 : ∀ x c : Int, x ≠ 329 → s3 x c = s2 x c) (hb : 0 ≤ b ∧ b ≤ 199) : y_GJ s s3 b gr := by
  refine ⟨?_, ?_, fun c p q => ⟨?_, ?_, ?_⟩⟩
  · rw [g3 _ _ (by decide), g2 _ _ (by omega), e1]
  · rw [g3 _ _ (by omega), e2]
  · rw [g3 _ _ (by decide), g2 _ _ (by omega), p1 _ (by omega)]
  · rw [g3 _ _ (by omega), g2 _ _ (by omega), g1 _ _ (by omega)]
  · rw [g3 _ _ (by omega), g2 _ _ (by omega), g1 _ _ (by omega)]
theorem y_gd_1 {s : z_M} {n i v x : Int} (e1 : s 329 1 = n) (h : n ≠ 0) (e3 : s 404 i = v) (e2 : i = n - 1) (e4 : x = v + 1) : x = y_gd s := by
  subst e1; subst e2; subst e3
  unfold y_gd
  rw [if_neg h, e4]
theorem y_gd_0 {s : z_M} {x : Int} (e1 : s 329 1 = 0) (e4 : x = 0) : x = y_gd s := by
  unfold y_gd
  rw [if_pos e1, e4]
