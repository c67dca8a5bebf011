/-! READING, 6b: a reading's letters -/
theorem y_XQ.s {g s s' : z_M} {B d n : Int} (h : y_XQ g s B d n) (k : y_SD s s') (q : y_GS s s') (hB : 0 ≤ B ∧ B ≤ 199) : y_XQ g s' B d n := by
  have z0 := q.2 (3020 + B) 0 (by omega) (by omega)
  have z10 := q.2 (3020 + B) 10 (by omega) (by omega)
  unfold y_XQ
  rw [z0, z10, k.1, k.2.2.2.2.1 |> fun w => (funext w : s' 374 = s 374), (funext k.2.2.2.1 : s' 359 = s 359)]
  exact h
theorem y_XO.sd {g s s' : z_M} {B c : Int} (h : y_XO g s B c) (k : y_SD s s') (q : y_GS s s') (hB : B ≤ 200) : y_XO g s' B c :=
  h.s (Int.le_refl _) k.1 k.2.2.2.1 k.2.2.2.2.1 (fun b p z => ⟨q.1 b, q.2 _ _ (by omega) (by omega), q.2 _ _ (by omega) (by omega)⟩)
theorem y_IR.s {g s s' : z_M} {d n nb gr : Int} (h : y_IR g s d n nb gr) (k : y_SD s s') (q : y_GS s s') (e : s' 329 1 = s 329 1) : y_IR g s' d n nb gr := by
  obtain ⟨h1, h2, h3, h4, h6, h5, hb, hx, hy, xc, e4, xq⟩ := h
  unfold y_IR
  rw [e, k.1, q.1]
  exact ⟨h1, h2, h3, h4, h6, h5.s k, hb, hx.sd k q (by omega), hy, xc.s k.1 k.2.2.2.1 k.2.2.2.2.1, e4, xq.s k q (by omega)⟩
/-- the fault of s, told by the class's steps from the ghost g at r's place on -/
def y_FA (r g s : z_M) : Prop := ∃ g', y_W (fun i => r 311 i) (r 309 4) g (s 309 7) g' ∧ ((s 309 7 < r 309 3 ∧ (y_st g' (r 311 (s 309 7))).1 = s 309 6) ∨ (s 309 7 = r 309 3 ∧ g' 32 1 ≠ 0 ∧ s 309 6 = 1))
def y_S0 (r g : z_M) (d nb gr : Int) : Prop := (d = 0 ∧ y_JB g r nb gr) ∨ (d = 1 ∧ ∃ n, 1 ≤ n ∧ y_IR g r 0 n nb gr)
def y_R1 (r s : z_M) (d : Int) : Prop := ∀ g nb gr, y_S0 r g d nb gr → ∃ g', y_W (fun i => r 311 i) (r 309 4) g (s 309 4) g' ∧ y_IR g' s d 0 nb gr
theorem y_R1.mk {r s : z_M} {d : Int} (sd : y_SD r s) (h1 : s 329 1 = r 329 1) (ha : s 309 4 = r 309 4 + 1) (hc : r 311 (r 309 4) = 124) (q : y_GV r s (r 329 1 - 1) d 0) : y_R1 r s d := fun g nb gr h => by
  rcases h with ⟨rfl, h⟩ | ⟨rfl, n, hn, h⟩
  · have t := t_bar (p := s 309 4) h hc sd h1 q
    exact ⟨_, y_W.one t.1 rfl ha, t.2⟩
  · have t := t_br2 (p := s 309 4) h hn hc sd h1 q
    exact ⟨_, y_W.one t.1 rfl ha, t.2⟩
def y_RL (r s : z_M) (c d : Int) : Prop := ∀ g nb gr, y_S0 r g d nb gr → (s 309 6 = 0 → ∃ g', y_W (fun i => r 311 i) (r 309 4) g (s 309 4) g' ∧ y_IR g' s d (s c (10 * d)) nb gr ∧ 0 ≤ s c (10 * d) ∧ (1 ≤ s c (10 * d) ∨ y_sml (y_hr s))) ∧ (s 309 6 ≠ 0 → y_FA r g s)
theorem y_RL.cg {r s : z_M} {c d c' d' : Int} (h : y_RL r s c d) (e : c' = c) (e2 : d' = d) : y_RL r s c' d' := by subst e; subst e2; exact h
theorem y_RL.s {r s : z_M} {c d i : Int} (h : y_R1 r s d) (hf : s 309 6 = 0) (hi : i = 10 * d) (e : s c i = 0) (hs : y_sml (y_hr s)) : y_RL r s c d := fun g nb gr q => by
  subst hi
  obtain ⟨g', w, k⟩ := h g nb gr q
  refine ⟨fun _ => ⟨g', w, by rw [e]; exact k, by omega, Or.inr hs⟩, fun z => absurd hf z⟩
/-- what is to be read, by the place -/
theorem y_hr_at {s : z_M} (h : s 309 4 < s 309 3) : y_hr s = s 311 (s 309 4) := if_pos h
theorem y_RL.w {r s s' : z_M} {c d : Int} (h : y_R1 r s d) (hs : ¬ y_sml (y_hr s)) (e6 : s' 309 6 = 1) (e7 : s' 309 7 = s 309 4) (e3 : s 309 3 = r 309 3) (hle : s 309 4 ≤ s 309 3) (k : ∀ b, s 311 b = r 311 b) : y_RL r s' c d := fun g nb gr q => by
  obtain ⟨g', w, m⟩ := h g nb gr q
  refine ⟨fun z => by omega, fun _ => ⟨g', by rw [e7]; exact w, ?_⟩⟩
  by_cases p : s 309 4 < s 309 3
  · refine Or.inl ⟨by omega, ?_⟩
    rw [e7, e6]
    have : r 311 (s 309 4) = y_hr s := by rw [y_hr_at p, k]
    rw [this]
    exact f_R0 m hs rfl
  · refine Or.inr ⟨by omega, ?_, e6⟩
    rw [m.1]; decide
theorem y_RL.w9 {r s s' : z_M} {c d c' d' i : Int} (h : y_RL r s c d) (h0 : s 309 6 = 0) (hs : y_sml (y_hr s)) (hi : i = 10 * d) (e : s c i = 9) (e6 : s' 309 6 = 1) (e7 : s' 309 7 = s 309 4) (e3 : s 309 3 = r 309 3) (k : ∀ b, s 311 b = r 311 b) (hl : s 309 4 < s 309 3) (hd : d' = d) : y_RL r s' c' d' := fun g nb gr q => by
  subst hi; subst hd
  obtain ⟨g', w, m, _, _⟩ := (h g nb gr q).1 h0
  refine ⟨fun z => by omega, fun _ => ⟨g', by rw [e7]; exact w, Or.inl ⟨by omega, ?_⟩⟩⟩
  rw [e7, e6]
  have : r 311 (s 309 4) = y_hr s := by rw [y_hr_at hl, k]
  rw [this]
  exact f_R9 m hs e
theorem y_RL.let {r s s' : z_M} {c d i : Int} (h : y_RL r s c d) (h0 : s 309 6 = 0) (h0' : s' 309 6 = 0) (hs : y_sml (y_hr s)) (hi : i = 10 * d) (e : s' c i = s c i + 1) (h8 : s c i ≤ 8) (ha : s' 309 4 = s 309 4 + 1) (hl : s 309 4 < s 309 3) (k : ∀ b, s 311 b = r 311 b) (sd : y_SD s s') (h1 : s' 329 1 = s 329 1) (cs : z_CI s) (hc : c = 3019 + s 329 1) (gv : (∀ b, s' 404 b = s 404 b) ∧ ∀ c' b : Int, 3020 ≤ c' → c' ≤ 3219 → (c' ≠ c ∨ b ≠ i) → (b = 0 ∨ b = 10) → s' c' b = s c' b) : y_RL r s' c d := fun g nb gr q => by
  subst hi
  obtain ⟨g', w, m, hn, _⟩ := (h g nb gr q).1 h0
  have : r 311 (s 309 4) = y_hr s := by rw [y_hr_at hl, k]
  have ec : (3020 + (s 329 1 - 1) : Int) = c := by omega
  have t := t_let (p := s' 309 4) m cs hs ⟨hn, by omega⟩ sd h1 ⟨gv.1, by rw [ec]; exact e, fun c' b x y z w => gv.2 c' b x y (by rw [ec] at z; exact z) w⟩
  refine ⟨fun _ => ⟨_, w.tr (y_W.one t.1 this ha), ?_, by omega, Or.inl (by omega)⟩, fun z => absurd h0' z⟩
  rw [e]
  exact t.2
def y_PR (r s : z_M) (d : Int) : Prop := ∀ g nb gr, y_S0 r g d nb gr → (s 309 6 = 0 → ∃ g' n, 1 ≤ n ∧ y_W (fun i => r 311 i) (r 309 4) g (s 309 4) g' ∧ y_IR g' s d n nb gr ∧ ¬ y_sml (y_hr s)) ∧ (s 309 6 ≠ 0 → y_FA r g s)
theorem y_PR.cg {r s : z_M} {d d' : Int} (h : y_PR r s d) (e2 : d' = d) : y_PR r s d' := by subst e2; exact h
theorem y_PR.f {r s : z_M} {c d d' : Int} (h : y_RL r s c d) (hd : d' = d) (e : s 309 6 ≠ 0) : y_PR r s d' := fun g nb gr q => by
  subst hd; exact ⟨fun z => absurd z e, (h g nb gr q).2⟩
theorem y_PR.n {r s : z_M} {c d d' : Int} (h : y_RL r s c d) (hd : d' = d) (e : s 309 6 = 0) (hs : y_hr s < 97 ∨ 122 < y_hr s) : y_PR r s d' := fun g nb gr q => by
  subst hd
  refine ⟨fun z => ?_, fun z => absurd e z⟩
  obtain ⟨g', w, m, hn, o⟩ := (h g nb gr q).1 z
  have n0 : ¬ y_sml (y_hr s) := by unfold y_sml; omega
  exact ⟨g', _, o.resolve_right n0, w, m, n0⟩
