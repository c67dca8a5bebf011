/-! READING, 6c: a base -/
theorem y_hr_cg {s s' : z_M} (k : ∀ b, s' 311 b = s 311 b) (e4 : s' 309 4 = s 309 4) (e3 : s' 309 3 = s 309 3) : y_hr s' = y_hr s := by
  unfold y_hr; rw [e4, e3, k]
theorem y_FA.tr {r s1 g g1 s : z_M} (k : ∀ b, s1 311 b = r 311 b) (e3 : s1 309 3 = r 309 3) (w : y_W (fun i => r 311 i) (r 309 4) g (s1 309 4) g1) (h : y_FA s1 g1 s) : y_FA r g s := by
  obtain ⟨g', w2, o⟩ := h
  have e : (fun i => s1 311 i) = fun i => r 311 i := funext k
  rw [e] at w2
  refine ⟨g', w.tr w2, ?_⟩
  rw [e3, k] at o
  exact o
/-- a fault at s's place, from a ghost there -/
theorem y_FA.here {r s s' g g' : z_M} (w : y_W (fun i => r 311 i) (r 309 4) g (s 309 4) g') (k : ∀ b, s 311 b = r 311 b) (e3 : s 309 3 = r 309 3) (hle : s 309 4 ≤ s 309 3) (e6 : s' 309 6 = 1) (e7 : s' 309 7 = s 309 4) (h0 : g' 32 1 ≠ 0) (h : (y_st g' (y_hr s)).1 = 1) : y_FA r g s' := by
  refine ⟨g', by rw [e7]; exact w, ?_⟩
  by_cases p : s 309 4 < s 309 3
  · refine Or.inl ⟨by omega, ?_⟩
    rw [e7, e6]
    have : r 311 (s 309 4) = y_hr s := by rw [y_hr_at p, k]
    rw [this]; exact h
  · exact Or.inr ⟨by omega, h0, e6⟩
def y_nb (nb : Int) : Prop := 0 ≤ nb ∧ nb < 4
def y_BLp (r s : z_M) (b n : Int) : Prop := ∀ g nb gr, y_nb nb → y_BD g r nb gr → (s 309 6 = 0 → (n = 0 → ∃ g', y_W (fun i => r 311 i) (r 309 4) g (s 309 4) g' ∧ y_BD g' s nb gr) ∧ (1 ≤ n → ∃ g', y_W (fun i => r 311 i) (r 309 4) g (s 309 4) g' ∧ y_IB g' s n (nb + 1) b gr)) ∧ (s 309 6 ≠ 0 → y_FA r g s)
theorem y_BLp.cg {r s : z_M} {b n b' n' : Int} (h : y_BLp r s b n) (e : b' = b) (e2 : n' = n) : y_BLp r s b' n' := by subst e; subst e2; exact h
theorem y_BLp.z {r : z_M} {b n : Int} (hn : n = 0) (h0 : r 309 6 = 0) : y_BLp r r b n := fun g nb gr _ h => ⟨fun _ => ⟨fun _ => ⟨g, y_W.rf, h⟩, fun q => by omega⟩, fun q => absurd h0 q⟩
theorem y_BLp.w {r s' : z_M} {b n : Int} (hs : ¬ y_big (y_hr r)) (hle : r 309 4 ≤ r 309 3) (e6 : s' 309 6 = 1) (e7 : s' 309 7 = r 309 4) : y_BLp r s' b n := fun g nb gr _ h =>
  ⟨fun z => by omega, fun _ => y_FA.here y_W.rf (fun _ => rfl) rfl hle e6 e7 (by rw [h.1]; decide) (f_D1 h (Or.inr hs))⟩
theorem y_BLp.w3 {r s s' : z_M} {b n b' n' : Int} (h : y_BLp r s b n) (h0 : s 309 6 = 0) (hn : n = 3) (hs : y_big (y_hr s)) (k : ∀ b, s 311 b = r 311 b) (e3 : s 309 3 = r 309 3) (hle : s 309 4 ≤ s 309 3) (e6 : s' 309 6 = 1) (e7 : s' 309 7 = s 309 4) : y_BLp r s' b' n' := fun g nb gr q m => by
  obtain ⟨g', w, i⟩ := ((h g nb gr q m).1 h0).2 (by omega)
  exact ⟨fun z => by omega, fun _ => y_FA.here w k e3 hle e6 e7 (by rw [i.1]; decide) (f_I1 i (by unfold y_big at hs; omega) (Or.inl hn))⟩
theorem y_BLp.add {r s s' : z_M} {b n n' : Int} (h : y_BLp r s b n) (as : y_AS s s' 7 b) (c : z_CI s) (k : ∀ b, s 311 b = r 311 b) (e3 : s 309 3 = r 309 3) (hn : n' = n + 1) (h0 : 0 ≤ n) (hd : s 329 1 = b) (hf : s 309 6 ≠ 0 ∨ (n ≤ 2 ∧ y_big (y_hr s) ∧ s 309 4 < s 309 3)) (ha : s' 309 6 ≠ 0 ∨ s' 309 4 = s 309 4 + 1) (hb : 0 ≤ b) (hb2 : b ≤ s 329 0) : y_BLp r s' b n' := fun g nb gr q m => by
  subst hn
  by_cases f : s 309 6 = 0
  · obtain ⟨f1, f2, f3⟩ := hf.resolve_left (fun z => z f)
    have ec : r 311 (s 309 4) = y_hr s := by rw [y_hr_at f3, k]
    have ec2 : y_hr s = s 311 (s 309 4) := y_hr_at f3
    obtain ⟨p0, p1⟩ := (h g nb gr q m).1 f
    by_cases f' : s' 309 6 = 0
    · have ma := as.2.1 f f'
      have m3 := ma.2.2.2.1
      have ha' := ha.resolve_left (fun z => z f')
      refine ⟨fun _ => ⟨fun z => by omega, fun _ => ?_⟩, fun z => absurd f' z⟩
      by_cases n0 : n = 0
      · obtain ⟨g', w, i⟩ := p0 n0
        have t := t_bas (p := s' 309 4) i c f2 q ec2 (by rw [hd]; exact ma) (by omega) (by omega) as.2.2.2
        refine ⟨_, w.tr (y_W.one t.1 ec ha'), ?_⟩
        rw [n0, show (0 : Int) + 1 = 1 by decide, ← hd]
        exact t.2
      · obtain ⟨g', w, i⟩ := p1 (by omega)
        have t := t_inb (p := s' 309 4) i c f2 ⟨h0, by omega⟩ ec2 ma as.2.2.2
        exact ⟨_, w.tr (y_W.one t.1 ec ha'), t.2⟩
    · obtain ⟨a1, a2, a3, a4, a5⟩ := as.2.2.1 f f'
      refine ⟨fun z => absurd z f', fun _ => ?_⟩
      by_cases n0 : n = 0
      · obtain ⟨g', w, i⟩ := p0 n0
        refine ⟨g', by rw [a2]; exact w, Or.inl ⟨by omega, ?_⟩⟩
        rw [a2, a1, ec]
        exact f_D2 i (by have := q.2; omega) f2 a3
      · obtain ⟨g', w, i⟩ := p1 (by omega)
        refine ⟨g', by rw [a2]; exact w, Or.inl ⟨by omega, ?_⟩⟩
        rw [a2, a1, ec]
        exact f_I2 i (by omega) f2 a3
  · obtain ⟨a1, a2⟩ := as.1 f
    refine ⟨fun z => absurd (a1.symm.trans z) f, fun _ => ?_⟩
    obtain ⟨g', w, o⟩ := (h g nb gr q m).2 f
    exact ⟨g', by rw [a2]; exact w, by rw [a2, a1]; exact o⟩
def y_BMp (r s : z_M) (b : Int) : Prop := ∀ g nb gr, y_nb nb → y_BD g r nb gr → (s 309 6 = 0 → ∃ g' n, y_W (fun i => r 311 i) (r 309 4) g (s 309 4) g' ∧ y_IB g' s n (nb + 1) b gr ∧ ¬ y_big (y_hr s)) ∧ (s 309 6 ≠ 0 → y_FA r g s)
theorem y_BMp.cg {r s : z_M} {b b' : Int} (h : y_BMp r s b) (e : b' = b) : y_BMp r s b' := by subst e; exact h
theorem y_BMp.f {r s : z_M} {b n b' : Int} (h : y_BLp r s b n) (e : b' = b) (f : s 309 6 ≠ 0) : y_BMp r s b' := fun g nb gr q m => by
  subst e; exact ⟨fun z => absurd z f, (h g nb gr q m).2⟩
theorem y_BMp.n {r s : z_M} {b n b' : Int} (h : y_BLp r s b n) (e : b' = b) (f : s 309 6 = 0) (hn : 1 ≤ n) (hs : y_hr s < 65 ∨ 90 < y_hr s) : y_BMp r s b' := fun g nb gr q m => by
  subst e
  refine ⟨fun z => ?_, fun z => absurd f z⟩
  obtain ⟨g', w, i⟩ := ((h g nb gr q m).1 z).2 hn
  exact ⟨g', n, w, i, by unfold y_big; omega⟩
def y_BNp (r s : z_M) (b : Int) : Prop := ∀ g nb gr, y_nb nb → y_BD g r nb gr → (s 309 6 = 0 → ∃ g' n, y_W (fun i => r 311 i) (r 309 4) g (s 309 4) g' ∧ y_IB g' s n (nb + 1) b gr) ∧ (s 309 6 ≠ 0 → y_FA r g s)
theorem y_BNp.cg {r s : z_M} {b b' : Int} (h : y_BNp r s b) (e : b' = b) : y_BNp r s b' := by subst e; exact h
theorem y_BNp.m {r s : z_M} {b b' : Int} (h : y_BMp r s b) (e : b' = b) : y_BNp r s b' := fun g nb gr q m => by
  subst e
  refine ⟨fun z => ?_, (h g nb gr q m).2⟩
  obtain ⟨g', n, w, i, _⟩ := (h g nb gr q m).1 z
  exact ⟨g', n, w, i⟩
theorem y_BNp.w {r s s' : z_M} {b b' : Int} (h : y_BMp r s b) (f : s 309 6 = 0) (hc : y_hr s ≠ 124) (k : ∀ b, s 311 b = r 311 b) (e3 : s 309 3 = r 309 3) (hle : s 309 4 ≤ s 309 3) (e6 : s' 309 6 = 1) (e7 : s' 309 7 = s 309 4) : y_BNp r s' b' := fun g nb gr q m => by
  obtain ⟨g', n, w, i, o⟩ := (h g nb gr q m).1 f
  exact ⟨fun z => by omega, fun _ => y_FA.here w k e3 hle e6 e7 (by rw [i.1]; decide) (f_I1 i hc (Or.inr o))⟩
def y_Q1 (r s : z_M) (gr : Int) : Prop := ∀ g nb, y_nb nb → y_BD g r nb gr → (s 309 6 = 0 → ∃ g' n, 1 ≤ n ∧ y_W (fun i => r 311 i) (r 309 4) g (s 309 4) g' ∧ y_IR g' s 0 n (nb + 1) gr ∧ ¬ y_sml (y_hr s)) ∧ (s 309 6 ≠ 0 → y_FA r g s)
theorem y_Q1.mk {r s s1 s' : z_M} {b gr : Int} (h : y_BNp r s b) (f : s 309 6 = 0) (pr : y_PR s1 s' 0) (sd : y_SD s s1) (e1 : s1 329 1 = b + 1) (e4 : s1 309 4 = s 309 4) (e3 : s1 309 3 = r 309 3) (k : ∀ b, s1 311 b = r 311 b) (gj : y_GJ s s1 b gr) : y_Q1 r s' gr := fun g nb q m => by
  obtain ⟨g', n, w, i⟩ := (h g nb gr q m).1 f
  have j := t_jb i sd e1 gj
  have e : (fun i => s1 311 i) = fun i => r 311 i := funext k
  rw [← e4] at w
  obtain ⟨x, y⟩ := pr g' (nb + 1) gr (Or.inl ⟨rfl, j⟩)
  refine ⟨fun z => ?_, fun z => y_FA.tr k e3 w (y z)⟩
  obtain ⟨g2, n2, o1, o2, o3, o4⟩ := x z
  rw [e] at o2
  exact ⟨g2, n2, o1, w.tr o2, o3, o4⟩
def y_PB (r s : z_M) (gr : Int) : Prop := ∀ g nb, y_nb nb → y_BD g r nb gr → (s 309 6 = 0 → ∃ g' d n, 1 ≤ n ∧ y_W (fun i => r 311 i) (r 309 4) g (s 309 4) g' ∧ y_IR g' s d n (nb + 1) gr ∧ ¬ y_sml (y_hr s) ∧ ¬ (y_hr s = 124 ∧ d = 0)) ∧ (s 309 6 ≠ 0 → y_FA r g s)
theorem y_PB.f0 {r s : z_M} {b gr : Int} (h : y_BNp r s b) (f : s 309 6 ≠ 0) : y_PB r s gr := fun g nb q m => ⟨fun z => absurd z f, (h g nb gr q m).2⟩
theorem y_PB.cg {r s : z_M} {gr gr' : Int} (h : y_PB r s gr) (e : gr' = gr) : y_PB r s gr' := by subst e; exact h
theorem y_Q1.cg {r s : z_M} {gr gr' : Int} (h : y_Q1 r s gr) (e : gr' = gr) : y_Q1 r s gr' := by subst e; exact h
theorem y_PB.f1 {r s : z_M} {gr gr' : Int} (h : y_Q1 r s gr) (f : s 309 6 ≠ 0) (e : gr' = gr) : y_PB r s gr' := by subst e; exact fun g nb q m => ⟨fun z => absurd z f, (h g nb q m).2⟩
theorem y_PB.n1 {r s : z_M} {gr gr' : Int} (h : y_Q1 r s gr) (f : s 309 6 = 0) (hc : y_hr s ≠ 124) (e : gr' = gr) : y_PB r s gr' := by
  subst e
  intro g nb q m
  refine ⟨fun z => ?_, fun z => absurd f z⟩
  obtain ⟨g', n, o1, o2, o3, o4⟩ := (h g nb q m).1 z
  exact ⟨g', 0, n, o1, o2, o3, o4, fun y => hc y.1⟩
theorem y_PB.two {r s s' : z_M} {gr : Int} (h : y_Q1 r s gr) (f : s 309 6 = 0) (pr : y_PR s s' 1) (e3 : s 309 3 = r 309 3) (k : ∀ b, s 311 b = r 311 b) : y_PB r s' gr := fun g nb q m => by
  obtain ⟨g', n, o1, w, i, _⟩ := (h g nb q m).1 f
  have e : (fun i => s 311 i) = fun i => r 311 i := funext k
  obtain ⟨x, y⟩ := pr g' (nb + 1) gr (Or.inr ⟨rfl, n, by omega, i⟩)
  refine ⟨fun z => ?_, fun z => y_FA.tr k e3 w (y z)⟩
  obtain ⟨g2, n2, p1, p2, p3, p4⟩ := x z
  rw [e] at p2
  exact ⟨g2, 1, n2, p1, w.tr p2, p3, p4, fun y => by have := y.2; omega⟩
