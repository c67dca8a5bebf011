/-! BOTH SIDES, call by call -/
theorem y_XI {k z : Int} (q : vX k = vI z) : False := absurd (show (6 : Nat) = 0 from congrArg Prod.fst q) (by decide)
theorem y_TT.src {r r' s : z_M} (h : y_TT r s) (k : ∀ a b : Int, 309 ≤ a → a ≤ 7657 → r a b = r' a b) : y_TT r' s := fun j p q => (h j p q).src (by omega) k
theorem y_RS2.id {r s : z_M} {t : Int} (ht : 0 ≤ t ∧ t ≤ 13) (k : ∀ a b : Int, 309 ≤ a → a ≤ 7657 → s a b = r a b) : y_RS2 r s t t :=
  ⟨k _ _ (by omega) (by omega), k _ _ (by omega) (by omega), k _ _ (by omega) (by omega), fun b _ _ => ⟨k _ _ (by omega) (by omega), k _ _ (by omega) (by omega), k _ _ (by omega) (by omega), k _ _ (by omega) (by omega)⟩, y_RGL.fr ht (fun a b q => k a b (by omega) (by omega)) (fun a b q => k a b (by omega) (by omega))⟩
theorem y_XT.g {g g' s : z_M} {t : Int} (h : y_XT g 19 s t) (k : ∀ a b : Int, a ≠ 32 → g' a b = g a b) : y_XT g' 19 s t := by
  have e : ∀ a : Int, a ≠ 32 → g' a = g a := fun a q => funext fun b => k a b q
  unfold y_XT
  rw [e (19 + 6) (by decide), e (19 + 8) (by decide), e (19 + 10) (by decide), e (19 + 12) (by decide), e (19 + 4) (by decide), e 19 (by decide)]
  exact h
theorem y_Uu.cls {s s' : z_M} (h : y_Uu s) (f : ∀ a b : Int, a ≤ 308 → s' a b = s a b) : y_Uu s' :=
  h.fr (f _ _ (by decide)) (f _ _ (by decide)) (fun b => f _ b (by decide)) (fun b => f _ b (by decide)) (fun b => f _ b (by decide)) (fun b => f _ b (by decide)) (fun b => f _ b (by decide)) (fun b => f _ b (by decide)) (fun b => f _ b (by decide))
theorem y_V16.cls {s s' : z_M} (h : y_V16 s) (f : ∀ a b : Int, a ≤ 308 → s' a b = s a b) : y_V16 s' :=
  h.fr (f _ _ (by decide)) (f _ _ (by decide)) (f _ _ (by decide)) (fun b => f _ b (by decide)) (fun b => f _ b (by decide)) (fun b => f _ b (by decide)) (fun b => f _ b (by decide)) (fun b => f _ b (by decide)) (fun b => f _ b (by decide)) (fun b => f _ b (by decide))
/-- a reading that is asked for as it may be -/
theorem j_read {s s0 s1 s2 : z_M} {n y : Int} {v0 : z_V} {G : z_M → Prop} (X : y_XX s) (c : z_CI s) (pu : y_PU s2) (fC : ∀ a b : Int, 309 ≤ a → a ≤ 7657 → s1 a b = s a b) (fM : ∀ a b : Int, a ≤ 308 → s2 a b = s1 a b) (f0 : ∀ a b : Int, a ≤ 308 → s1 a b = s0 a b) (hn : 0 ≤ n ∧ n ≤ s 1 12) (oc : ∀ gg, G gg → y_OC s1 s2 n y (y_g0 gg)) (C : y_CX s n G v0 s0) (tp1 : s2 1 12 = 0) (tp2 : s2 309 2 = 0) : y_XX s2 ∧ v0 = vI y := by
  have nn := y_NN.of c
  rcases C with ⟨C, _⟩ | ⟨_, x, w, g, s', rfl, hG, hrd, ce, hu⟩
  · exact absurd hn C
  have o := oc g hG
  have hb : ∀ i : Int, 0 ≤ i → i < n → (fun i => s 5 i) i = s1 311 i := fun i p q => by
    show s 5 i = s1 311 i
    rw [fC _ _ (by decide) (by decide)]; exact X.2.2.1.2 i p (by omega)
  have f02 : ∀ a b : Int, a ≤ 308 → s2 a b = s0 a b := fun a b q => (fM a b q).trans (f0 a b q)
  have tape : s2 1 12 = s2 309 2 ∧ ∀ i : Int, 0 ≤ i → i < s2 1 12 → s2 5 i = s2 311 i := ⟨by omega, fun i p q => by omega⟩
  rcases y_rd_oc hb z_up_s hrd o with ⟨hv, y0, e7, tt, e19⟩ | ⟨hv, e5, gc, tx, xt, ey, sk⟩
  · have hw : w = y + 10 := by
      injection hv with h1 h2
    rcases ce with ⟨w0, ex, e13, sm⟩ | ⟨w0, _⟩
    · refine ⟨y_XX.same X c (fun a b q => (f02 a b (by omega)).trans (sm a b q)) (tt.src fC) (e19.trans (fC _ _ (by decide) (by decide))) tape ?_, ?_⟩
      · rw [f02 _ _ (by decide), e13, e7]
      · rw [ex, hw]; congr 1; omega
    · omega
  · have hw : w = 0 := by
      injection hv with h1 h2
    rcases ce with ⟨w0, _⟩ | ⟨_, ex, e13, te, hk⟩
    · exact absurd hw w0
    · have te2 : y_TE s' s2 6 19 := te.dst (fun a b q => f02 a b (by omega))
      have t2 : y_T2 s2 6 s2 0 := ⟨tx.tc te2, by rw [te2.2.1, te2.1]; exact gc, xt.tc te2 tx.1⟩
      have hk1 : y_HKc s s1 := hk.to (fun a b q => f0 a b (by omega)) X.2.1.1
      have hi := X.2.1.keep X.1 c hk1 sk fC fM
      refine ⟨⟨t2, hi, tape, by rw [f02 _ _ (by decide), e13, e5]⟩, ?_⟩
      have eu := t2.1.EU (hu.cls f02) pu
      rw [ex, ey, ← f02 191 16 (by decide), eu.1]
theorem j_text {s s0 s1 s2 : z_M} {n x y : Int} {v0 : z_V} (X : y_XX s) (c : z_CI s) (pu : y_PU s2) (fC : ∀ a b : Int, 309 ≤ a → a ≤ 7657 → s1 a b = s a b) (fM : ∀ a b : Int, a ≤ 308 ∨ a = 7658 → s2 a b = s1 a b) (f0 : ∀ a b : Int, a ≤ 308 → s1 a b = s0 a b) (C : y_CX s n (fun g => g 19 6 = 0 ∧ g 19 7 = 0 ∧ g 19 8 = 0) v0 s0) (hx : (v0 = vX 1 ∧ x = 1) ∨ ∃ z, v0 = vI z ∧ x = 0 ∧ s1 7658 0 = z)
    (tp1 : (0 ≤ n ∧ n ≤ s 1 12 ∧ s1 1 12 = 0) ∨ ((n < 0 ∨ s 1 12 < n) ∧ s1 1 12 = s 1 12)) (tp2 : (0 ≤ n ∧ n ≤ s1 309 2 ∧ s2 309 2 = 0) ∨ ((n < 0 ∨ s1 309 2 < n) ∧ s2 309 2 = s1 309 2)) (t5 : ∀ b, s1 5 b = s 5 b) (m5 : ∀ b, s2 311 b = s1 311 b) (th : (0 ≤ n ∧ n ≤ s1 309 2 ∧ s2 309 0 = 0) ∨ ((n < 0 ∨ s1 309 2 < n) ∧ s2 309 0 = 1)) (M : y_TZ s1 s2 n y) : y_XX s2 ∧ s2 309 0 = x ∧ (x = 0 → s2 7658 0 = y) := by
  have e2 : s1 309 2 = s 1 12 := (fC _ _ (by decide) (by decide)).trans X.2.2.1.1.symm
  rw [e2] at tp2 th
  by_cases h : 0 ≤ n ∧ n ≤ s 1 12
  · have r := j_read X c pu fC (fun a b q => fM a b (Or.inl q)) f0 h (fun gg hg => M.1 ⟨h.1, by rw [e2]; exact h.2⟩ (y_g0 gg) (by unfold y_g0; rw [z_up_j (by decide), z_up_s]) (by unfold y_g0; rw [z_up_k (by decide), z_up_k (by decide)]; exact hg.1) (by unfold y_g0; rw [z_up_k (by decide), z_up_k (by decide)]; exact hg.2.1) (by unfold y_g0; rw [z_up_k (by decide), z_up_k (by decide)]; exact hg.2.2)) C (by rw [fM _ _ (by decide)]; omega) (by omega)
    obtain ⟨r1, r2⟩ := r
    refine ⟨r1, ?_⟩
    rcases hx with ⟨h1, _⟩ | ⟨z, h1, h2, h3⟩
    · rw [h1] at r2; exact (y_XI r2).elim
    · rw [h1] at r2
      have hz : z = y := congrArg Prod.snd r2
      refine ⟨by omega, fun _ => by rw [fM _ _ (by decide), h3, hz]⟩
  · obtain ⟨tt, e19, e5⟩ := M.2 (fun q => h ⟨q.1, by rw [← e2]; exact q.2⟩)
    rcases C with ⟨_, hv, sm, e13⟩ | ⟨C, _⟩
    · refine ⟨y_XX.same X c (fun a b q => (fM a b (by omega)).trans ((f0 a b (by omega)).trans (sm a b q))) (tt.src fC) (e19.trans (fC _ _ (by decide) (by decide))) ⟨?_, fun i p q => ?_⟩ ?_, ?_, ?_⟩
      · rw [fM _ _ (by decide)]; omega
      · rw [fM _ _ (by decide), t5, m5, fC _ _ (by decide) (by decide)]
        rw [fM _ _ (by decide)] at q
        exact X.2.2.1.2 i p (by omega)
      · rw [fM _ _ (by decide), f0 _ _ (by decide), e13, e5, fC _ _ (by decide) (by decide)]; exact X.2.2.2
      · rcases hx with ⟨_, h2⟩ | ⟨z, h1, _⟩
        · omega
        · rw [hv] at h1; exact (y_XI h1).elim
      · rcases hx with ⟨_, h2⟩ | ⟨z, h1, _⟩
        · intro q; omega
        · rw [hv] at h1; exact (y_XI h1).elim
    · exact absurd C h
theorem j_more {s s0 s1 s2 : z_M} {n x y : Int} {v0 : z_V} (X : y_XX s) (c : z_CI s) (pu : y_PU s2) (fC : ∀ a b : Int, 309 ≤ a → a ≤ 7657 → s1 a b = s a b) (fM : ∀ a b : Int, a ≤ 308 ∨ a = 7658 → s2 a b = s1 a b) (f0 : ∀ a b : Int, a ≤ 308 → s1 a b = s0 a b) (C : y_CX s n (fun g => y_TE s g 19 6) v0 s0) (hx : (v0 = vX 1 ∧ x = 1) ∨ ∃ z, v0 = vI z ∧ x = 0 ∧ s1 7658 0 = z)
    (tp1 : (0 ≤ n ∧ n ≤ s 1 12 ∧ s1 1 12 = 0) ∨ ((n < 0 ∨ s 1 12 < n) ∧ s1 1 12 = s 1 12)) (tp2 : (0 ≤ n ∧ n ≤ s1 309 2 ∧ s2 309 2 = 0) ∨ ((n < 0 ∨ s1 309 2 < n) ∧ s2 309 2 = s1 309 2)) (t5 : ∀ b, s1 5 b = s 5 b) (m5 : ∀ b, s2 311 b = s1 311 b) (th : (0 ≤ n ∧ n ≤ s1 309 2 ∧ s2 309 0 = 0) ∨ ((n < 0 ∨ s1 309 2 < n) ∧ s2 309 0 = 1)) (M : y_MZ s1 s2 n y) : y_XX s2 ∧ s2 309 0 = x ∧ (x = 0 → s2 7658 0 = y) := by
  have e2 : s1 309 2 = s 1 12 := (fC _ _ (by decide) (by decide)).trans X.2.2.1.1.symm
  have nn := y_NN.of c
  rw [e2] at tp2 th
  by_cases h : 0 ≤ n ∧ n ≤ s 1 12
  · have go : ∀ gg, y_TE s gg 19 6 → y_OC s1 s2 n y (y_g0 gg) := fun gg hg => by
      have q : ∀ a b : Int, a ≠ 32 → y_g0 gg a b = gg a b := fun a b q => by
        unfold y_g0
        rw [z_up_k q, z_up_k q]
      refine M.1 ⟨h.1, by rw [e2]; exact h.2⟩ (y_g0 gg) (by unfold y_g0; rw [z_up_j (by decide), z_up_s]) ?_ ?_ ?_
      · rw [q _ _ (by decide), q _ _ (by decide), hg.2.1, hg.1]; exact X.1.2.1
      · have t := ((X.1.1.tc hg).rs (y_RS2.id (t := 0) (by decide) fC) (nn 0 (by decide) (by decide)).1)
        rw [show (316 + 0 : Int) = 316 by decide] at t
        rw [fC _ _ (by decide) (by decide)]
        exact t.g q
      · exact ((X.1.2.2.tc hg X.1.1.1).rs (y_RS2.id (t := 0) (by decide) fC) (nn 0 (by decide) (by decide)).1 (nn 0 (by decide) (by decide)).2.2 (nn 0 (by decide) (by decide)).2.1).g q
    have r := j_read X c pu fC (fun a b q => fM a b (Or.inl q)) f0 h go C (by rw [fM _ _ (by decide)]; omega) (by omega)
    obtain ⟨r1, r2⟩ := r
    refine ⟨r1, ?_⟩
    rcases hx with ⟨h1, _⟩ | ⟨z, h1, h2, h3⟩
    · rw [h1] at r2; exact (y_XI r2).elim
    · rw [h1] at r2
      have hz : z = y := congrArg Prod.snd r2
      refine ⟨by omega, fun _ => by rw [fM _ _ (by decide), h3, hz]⟩
  · obtain ⟨tt, e19, e5⟩ := M.2 (fun q => h ⟨q.1, by rw [← e2]; exact q.2⟩)
    rcases C with ⟨_, hv, sm, e13⟩ | ⟨C, _⟩
    · refine ⟨y_XX.same X c (fun a b q => (fM a b (by omega)).trans ((f0 a b (by omega)).trans (sm a b q))) (tt.src fC) (e19.trans (fC _ _ (by decide) (by decide))) ⟨?_, fun i p q => ?_⟩ ?_, ?_, ?_⟩
      · rw [fM _ _ (by decide)]; omega
      · rw [fM _ _ (by decide), t5, m5, fC _ _ (by decide) (by decide)]
        rw [fM _ _ (by decide)] at q
        exact X.2.2.1.2 i p (by omega)
      · rw [fM _ _ (by decide), f0 _ _ (by decide), e13, e5, fC _ _ (by decide) (by decide)]; exact X.2.2.2
      · rcases hx with ⟨_, h2⟩ | ⟨z, h1, _⟩
        · omega
        · rw [hv] at h1; exact (y_XI h1).elim
      · rcases hx with ⟨_, h2⟩ | ⟨z, h1, _⟩
        · intro q; omega
        · rw [hv] at h1; exact (y_XI h1).elim
    · exact absurd C h
theorem j_undo {s s1 s2 : z_M} {x y : Int} (X : y_XX s) (c : z_CI s) (pu : y_PU s2) (fC : ∀ a b : Int, 309 ≤ a → a ≤ 7657 → s1 a b = s a b) (fM : ∀ a b : Int, a ≤ 308 → s2 a b = s1 a b) (C : y_CU8 s (vI x) s1) (tp1 : s1 1 12 = s 1 12) (t5 : ∀ b, s1 5 b = s 5 b) (m2 : s2 309 2 = s1 309 2) (m3 : s2 309 5 = s1 309 5) (m5 : ∀ b, s2 311 b = s1 311 b) (M : y_UZ s1 s2 y) : y_XX s2 ∧ x = y := by
  have tape : s2 1 12 = s2 309 2 ∧ ∀ i : Int, 0 ≤ i → i < s2 1 12 → s2 5 i = s2 311 i := by
    rw [fM _ _ (by decide), m2, tp1, fC _ _ (by decide) (by decide)]
    refine ⟨X.2.2.1.1, fun i p q => ?_⟩
    rw [fM _ _ (by decide), t5, m5, fC _ _ (by decide) (by decide)]
    exact X.2.2.1.2 i p q
  have e19 : s1 309 19 = s 309 19 := fC _ _ (by decide) (by decide)
  have e33 := X.2.1.2.1
  rcases C with ⟨h0, hv, rfl⟩ | ⟨h0, z, hv, ez, hb, hu, e13⟩
  · rcases M with ⟨r0, ey, tt, r1⟩ | ⟨u, _⟩
    · refine ⟨y_XX.same X c (fun a b q => fM a b (by omega)) tt (by omega) tape ?_, ?_⟩
      · rw [fM _ _ (by decide), m3]; exact X.2.2.2
      · have : x = -1 := congrArg Prod.snd hv
        omega
    · have := u.1; omega
  · rcases M with ⟨r0, _⟩ | ⟨u, r1, ey⟩
    · omega
    · obtain ⟨hi, t2⟩ := X.2.1.back c hb u r1 fC fM
      refine ⟨⟨t2, hi, tape, ?_⟩, ?_⟩
      · rw [fM _ _ (by decide), m3, e13, fC _ _ (by decide) (by decide)]; exact X.2.2.2
      · have hz : x = z := congrArg Prod.snd hv
        have eu := t2.1.EU (hu.cls fM) pu
        rw [hz, ez, ey, ← fM 191 16 (by decide), eu.1]
theorem j_cut {s s0 s1 s2 : z_M} {a b x y : Int} {v0 : z_V} (X : y_XX s) (c : z_CI s) (p1 : y_PU s) (pu : y_PU s2) (fC : ∀ a b : Int, 309 ≤ a → a ≤ 7657 → s1 a b = s a b) (fM : ∀ a b : Int, a ≤ 308 ∨ a = 7658 → s2 a b = s1 a b) (f0 : ∀ a b : Int, a ≤ 308 → s1 a b = s0 a b) (C : y_CCT s a b v0 s0) (hx : (v0 = vX 0 ∧ x = 1) ∨ (v0 = vX 1 ∧ x = 2) ∨ ∃ z, v0 = vI z ∧ x = 0 ∧ s1 7658 0 = z)
    (tp1 : s1 1 12 = s 1 12) (t5 : ∀ b, s1 5 b = s 5 b) (m2 : s2 309 2 = s1 309 2) (m3 : s2 309 5 = s1 309 5) (m5 : ∀ b, s2 311 b = s1 311 b) (th : (s2 309 0 = 1 ∧ (a < 0 ∨ s1 309 20 ≤ a ∨ b < 0 ∨ s1 309 20 ≤ b)) ∨ (s2 309 0 = 2 ∧ 0 ≤ a ∧ a < s1 309 20 ∧ 0 ≤ b ∧ b < s1 309 20 ∧ b < a) ∨ (s2 309 0 = 0 ∧ 0 ≤ a ∧ a < s1 309 20 ∧ 0 ≤ b ∧ b < s1 309 20 ∧ a ≤ b)) (M : y_CCP s1 s2 a b y) : y_XX s2 ∧ s2 309 0 = x ∧ (x = 0 → s2 7658 0 = y) := by
  have nn := y_NN.of c
  have tape : s2 1 12 = s2 309 2 ∧ ∀ i : Int, 0 ≤ i → i < s2 1 12 → s2 5 i = s2 311 i := by
    rw [fM _ _ (by decide), m2, tp1, fC _ _ (by decide) (by decide)]
    refine ⟨X.2.2.1.1, fun i p q => ?_⟩
    rw [fM _ _ (by decide), t5, m5, fC _ _ (by decide) (by decide)]
    exact X.2.2.1.2 i p q
  have e20 : s1 309 20 = s 309 20 := fC _ _ (by decide) (by decide)
  rw [e20] at th
  obtain ⟨sr, cr, hur, kr, e13, C⟩ := C
  have tr : y_TX sr 6 s 0 (s (316 + 0) 1) := X.1.1.tc (y_TE.rf (fun a b q => kr a b (Or.inl (by omega))))
  have eu := tr.EU hur p1
  rw [eu.1] at C
  have fa : s2 1 13 = s2 309 5 := by
    rw [fM _ _ (by decide), f0 _ _ (by decide), e13, m3, fC _ _ (by decide) (by decide)]; exact X.2.2.2
  have refused : ¬ y_OKU s1 a b → y_SAME s s0 → y_XX s2 := fun h sm => by
    obtain ⟨tt, e19⟩ := M.2 h
    exact y_XX.same X c (fun a b q => (fM a b (by omega)).trans ((f0 a b (by omega)).trans (sm a b q))) (tt.src fC) (e19.trans (fC _ _ (by decide) (by decide))) tape fa
  have noI : ∀ z : Int, vX 0 ≠ vI z ∧ vX 1 ≠ vI z := fun z => ⟨y_XI, y_XI⟩
  have no01 : vX 0 ≠ vX 1 := fun q => absurd (congrArg Prod.snd q) (by decide)
  rcases C with ⟨hv, h, sm⟩ | ⟨hv, h, hab, sm⟩ | ⟨h, hab, z, hv, ez, hd, hk, hu⟩
  · refine ⟨refused (fun q => h ?_) sm, ?_⟩
    · unfold y_OKU at q; omega
    · rcases hx with ⟨_, h2⟩ | ⟨h1, _⟩ | ⟨z, h1, _⟩
      · exact ⟨by omega, fun q => by omega⟩
      · exact absurd (hv.symm.trans h1) no01
      · exact absurd (hv.symm.trans h1) (noI z).1
  · refine ⟨refused (fun q => ?_) sm, ?_⟩
    · unfold y_OKU at q; omega
    · rcases hx with ⟨h1, _⟩ | ⟨_, h2⟩ | ⟨z, h1, _⟩
      · exact absurd (hv.symm.trans h1).symm no01
      · exact ⟨by omega, fun q => by omega⟩
      · exact absurd (hv.symm.trans h1) (noI z).2
  · have ok : y_OKU s1 a b := by unfold y_OKU; rw [e20]; omega
    obtain ⟨⟨sm, n, so, cu, ub, z0, e13m, m0, m1, m22, sk, cge⟩, ey⟩ := M.1 ok
    have ea := eu.2.1 a h.1 h.2.1
    have eb := eu.2.1 b h.2.2.1 h.2.2.2
    rw [ea.1, eb.1, eb.2.1] at hd
    rw [fC 3221 _ (by decide) (by decide), fC 3221 _ (by decide) (by decide), fC 3222 _ (by decide) (by decide)] at cu ub
    rw [fC 316 _ (by decide) (by decide)] at cu m22
    have f02 : ∀ a b : Int, a ≤ 308 → s2 a b = s0 a b := fun a b q => (fM a b (Or.inl q)).trans (f0 a b q)
    have hd2 : y_DR sr s2 (s 3221 a) (s 3221 b + s 3222 b) := hd.to (fun a b q => f02 a b (by omega))
    have lo : ∀ b : Int, 0 ≤ b → b < 200 → -1 ≤ sm 361 b := fun b p q => by
      have w := (z0.2.2.2.1 b p q).2.2.1
      have w' : sm 361 b = s1 361 b := w
      rw [w', fC _ _ (by decide) (by decide)]
      exact (CI_b c (bdr_361 b)).1
    have t2 := tr.cut lo hd2 cu (z0.src (by decide) fC) ub e13m m0 m1 m22 (nn 0 (by decide) (by decide)).1
    have xr : y_XT sr 6 s 0 := X.1.2.2.tc (y_TE.rf (fun a b q => kr a b (Or.inl (by omega)))) X.1.1.1
    have z0s := z0.src (r' := s) (by decide) fC
    have xt2 := y_XT.cut tr xr hd2 cu z0s ub e13m m0 m1 cge (tr.rs z0s (nn 0 (by decide) (by decide)).1).WF (nn 0 (by decide) (by decide)).1 (nn 0 (by decide) (by decide)).2.2
    have t2' : y_T2 s2 6 s2 0 := ⟨t2.1, t2.2, xt2⟩
    have hk0 : y_HKc s s1 := by
      have h33 : ∀ a b : Int, 6 ≤ a ∧ a ≤ 190 → sr a b = s a b := fun a b q => kr a b (Or.inl q)
      have hb := X.2.1.1
      have hk1 := hk.to (s' := s1) (fun a b q => f0 a b (by omega)) (by rw [h33 _ _ (by decide)]; exact hb)
      obtain ⟨q1, q2, ⟨t1, t2, t3, t4⟩, q4⟩ := hk1
      rw [h33 33 1 (by decide)] at q1 t1 t2 t3 t4 q4
      rw [h33 33 2 (by decide)] at q2
      rw [h33 6 _ (by decide)] at t1 t2 t3
      refine ⟨q1, q2, ⟨t1, t2, t3, fun i p q => ?_⟩, fun a b p q => by rw [q4 a b p q]; exact h33 _ _ (by omega)⟩
      have y := t4 i p (by rw [h33 6 _ (by decide)]; exact q)
      rw [h33 (6 + 2) _ (by decide), h33 (6 + 4) _ (by decide), h33 (6 + 6) _ (by decide), h33 (6 + 8) _ (by decide), h33 (6 + 10) _ (by decide), h33 (6 + 12) _ (by decide)] at y
      exact y
    have hi := X.2.1.keep X.1 c hk0 sk fC (fun a b q => fM a b (Or.inl q))
    refine ⟨⟨t2', hi, tape, fa⟩, ?_⟩
    rcases hx with ⟨h1, _⟩ | ⟨h1, _⟩ | ⟨z', h1, h2, h3⟩
    · exact absurd (h1.symm.trans hv) (noI z).1
    · exact absurd (h1.symm.trans hv) (noI z).2
    · have hz : z' = z := congrArg Prod.snd (h1.symm.trans hv)
      have eu2 := t2'.1.EU (hu.cls f02) pu
      refine ⟨by omega, fun _ => ?_⟩
      rw [fM _ _ (by decide), h3, hz, ez, ← f02 191 16 (by decide), eu2.1, ey]
