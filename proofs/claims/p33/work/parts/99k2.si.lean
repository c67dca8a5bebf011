/-! side: letters and marks on a side of a line -/
theorem y_MO.cg {s s' : z_M} (h : y_MO s) (k : ∀ a b : Int, a ≤ 3223 → a ≠ 309 → s' a b = s a b) : y_MO s' := fun i p q => by
  rw [k 316 0 (by decide) (by decide)] at q
  have m := h i p q
  rw [k 376 i (by decide) (by decide), k 346 i (by decide) (by decide), k 361 i (by decide) (by decide)]
  refine ⟨m.1, fun k7 => ?_⟩
  have r := m.2 k7
  rw [k (407 + s 361 i) 0 (by omega) (by omega)]
  exact r
theorem e_lettersBeside {fu : Nat} (hfu : 8589934592 ≤ fu) {s : z_M} {l d A B : Int} (hl : 0 ≤ l ∧ l < 200) (hA : s 278 l = A) (hB : s 278 (l + 1) = B) (hAB : 0 ≤ A ∧ A ≤ B ∧ B ≤ 200) (hb : ∀ k : Int, A ≤ k → k < B → y_bq s k d) : fX3_lettersBeside fu s 258 l d = some (vI (y_su (y_cnn s d) A B), s) := by
  have go : ∀ (m F : Nat) (b x : Int), (m : Int) = B - b → m < F → A ≤ b → x = y_su (y_cnn s d) A b → z_T (fX3_lettersBeside_L12 fu 258 l d F s x b (fun s13 x14 => some (vI x14, s13))) (fun v s' => v = vI (y_su (y_cnn s d) A B) ∧ s' = s) := by
    intro m
    induction m with
    | zero =>
      intro F b x h1 hF h2 e
      obtain ⟨F, rfl⟩ : ∃ F2, F = F2 + 1 := ⟨F - 1, by omega⟩
      have eb : b = B := by omega
      rw [eb] at e
      subst e
      refine T_of (fX3_lettersBeside_L12.eq_2 ..) ?_
      refine T_if1 (by decide +kernel) ?_
      refine T_let 277 (by decide +kernel) ?_
      refine T_let (l + 1) (v_wid (by omega)) ?_
      refine T_if1 (by decide +kernel) ?_
      refine T_getV w_r277 (by omega) hB ?_
      refine T_if1 (by omega) ?_
      exact T_ret ⟨rfl, rfl⟩
    | succ m ih =>
      intro F b x h1 hF h2 e
      obtain ⟨F, rfl⟩ : ∃ F2, F = F2 + 1 := ⟨F - 1, by omega⟩
      have bq := hb b h2 (by omega)
      have n0 : 0 ≤ y_ltr s b d ∧ y_ltr s b d ≤ 3000 := bq.2.2.1
      have cn : y_cnn s d b = y_ltr s b d := rfl
      have sS := y_suS (f := y_cnn s d) h2
      have sb := y_su_r (f := y_cnn s d) (a := A) (u := b) (m := 3000) (by decide) (fun i p q => (hb i p (by omega)).2.2.1) h2 (by omega)
      refine T_of (fX3_lettersBeside_L12.eq_2 ..) ?_
      refine T_if1 (by decide +kernel) ?_
      refine T_let 277 (by decide +kernel) ?_
      refine T_let (l + 1) (v_wid (by omega)) ?_
      refine T_if1 (by decide +kernel) ?_
      refine T_getV w_r277 (by omega) hB ?_
      refine T_if0 (by omega) ?_
      refine T_if1 (by decide +kernel) ?_
      refine T_let 279 (by decide +kernel) ?_
      refine T_if1 (by decide +kernel) ?_
      refine T_bI (T_of (e_letters bq.1) (T_rI ?_))
      refine T_let (x + (y_ltr s b d)) (v_wid (by omega)) ?_
      refine T_let (b + 1) (v_wid (by omega)) ?_
      exact ih F (b + 1) _ (by omega) (by omega) (by omega) (by omega)
  refine T_eq ?_
  refine T_of (fX3_lettersBeside.eq_1 ..) ?_
  refine T_if1 (by decide +kernel) ?_
  refine T_let 277 (by decide +kernel) ?_
  refine T_if1 (by decide +kernel) ?_
  refine T_getV w_r277 (by omega) hA ?_
  exact go (B - A).toNat fu A 0 (by omega) (by omega) (Int.le_refl _) y_su0.symm
/-- the first sign of a line -/
def y_fs (s : z_M) (l : Int) : Int := if s 191 16 ≤ s 248 l then s 6 6 else s 195 (s 248 l)
theorem e_firstSign {fu : Nat} {s : z_M} {l : Int} (hl : 0 ≤ l ∧ l ≤ 200) (h0 : 0 ≤ s 248 l) (h1 : s 191 16 ≤ 200) : fX3_firstSign fu s 258 l = some (vI (y_fs s l), s) := by
  refine T_eq ?_
  refine T_of (fX3_firstSign.eq_1 ..) ?_
  refine T_if1 (by decide +kernel) ?_
  refine T_let 240 (by decide +kernel) ?_
  refine T_if1 (by decide +kernel) ?_
  refine T_let 247 (by decide +kernel) ?_
  refine T_if1 (by decide +kernel) ?_
  refine T_getV w_r247 (by omega) rfl ?_
  refine T_if1 (by decide +kernel) ?_
  refine T_let 191 (by decide +kernel) ?_
  refine T_if1 v_ob191 ?_
  refine T_let (s 191 16) rfl ?_
  refine T_ite (fun hA => ?_) (fun hA => ?_)
  · refine T_if1 (by decide +kernel) ?_
    refine T_let 6 (by decide +kernel) ?_
    refine T_if1 v_ob6 ?_
    refine T_let (s 6 6) rfl ?_
    refine T_of (fX3_firstSign_J44.eq_1 ..) ?_
    refine T_ret ⟨?_, rfl⟩
    unfold y_fs
    rw [if_pos hA]
  · refine T_if1 (by decide +kernel) ?_
    refine T_let 191 (by decide +kernel) ?_
    refine T_if1 v_ob191 ?_
    refine T_let 194 (by decide +kernel) ?_
    refine T_if1 (by decide +kernel) ?_
    refine T_getV w_r194 (by omega) rfl ?_
    refine T_of (fX3_firstSign_J44.eq_1 ..) ?_
    refine T_ret ⟨?_, rfl⟩
    unfold y_fs
    rw [if_neg hA]
theorem e_marksBeside {fu : Nat} (hfu : 8589934592 ≤ fu) {s : z_M} {l d : Int} (hl : 0 ≤ l ∧ l < 200) (h0 : 0 ≤ s 248 l) (h2 : 0 ≤ s 248 (l + 1)) (h1 : s 191 16 ≤ 200) (hf : 0 ≤ y_fs s l ∧ y_fs s l ≤ y_fs s (l + 1) ∧ y_fs s (l + 1) ≤ 200) (hu : ∀ i : Int, 0 ≤ i → i < y_fs s (l + 1) → 0 ≤ s 215 i ∧ s 215 i < 200) : fX3_marksBeside fu s 258 l d = some (vI (y_su (y_mk s d) (y_fs s l) (y_fs s (l + 1))), s) := by
  refine T_eq ?_
  refine T_of (fX3_marksBeside.eq_1 ..) ?_
  refine T_if1 (by decide +kernel) ?_
  refine T_let 191 (by decide +kernel) ?_
  refine T_if1 (by decide +kernel) ?_
  refine T_bI (T_of (e_firstSign (l := l) (by omega) h0 h1) (T_rI ?_))
  refine T_let (l + 1) (v_wid (by omega)) ?_
  refine T_if1 (by decide +kernel) ?_
  refine T_bI (T_of (e_firstSign (l := l + 1) (by omega) h2 h1) (T_rI ?_))
  refine T_let ((y_fs s (l + 1)) - 1) (v_wid (by omega)) ?_
  refine T_if1 v_ob191 ?_
  refine T_bI (T_of (e_marksOf hfu ⟨hf.1, hf.2.1⟩ hf.2.2 hu) (T_rI ?_))
  exact T_ret ⟨rfl, rfl⟩
/-- where the class's signs of a line lie -/
theorem y_OKc.fs {s : z_M} (ok : y_OKc s) (lc : y_LBc (y_dc s) s) (h6 : 0 ≤ s 6 6 ∧ s 6 6 ≤ 200) {l : Int} (l0 : 0 ≤ l) (l1 : l < s 240 6) : (0 ≤ s 248 l ∧ s 248 l < s 248 (l + 1) ∧ s 248 (l + 1) ≤ s 191 16 ∧ s 191 16 ≤ 200) ∧ (0 ≤ y_fs s l ∧ y_fs s l ≤ y_fs s (l + 1) ∧ y_fs s (l + 1) ≤ s 6 6) := by
  have rr := lc.r1 l0 l1
  have nn := ok.2.2.2.1
  have pt := (ok.1.2.1.2 ok.2.1).2
  have p0 := y_PT_pos pt y_sC_01 (v := s 248 l) (by omega) (by omega)
  refine ⟨⟨rr.1, rr.2.1, rr.2.2, nn.2⟩, ?_⟩
  unfold y_fs
  rw [if_neg (by omega)]
  by_cases z : s 191 16 ≤ s 248 (l + 1)
  · rw [if_pos z]
    omega
  · rw [if_neg z]
    have p1 := y_PT_pos pt y_sC_01 (v := s 248 (l + 1)) (by omega) (by omega)
    have p2 := p0.2.2.2 (s 248 (l + 1)) rr.2.1 (by omega)
    omega
theorem e_cside {fu : Nat} (hfu : 8589934592 ≤ fu) {s : z_M} (c : z_CI s) (h : y_V3 s) (hy : y_Y4 s) (hk : ∀ sr, y_RF s sr → y_OKc sr) {p d q : Int} : z_T (fX11_side fu s 1 p d q) (fun v _ => y_QY s v (fun sr => 0 ≤ p ∧ p < sr 240 6) ((0 ≤ d ∧ d ≤ 1) ∧ 0 ≤ q ∧ q ≤ 1) (fun sr => if q = 0 then y_su (y_cnn sr d) (sr 278 p) (sr 278 (p + 1)) else y_su (y_mk sr d) (y_fs sr p) (y_fs sr (p + 1)))) := by
  refine T_of (fX11_side.eq_1 ..) ?_
  refine T_if1 v_ob1 ?_
  refine T_useN (e_freshY hfu c h hy) (fun v sr hq => ?_)
  obtain ⟨rfl, ry⟩ := hq
  refine T_vN ?_
  have rf := ry.1
  have ok := hk sr rf
  have lc := ry.2.2.2 ok
  have h6 := CI_b rf.1 (k := 240) (j := 6) bd_240_6
  have n6 := CI_b rf.1 (k := 6) (j := 6) bd_6_6
  refine T_if1 v_ob1 ?_
  refine T_let 240 (by decide +kernel) ?_
  refine T_if1 (by decide +kernel) ?_
  refine T_let (sr 240 6) rfl ?_
  refine T_if1 v_ob1 ?_
  refine T_nen (fun n => T_ret ⟨sr, ry, Or.inl ⟨n, rfl⟩⟩) (fun h0 h1 => ?_)
  have bb := lc.bb ok.2.2.2.1 h0 h1
  obtain ⟨f1, f2⟩ := ok.fs lc n6 h0 h1
  refine T_if1 v_ob1 ?_
  refine T_nwn (fun n => T_ret ⟨sr, ry, Or.inr (Or.inl ⟨⟨h0, h1⟩, fun k => n k.1, rfl⟩)⟩) (fun k0 k1 => ?_)
  refine T_if1 v_ob1 ?_
  refine T_nwn (fun n => T_ret ⟨sr, ry, Or.inr (Or.inl ⟨⟨h0, h1⟩, fun k => n k.2, rfl⟩)⟩) (fun k2 k3 => ?_)
  refine T_ite (fun hQ => ?_) (fun hQ => ?_)
  · refine T_if1 v_ob1 ?_
    refine T_let 258 (by decide +kernel) ?_
    refine T_if1 (by decide +kernel) ?_
    refine T_bI (T_of (e_marksBeside hfu ⟨h0, by omega⟩ f1.1 (by omega) f1.2.2.2 ⟨f2.1, f2.2.1, by omega⟩ (fun i a b => ?_)) (T_rI ?_))
    · have := y_PCi_u rf.2.1 ok.2.1 a (by omega)
      have := ok.2.2.2.1
      omega
    refine T_of (fX11_side_J55.eq_1 ..) ?_
    refine T_ret ⟨sr, ry, Or.inr (Or.inr ⟨⟨h0, h1⟩, ⟨⟨k0, k1⟩, k2, k3⟩, ?_⟩)⟩
    show vI _ = vI (if q = 0 then _ else _)
    rw [if_neg hQ]
  · refine T_if1 v_ob1 ?_
    refine T_let 258 (by decide +kernel) ?_
    refine T_if1 (by decide +kernel) ?_
    refine T_bI (T_of (e_lettersBeside hfu ⟨h0, by omega⟩ rfl rfl bb (fun k a b => lc.bq ok h0 h1 a b)) (T_rI ?_))
    refine T_of (fX11_side_J55.eq_1 ..) ?_
    refine T_ret ⟨sr, ry, Or.inr (Or.inr ⟨⟨h0, h1⟩, ⟨⟨k0, k1⟩, k2, k3⟩, ?_⟩)⟩
    show vI _ = vI (if q = 0 then _ else _)
    rw [if_pos (by omega)]
/-! the reference -/
theorem y_TB.z {s s' : z_M} (h : s' 309 60 = 0) (f : ∀ a b : Int, ¬ (a = 309 ∧ b = 60) → s' a b = s a b) : y_TB s s' 0 0 (fun _ => False) :=
  ⟨fun a b p _ => f a b p, h, fun x => ⟨fun r => by obtain ⟨i, p, q, _⟩ := r; omega, fun r => r.elim⟩, fun i p q => by omega⟩
/-- is there such a line -/
theorem em_isLine {fu : Nat} (hfu : 8589934592 ≤ fu) {s : z_M} (h : y_GY s) {p : Int} {f : Int → z_M → z_O} {P : z_V → z_M → Prop} (kk : ∀ sl : z_M, y_RLm s sl → ((0 ≤ p ∧ p < sl 309 44) → z_T (f 1 sl) P) ∧ (¬ (0 ≤ p ∧ p < sl 309 44) → z_T (f 0 sl) P)) : z_T (z_bI (fX12_isLine fu s 309 p) f) P := by
  refine T_bI (T_of (fX12_isLine.eq_1 ..) ?_)
  refine T_if1 v_ob309 ?_
  refine T_useN (em_lay hfu h) (fun v sl hq => ?_)
  obtain ⟨rfl, rl⟩ := hq
  refine T_vN ?_
  have k := kk sl rl
  have nn := CI_b rl.1 (k := 309) (j := 44) bd_309_44
  refine T_if1 v_ob309 ?_
  refine T_let (sl 309 44) rfl ?_
  refine T_let (sl 309 44 - 1) (v_wid (by omega)) ?_
  refine T_bI (T_of em_in (T_rI ?_))
  by_cases hp : 0 ≤ p ∧ p ≤ sl 309 44 - 1
  · rw [if_pos hp]
    refine T_if1 bl1 ?_
    exact T_rI (k.1 (by omega))
  · rw [if_neg hp]
    refine T_if1 bl0 ?_
    exact T_rI (k.2 (by omega))
theorem y_TB.k {s0 s : z_M} {t0 t : Int} {S : Int → Prop} (h : y_TB s0 s t0 t S) (ht : 0 ≤ t0) (a b : Int) (q : a ≤ 3652) (r : ¬ (a = 309 ∧ b = 60)) : s a b = s0 a b := h.1 a b r (by omega)
theorem em_side {fu : Nat} (hfu : 8589934592 ≤ fu) {s : z_M} (h : y_GY s) (mo : y_MO s) (pu : y_PU s) {p d q : Int} : z_T (fX12_side fu s 309 p d q) (fun v s' => ∃ y, v = vI y ∧ y_AY s s' (fun sl => 0 ≤ p ∧ p < sl 309 44) ((0 ≤ d ∧ d ≤ 1) ∧ 0 ≤ q ∧ q ≤ 1) y (fun sl => if q = 0 then y_cl sl d p (sl 309 58) else y_mk2 sl d p)) := by
  refine T_of (fX12_side.eq_1 ..) ?_
  refine T_if1 v_ob309 ?_
  refine T_upg h.1 bd_309_0 (by decide) (fun s1 c1 g g2 e0 => ?_)
  have h1 := h.z c1 g g2
  refine T_if1 v_ob309 ?_
  refine em_isLine hfu h1 (fun sl rl => ?_)
  have rm := rl.m g g2
  have e1 : sl 309 0 = 0 := (rl.k 309 0 (by omega)).trans e0
  have ok := rl.2.2.2.1
  have lm := rl.2.2.1
  have k := rm.2.1
  have mo' : y_MO sl := mo.cg (fun a b p q => k a b (by omega))
  have pu' : y_PU sl := pu.fr (k 309 20 (by omega)) (k 316 0 (by omega)) (fun b => k 346 b (by omega)) (fun b => k 361 b (by omega)) (fun b => k 3220 b (by omega)) (fun b => k 3221 b (by omega)) (fun b => k 3222 b (by omega)) (fun b => k 3223 b (by omega))
  have h58 := CI_b rl.1 (k := 309) (j := 58) bd_309_58
  have bad : ∀ sx : z_M, sx = sl → (0 ≤ p ∧ p < sl 309 44) → ¬ ((0 ≤ d ∧ d ≤ 1) ∧ 0 ≤ q ∧ q ≤ 1) → z_T (fX12_side_J51 fu sl 309 p d q 309 1) (fun v s' => ∃ y, v = vI y ∧ y_AY s s' (fun sl => 0 ≤ p ∧ p < sl 309 44) ((0 ≤ d ∧ d ≤ 1) ∧ 0 ≤ q ∧ q ≤ 1) y (fun sl => if q = 0 then y_cl sl d p (sl 309 58) else y_mk2 sl d p)) := fun sx _ hp n => by
    refine T_of (fX12_side_J51.eq_1 ..) ?_
    refine T_if1 v_ob309 ?_
    refine T_useI (em_bad1 e1 (by decide) (Or.inr rfl)) (fun v s2 hq => ?_)
    obtain ⟨rfl, e2, _⟩ := hq
    refine T_vI ?_
    refine T_if0 (by decide) ?_
    refine T_of (fX12_side_J59.eq_1 ..) ?_
    exact T_ret ⟨_, rfl, sl, rm, Or.inr (Or.inl ⟨hp, n, e2⟩)⟩
  constructor
  · intro hp
    refine T_if1 (by decide) ?_
    refine T_of (fX12_side_J19.eq_1 ..) ?_
    refine T_if1 v_ob309 ?_
    refine T_bI (T_of (em_bad0 e1) (T_rI ?_))
    refine T_if0 (by decide) ?_
    refine T_bI (T_of em_in (T_rI ?_))
    by_cases kd : 0 ≤ d ∧ d ≤ 1
    · rw [if_pos kd]
      refine T_if0 (by decide) ?_
      refine T_bI (T_of em_in (T_rI ?_))
      by_cases kq : 0 ≤ q ∧ q ≤ 1
      · rw [if_pos kq]
        refine T_if1 (by decide) ?_
        have hd : d = 0 ∨ d = 1 := by omega
        have cb := y_cl_1800 (y_CRg.of rl.1) ok lm (l := p) hd h58.1
        refine T_of (fX12_side_J51.eq_1 ..) ?_
        refine T_if1 v_ob309 ?_
        refine T_bI (T_of (em_bad0 e1) (T_rI ?_))
        refine T_if1 rfl ?_
        refine T_if1 v_ob309 ?_
        refine T_upG (fun s2 a2 f2 => ?_)
        have tb := y_TB.z a2 f2
        have cr := y_CRg.of rl.1
        refine T_if1 v_ob309 ?_
        refine T_useI (em_laysLetters hfu cr ok lm h58 hd (by omega) tb) (fun v s3 hq => ?_)
        obtain ⟨rfl, g3⟩ := hq
        refine T_vI ?_
        have e3 : s3 309 0 = 0 := (g3.k (Int.le_refl _) 309 0 (by omega) (by omega)).trans e1
        refine T_ite (fun hQ => ?_) (fun hQ => ?_)
        · refine T_if1 v_ob309 ?_
          refine T_useI (em_laysSide hfu cr ok lm mo' pu' hp hd (by omega) g3) (fun v s4 hq => ?_)
          obtain ⟨rfl, g4⟩ := hq
          refine T_vI ?_
          have e4 : s4 309 0 = 0 := (g4.k (Int.le_refl _) 309 0 (by omega) (by omega)).trans e1
          have rr := lm.r1 hp.1 hp.2
          have fm := pu'.fmm (y_n0 rl.1).1 (sl 3438 (p + 1) - sl 3438 p).toNat (sl 3438 p) (sl 3438 (p + 1)) (by omega) (by omega) (by omega)
          have mb := y_ms_su mo' hd fm.2.1 (y_fm sl (sl 3438 (p + 1)) - y_fm sl (sl 3438 p)).toNat (y_fm sl (sl 3438 (p + 1))) (by omega) fm.2.2
          have n0 := y_n0 rl.1
          have mb2 : 0 ≤ y_mk2 sl d p ∧ y_mk2 sl d p ≤ 200 := by
            unfold y_mk2
            omega
          refine T_let (2 * (0 + y_cl sl d p (sl 309 58))) (v_wid (by omega)) ?_
          refine T_let (y_mk2 sl d p) ((congrArg z_w (by omega)).trans (v_wid (by omega))) ?_
          refine T_of (fX12_side_J94.eq_1 ..) ?_
          refine T_ret ⟨_, rfl, sl, rm, Or.inr (Or.inr ⟨hp, ⟨kd, kq⟩, e4, ?_⟩)⟩
          show y_mk2 sl d p = if q = 0 then _ else _
          rw [if_neg hQ]
        · refine T_of (fX12_side_J94.eq_1 ..) ?_
          refine T_ret ⟨_, rfl, sl, rm, Or.inr (Or.inr ⟨hp, ⟨kd, kq⟩, e3, ?_⟩)⟩
          show 0 + y_cl sl d p (sl 309 58) = if q = 0 then _ else _
          rw [if_pos (by omega)]
          omega
      · rw [if_neg kq]
        refine T_if0 (by decide) ?_
        refine T_of (fX12_side_J46.eq_1 ..) ?_
        exact bad sl rfl hp (fun k => kq k.2)
    · rw [if_neg kd]
      refine T_if1 rfl ?_
      refine T_of (fX12_side_J46.eq_1 ..) ?_
      exact bad sl rfl hp (fun k => kd k.1)
  · intro hp
    refine T_if0 (by decide) ?_
    refine T_of (fX12_side_J19.eq_1 ..) ?_
    refine T_if1 v_ob309 ?_
    refine T_useI (em_bad1 e1 (by decide) (Or.inl rfl)) (fun v s2 hq => ?_)
    obtain ⟨rfl, e2, _⟩ := hq
    refine T_vI ?_
    refine T_if1 (by decide) ?_
    refine T_of (fX12_side_J59.eq_1 ..) ?_
    exact T_ret ⟨_, rfl, sl, rm, Or.inl ⟨hp, e2⟩⟩
/-! both are the same -/
theorem y_cl_e {s : z_M} (ok : y_OKy s) (lm : y_LBm (y_dm s) s) {d l : Int} (l0 : 0 ≤ l) (l1 : l < s 309 44) : y_cl s d l (s 309 58) = y_su (y_mn s d) (y_bm s l) (y_bm s (l + 1)) := by
  have m0 := lm.mono l.toNat 0 l (by omega) (Int.le_refl _) (by omega)
  have z0 : y_bm s 0 = 0 := y_su0
  have mm := lm.mono 1 l (l + 1) (by omega) l0 (by omega)
  have m1 := lm.mono (s 309 44 - (l + 1)).toNat (l + 1) (s 309 44) (by omega) (by omega) (Int.le_refl _)
  have e58 : s 309 58 = y_bm s (s 309 44) := lm.e58
  unfold y_cl
  rw [y_su_pt (f := y_lq s d l) (a := 0) (x := y_bm s l) (y := s 309 58) (by omega) (by omega), y_su_pt (f := y_lq s d l) (a := y_bm s l) (x := y_bm s (l + 1)) (y := s 309 58) mm (by omega)]
  have a1 : y_su (y_lq s d l) 0 (y_bm s l) = 0 := y_su_z (fun k p q => if_neg (fun e => by
    have lk := lm.lk ok (k := k) p (by omega)
    rw [e] at lk
    omega))
  have a2 : y_su (y_lq s d l) (y_bm s (l + 1)) (s 309 58) = 0 := y_su_z (fun k p q => if_neg (fun e => by
    have lk := lm.lk ok (k := k) (by omega) q
    rw [e] at lk
    omega))
  have a3 : y_su (y_lq s d l) (y_bm s l) (y_bm s (l + 1)) = y_su (y_mn s d) (y_bm s l) (y_bm s (l + 1)) := y_su_cg (fun k p q => if_pos (lm.lu ok (k := k) (by omega) (by omega) l0 l1 p q))
  rw [a1, a2, a3]
  omega
theorem y_LEq.fs {g s : z_M} (e : y_LEq g s) (b : y_BT g s) {l : Int} (h0 : 0 ≤ l) (h1 : l ≤ g 240 6) (hp : 0 < g 240 6) : y_fs g l = y_fm s (s 3438 l) := by
  obtain ⟨U, X, p, c, cg, st⟩ := b
  obtain ⟨e1, e2, e3⟩ := X.1.EU U.2.1 p
  have n0 : g 6 6 = s 316 0 := X.1.n0
  have el := e.1.2.2.1 l h0 h1
  unfold y_fs y_fm
  rw [e1, el, n0]
  by_cases z : s 3438 l < s 309 20
  · rw [if_neg (by omega), if_pos z]
    have lo : 0 ≤ s 3438 l := by
      by_cases z2 : l < g 240 6
      · exact (e.1.2.2.2 l h0 z2).1
      · by_cases z3 : l = 0
        · omega
        · have := e.1.2.2.2 (l - 1) (by omega) (by omega)
          rw [show l - 1 + 1 = l by omega] at this
          omega
    exact (e2 _ lo z).1
  · rw [if_pos (by omega), if_neg z]
theorem y_LEq.mks {g s : z_M} (e : y_LEq g s) (b : y_BT g s) {l d : Int} (h0 : 0 ≤ l) (h1 : l < g 240 6) (hd : d = 0 ∨ d = 1) (f0 : 0 ≤ y_fs g l ∧ y_fs g (l + 1) ≤ g 6 6) : y_su (y_mk g d) (y_fs g l) (y_fs g (l + 1)) = y_mk2 s d l := by
  have a := e.fs b h0 (by omega) (by omega)
  have a2 := e.fs b (l := l + 1) (by omega) (by omega) (by omega)
  have el := e.1.2.2.1 l h0 (by omega)
  obtain ⟨U, X, p, c, cg, st⟩ := b
  have n0 : g 6 6 = s 316 0 := X.1.n0
  unfold y_mk2
  rw [← a, ← a2]
  exact y_su_cg (fun i p1 q1 => y_mk_eq X U p (by have := y_n0 c; omega) (y_n1 c).2 hd (by omega) (by omega))
theorem q_side {g s s' : z_M} (b : y_BT g s) (ok : y_OKc g) (yc : y_YC g) (h : y_RM s s') {p d q : Int} (hp : 0 ≤ p ∧ p < s' 309 44) (hd : (0 ≤ d ∧ d ≤ 1) ∧ 0 ≤ q ∧ q ≤ 1) : (fun sr => if q = 0 then y_su (y_cnn sr d) (sr 278 p) (sr 278 (p + 1)) else y_su (y_mk sr d) (y_fs sr p) (y_fs sr (p + 1))) g = (fun sl => if q = 0 then y_cl sl d p (sl 309 58) else y_mk2 sl d p) s' := by
  obtain ⟨e, b'⟩ := b.le ok yc h
  have h1 : p < g 240 6 := by rw [e.1.1]; exact hp.2
  have hd' : d = 0 ∨ d = 1 := by omega
  have c6 := CI_b b.2.2.2.2.1 (k := 6) (j := 6) bd_6_6
  show (if q = 0 then y_su (y_cnn g d) (g 278 p) (g 278 (p + 1)) else y_su (y_mk g d) (y_fs g p) (y_fs g (p + 1))) = if q = 0 then y_cl s' d p (s' 309 58) else y_mk2 s' d p
  by_cases z : q = 0
  · rw [if_pos z, if_pos z, y_cl_e h.2.2.2.1 h.2.2.1 hp.1 hp.2]
    obtain ⟨e1, e2⟩ := e.bm hp.1 h1
    have bb := (yc ok).bb ok.2.2.2.1 hp.1 h1
    have lm := h.2.2.1
    have m1 := lm.mono (s' 309 44 - (p + 1)).toNat (p + 1) (s' 309 44) (by omega) (by omega) (Int.le_refl _)
    have e58 : s' 309 58 = y_bm s' (s' 309 44) := lm.e58
    have e9 := e.2.2.2.2.1
    rw [← e1, ← e2]
    exact y_su_cg (fun k a c => e.lt (by omega) (by omega) hd')
  · rw [if_neg z, if_neg z]
    obtain ⟨f1, f2⟩ := ok.fs (yc ok) c6 hp.1 h1
    exact e.mks b' hp.1 h1 hd' ⟨f2.1, f2.2.2⟩
