/-! things of the reference: letters and marks on a side of a line -/
theorem y_PU.nx {s : z_M} (p : y_PU s) {v : Int} (h0 : 0 ≤ v) (h1 : v < s 309 20) : s 3221 v + s 3222 v = if v + 1 < s 309 20 then s 3221 (v + 1) else s 316 0 := by
  obtain ⟨pn, pt⟩ := p
  have e := pt.2.2.2 v h0 h1
  rw [show (((s 316 0).toNat : Nat) : Int) = s 316 0 by omega] at e
  exact e
/-- where unit u begins; all signs, behind the last one -/
def y_fm (s : z_M) (u : Int) : Int := if u < s 309 20 then s 3221 u else s 316 0
theorem y_PU.fm {s : z_M} (p : y_PU s) {v : Int} (h0 : 0 ≤ v) (h1 : v < s 309 20) : y_fm s v = s 3221 v ∧ y_fm s (v + 1) = s 3221 v + s 3222 v := ⟨if_pos h1, (p.nx h0 h1).symm⟩
/-- blocks come one behind the other -/
theorem y_LBm.rm {D s : z_M} (h : y_LBm D s) : ∀ (m : Nat) (l l' : Int), (m : Int) = l' - l → 0 ≤ l → l' ≤ s 309 44 → s 3438 l ≤ s 3438 l' := by
  intro m
  induction m with
  | zero =>
    intro l l' e _ _
    rw [show l' = l by omega]
    exact Int.le_refl _
  | succ m ih =>
    intro l l' e h0 h1
    have a := ih l (l' - 1) (by omega) h0 (by omega)
    have rr := h.r1 (l := l' - 1) (by omega) (by omega)
    rw [show l' - 1 + 1 = l' by omega] at rr
    omega
theorem y_LBm.od {s : z_M} (ok : y_OKy s) (h : y_LBm (y_dm s) s) {k : Int} (h0 : 0 ≤ k) (h1 : k + 1 < s 309 58) : s (3452 + k) 0 + s (3452 + k) 1 ≤ s (3452 + (k + 1)) 0 := by
  obtain ⟨l, f, z, l01, r1, ⟨b0, b1, _⟩, bl, _, _, ek, eb⟩ := h.bk ok h0 (by omega)
  obtain ⟨l', f', z', l01', r1', ⟨b0', b1', _⟩, bl', _, _, ek', eb'⟩ := h.bk ok (k := k + 1) (by omega) h1
  rw [b0, b1, b0']
  have ns := bl.ns
  rcases Int.lt_trichotomy l l' with r | r | r
  · have := h.rm (l' - (l + 1)).toNat (l + 1) l' (by omega) (by omega) (by omega)
    omega
  · subst r
    by_cases q : f' < f
    · have := y_ns_le (D := y_dm s) (a := s 3438 l) (u := f') (v := f) (by omega) (by omega)
      omega
    · by_cases q2 : f' ≤ z
      · have := (bl.sa (i := f') (by omega) q2).mp bl'.2.2.2.1
        subst this
        omega
      · omega
  · have m := h.mono (l - (l' + 1)).toNat (l' + 1) l (by omega) (by omega) (by omega)
    unfold y_bm at m
    have nl := y_ns_le (D := y_dm s) (a := s 3438 l') (u := f' + 1) (v := s 3438 (l' + 1)) (by omega) (by omega)
    have s1 := y_suS (f := y_sdd (y_dm s) (s 3438 l')) (a := s 3438 l') (u := f') (by omega)
    have s2 : y_sdd (y_dm s) (s 3438 l') f' = 1 := by
      unfold y_sdd
      rw [if_pos bl'.2.2.2.1]
    have nb := y_ns_b (D := y_dm s) (a := s 3438 l) (u := f) (by omega)
    unfold y_ns at *
    omega
/-- what is needed of the cells' ranges -/
def y_CRg (s : z_M) : Prop := (0 ≤ s 309 58 ∧ s 309 58 ≤ 200) ∧ (0 ≤ s 309 44 ∧ s 309 44 ≤ 200) ∧ (0 ≤ s 316 0 ∧ s 316 0 ≤ 200) ∧ ∀ c j : Int, 407 ≤ c → c ≤ 606 → j = 0 ∨ j = 10 → 0 ≤ s c j ∧ s c j ≤ 9
theorem y_CRg.of {s : z_M} (ci : z_CI s) : y_CRg s := ⟨CI_b ci (k := 309) (j := 58) bd_309_58, CI_b ci (k := 309) (j := 44) bd_309_44, y_n0 ci, fun c j p q r => CI_b ci (bd_let ⟨p, q⟩ r)⟩
theorem y_rl_9 {s : z_M} (ci : y_CRg s) (rw0 : y_Rw s) {u e : Int} (h0 : 0 ≤ u) (h1 : u < s 309 20) (k7 : s 3220 u = 7) (he : e = 0 ∨ e = 1) : 0 ≤ y_rl s u e ∧ y_rl s u e ≤ 9 := by
  have b := rw0.2.2.2 u h0 h1 k7
  unfold y_rl
  exact ci.2.2.2 _ _ (by omega) (by omega) (by omega)
theorem y_kl_9 {s : z_M} (ci : y_CRg s) (ok : y_OKy s) (lm : y_LBm (y_dm s) s) {k d : Int} (h0 : 0 ≤ k) (h1 : k < s 309 58) (hd : d = 0 ∨ d = 1) : 0 ≤ y_kl s k d ∧ y_kl s k d ≤ 9 * s (3452 + k) 1 ∧ 1 ≤ s (3452 + k) 1 ∧ 0 ≤ s (3452 + k) 0 ∧ s (3452 + k) 0 + s (3452 + k) 1 ≤ 200 := by
  obtain ⟨l, f, z, l01, r1, ⟨b0, b1, _⟩, _, k7, _⟩ := lm.bk ok h0 h1
  have nn := ok.1.1.1
  have r := y_sum_r (f := fun u => y_rl s u d) (a := f) (m := 9) (z - f + 1).toNat (fun i p q => y_rl_9 ci ok.1.1 (by omega) (by omega) (k7 i p (by omega)) hd)
  unfold y_kl
  rw [b0, b1]
  omega
/-- letters of a line ahead of block b -/
def y_lq (s : z_M) (d l k : Int) : Int := if y_Lk s k = l then y_kl s k d else 0
def y_cl (s : z_M) (d l b : Int) : Int := y_su (y_lq s d l) 0 b
theorem y_cl_b {s : z_M} (ci : y_CRg s) (ok : y_OKy s) (lm : y_LBm (y_dm s) s) {d l : Int} (hd : d = 0 ∨ d = 1) : ∀ (m : Nat) (b : Int), (m : Int) = b → b ≤ s 309 58 → (0 ≤ y_cl s d l b) ∧ (0 < b → y_cl s d l b ≤ 9 * (s (3452 + (b - 1)) 0 + s (3452 + (b - 1)) 1)) := by
  intro m
  induction m with
  | zero =>
    intro b e _
    have eb : b = 0 := by omega
    subst eb
    unfold y_cl
    rw [y_su0]
    exact ⟨Int.le_refl 0, fun q => by omega⟩
  | succ m ih =>
    intro b e h
    have a := ih (b - 1) (by omega) (by omega)
    have k9 := y_kl_9 ci ok lm (k := b - 1) (d := d) (by omega) (by omega) hd
    have s1 := y_suS (f := y_lq s d l) (a := 0) (u := b - 1) (by omega)
    rw [show b - 1 + 1 = b by omega] at s1
    have q : 0 ≤ y_lq s d l (b - 1) ∧ y_lq s d l (b - 1) ≤ y_kl s (b - 1) d := by
      unfold y_lq
      split <;> omega
    have e1 : y_cl s d l b = y_cl s d l (b - 1) + y_lq s d l (b - 1) := s1
    refine ⟨by omega, fun _ => ?_⟩
    by_cases z : b - 1 = 0
    · have z0 : y_cl s d l (b - 1) = 0 := by
        unfold y_cl
        rw [z, y_su0]
      omega
    · have o := lm.od ok (k := b - 1 - 1) (by omega) (by omega)
      rw [show b - 1 - 1 + 1 = b - 1 by omega] at o
      have a2 := a.2 (by omega)
      omega
theorem y_cl_m {s : z_M} (ci : y_CRg s) (ok : y_OKy s) (lm : y_LBm (y_dm s) s) {d l : Int} (hd : d = 0 ∨ d = 1) : ∀ (m : Nat) (b b' : Int), (m : Int) = b' - b → 0 ≤ b → b' ≤ s 309 58 → y_cl s d l b ≤ y_cl s d l b' := by
  intro m
  induction m with
  | zero =>
    intro b b' e _ _
    rw [show b' = b by omega]
    exact Int.le_refl _
  | succ m ih =>
    intro b b' e h0 h
    have a := ih b (b' - 1) (by omega) h0 (by omega)
    have k9 := y_kl_9 ci ok lm (k := b' - 1) (d := d) (by omega) (by omega) hd
    have s1 := y_suS (f := y_lq s d l) (a := 0) (u := b' - 1) (by omega)
    rw [show b' - 1 + 1 = b' by omega] at s1
    have q : 0 ≤ y_lq s d l (b' - 1) := by
      unfold y_lq
      split <;> omega
    unfold y_cl at *
    omega
theorem y_cl_1800 {s : z_M} (ci : y_CRg s) (ok : y_OKy s) (lm : y_LBm (y_dm s) s) {d l : Int} (hd : d = 0 ∨ d = 1) (h : 0 ≤ s 309 58) : 0 ≤ y_cl s d l (s 309 58) ∧ y_cl s d l (s 309 58) ≤ 1800 := by
  have b := y_cl_b ci ok lm (l := l) hd (s 309 58).toNat (s 309 58) (by omega) (Int.le_refl _)
  by_cases z : 0 < s 309 58
  · have k9 := y_kl_9 ci ok lm (k := s 309 58 - 1) (d := d) (by omega) (by omega) hd
    have b2 := b.2 z
    omega
  · have e : s 309 58 = 0 := by omega
    rw [e] at b ⊢
    have z0 : y_cl s d l 0 = 0 := y_su0
    omega
/-- s is s0 but for things from number t on -/
def y_TF (s0 s : z_M) (t : Int) : Prop := ∀ a b : Int, ¬ (a = 309 ∧ b = 60) → ¬ (3653 + t ≤ a ∧ a ≤ 7652) → s a b = s0 a b
/-- s is s0 but for things and what comes behind them -/
def y_GF (s0 s : z_M) : Prop := ∀ a b : Int, ¬ (a = 309 ∧ b = 60) → ¬ (3653 ≤ a) → s a b = s0 a b
theorem y_TF.gf {s0 s : z_M} {t : Int} (tf : y_TF s0 s t) (ht : 0 ≤ t) : y_GF s0 s := fun a b p q => tf a b p (by omega)
theorem y_GF.ok {s0 s : z_M} (tf : y_GF s0 s) (ok : y_OKy s0) : y_OKy s ∧ y_dm s = y_dm s0 := ok.fr (tf 309 20 (by omega) (by omega)) (fun a b q => tf a b (by omega) (by omega)) (fun j => tf 312 j (by omega) (by omega))
theorem y_GF.lm {s0 s : z_M} (tf : y_GF s0 s) (ok : y_OKy s0) (lm : y_LBm (y_dm s0) s0) : y_LBm (y_dm s) s := by
  rw [(tf.ok ok).2]
  exact lm.fr (tf 309 20 (by omega) (by omega)) (tf 309 44 (by omega) (by omega)) (tf 309 58 (by omega) (by omega)) (fun x y q => tf x y (by omega) (by omega)) ok.1.1.1.2
theorem y_GF.kl {s0 s : z_M} (tf : y_GF s0 s) (ok : y_OKy s0) (lm : y_LBm (y_dm s0) s0) {k d : Int} (h0 : 0 ≤ k) (h1 : k < s0 309 58) (h2 : k < 200) : y_kl s k d = y_kl s0 k d := by
  obtain ⟨l, f, z, l01, r1, ⟨b0, b1, _⟩, _, k7, _⟩ := lm.bk ok h0 h1
  unfold y_kl
  rw [tf (3452 + k) 0 (by omega) (by omega), tf (3452 + k) 1 (by omega) (by omega), b0, b1]
  refine y_sum_cg _ (fun i p q => ?_)
  have r := ok.1.1.2.2.2 i (by omega) (by omega) (k7 i p (by omega))
  show y_rl s i d = y_rl s0 i d
  unfold y_rl
  rw [tf 3221 i (by omega) (by omega), tf 361 (s0 3221 i) (by omega) (by omega), tf (407 + s0 361 (s0 3221 i)) (10 * d) (by omega) (by omega)]
theorem y_GF.gp {s0 s : z_M} (tf : y_GF s0 s) (ok : y_OKy s0) (lm : y_LBm (y_dm s0) s0) {k d i : Int} (h0 : 0 ≤ k) (h1 : k < s0 309 58) (h2 : k < 200) : y_gpp s k d i = y_gpp s0 k d i := by
  unfold y_gpp
  rw [tf.kl ok lm h0 h1 h2, tf (3452 + k) 2 (by omega) (by omega), tf (3452 + k) 0 (by omega) (by omega), tf 3442 _ (by omega) (by omega)]
theorem em_kl' {fu : Nat} (hfu : 8589934592 ≤ fu) {s0 s : z_M} (tf : y_GF s0 s) (ok : y_OKy s0) (lm : y_LBm (y_dm s0) s0) {k d : Int} (h0 : 0 ≤ k) (h1 : k < s0 309 58) (h2 : k < 200) (hd : d = 0 ∨ d = 1) : fX12_lettersIn fu s 309 k d = some (vI (y_kl s0 k d), s) := by
  rw [← tf.kl ok lm h0 h1 h2]
  exact em_lettersIn hfu (tf.ok ok).1 (tf.lm ok lm) h0 (by rw [tf 309 58 (by omega) (by omega)]; exact h1) h2 hd
theorem em_gp' {fu : Nat} (hfu : 8589934592 ≤ fu) {s0 s : z_M} (tf : y_GF s0 s) (ok : y_OKy s0) (lm : y_LBm (y_dm s0) s0) {k d i : Int} (h0 : 0 ≤ k) (h1 : k < s0 309 58) (h2 : k < 200) (hd : d = 0 ∨ d = 1) (hn : 0 < y_kl s0 k d) : fX12_letterPlace fu s 309 k d i = some (vI (y_gpp s0 k d i), s) := by
  rw [← tf.gp ok lm h0 h1 h2]
  exact em_gp hfu (tf.ok ok).1 (tf.lm ok lm) h0 (by rw [tf 309 58 (by omega) (by omega)]; exact h1) h2 hd (by rw [tf.kl ok lm h0 h1 h2]; exact hn)
/-- x is in one of things a to b -/
def y_TSS (s : z_M) (a b x : Int) : Prop := ∃ i : Int, a ≤ i ∧ i < b ∧ s (3653 + i) 0 ≤ x ∧ x < s (3653 + i) 0 + s (3653 + i) 1
/-- things from t0 on to t cover S; all of them are from -1000 (far) to 1000 (far) -/
def y_TB (s0 s : z_M) (t0 t : Int) (S : Int → Prop) : Prop := y_TF s0 s t0 ∧ s 309 60 = t ∧ (∀ x : Int, y_TSS s t0 t x ↔ S x) ∧ ∀ i : Int, t0 ≤ i → i < t → (-600000000 ≤ s (3653 + i) 0 ∧ s (3653 + i) 0 ≤ 600000000) ∧ (1 ≤ s (3653 + i) 1 ∧ s (3653 + i) 1 ≤ 6)
theorem y_TB.cg {s0 s : z_M} {t0 t t' : Int} {S S' : Int → Prop} (h : y_TB s0 s t0 t S) (et : t = t') (e : ∀ x : Int, S x ↔ S' x) : y_TB s0 s t0 t' S' := by
  subst et
  exact ⟨h.1, h.2.1, fun x => (h.2.2.1 x).trans (e x), h.2.2.2⟩
theorem y_or3 {a b c d : Prop} (h : d ↔ b ∨ c) : (a ∨ b) ∨ c ↔ a ∨ d := by rw [h, or_assoc]
theorem em_addsThing {fu : Nat} {s0 s : z_M} {t0 t x so : Int} {S : Int → Prop} (h : y_TB s0 s t0 t S) (ht : 0 ≤ t0 ∧ t0 ≤ t ∧ t < 4000) (hx : -600000000 ≤ x ∧ x ≤ 600000000) (hso : 1 ≤ so ∧ so ≤ 6) : z_T (fX12_addsThing fu s 309 x so) (fun v s' => v = vN ∧ y_TB s0 s' t0 (t + 1) (fun y => S y ∨ (x ≤ y ∧ y < x + so))) := by
  have e60 := h.2.1
  refine T_of (fX12_addsThing.eq_1 ..) ?_
  refine T_if1 v_ob309 ?_
  refine T_let 3652 v_gm61 ?_
  refine T_if1 v_ob309 ?_
  refine T_let t e60 ?_
  refine T_if1 (v_x3652 (by omega)) ?_
  refine T_let (3653 + t) (gr_3652 _) ?_
  refine T_if1 (v_xt (by omega) (by omega)) ?_
  refine T_upG (fun s1 a1 f1 => ?_)
  refine T_if1 v_ob309 ?_
  refine T_let 3652 v_gm61 ?_
  refine T_if1 v_ob309 ?_
  refine T_let t ((f1 309 60 (by omega)).trans e60) ?_
  refine T_if1 (v_x3652 (by omega)) ?_
  refine T_let (3653 + t) (gr_3652 _) ?_
  refine T_if1 (v_xt (by omega) (by omega)) ?_
  refine T_upG (fun s2 a2 f2 => ?_)
  refine T_if1 v_ob309 ?_
  refine T_let t ((f2 309 60 (by omega)).trans ((f1 309 60 (by omega)).trans e60)) ?_
  refine T_let (t + 1) (v_wid (by omega)) ?_
  refine T_if1 v_ob309 ?_
  refine T_upG (fun s3 a3 f3 => ?_)
  have fr : ∀ a b : Int, ¬ (a = 309 ∧ b = 60) → a ≠ 3653 + t → s3 a b = s a b := fun a b p q => by rw [f3 a b p, f2 a b (by omega), f1 a b (by omega)]
  have g0 : s3 (3653 + t) 0 = x := by rw [f3 _ _ (by omega), f2 _ _ (by omega), a1]
  have g1 : s3 (3653 + t) 1 = so := by rw [f3 _ _ (by omega), a2]
  have ol : ∀ i b : Int, t0 ≤ i → i < t → s3 (3653 + i) b = s (3653 + i) b := fun i b p q => fr _ _ (by omega) (by omega)
  refine T_ret ⟨rfl, fun a b p q => ?_, a3, fun y => ⟨fun r => ?_, fun r => ?_⟩, fun i p q => ?_⟩
  · rw [fr a b p (by omega)]
    exact h.1 a b p q
  · obtain ⟨i, p, q, r1, r2⟩ := r
    by_cases z : i = t
    · rw [z, g0] at r1 r2
      rw [g1] at r2
      exact Or.inr ⟨r1, r2⟩
    · rw [ol i 0 p (by omega)] at r1 r2
      rw [ol i 1 p (by omega)] at r2
      exact Or.inl ((h.2.2.1 y).mp ⟨i, p, by omega, r1, r2⟩)
  · rcases r with r | r
    · obtain ⟨i, p, q, r1, r2⟩ := (h.2.2.1 y).mpr r
      exact ⟨i, p, by omega, by rw [ol i 0 p q]; exact r1, by rw [ol i 0 p q, ol i 1 p q]; exact r2⟩
    · exact ⟨t, by omega, by omega, by rw [g0]; exact r.1, by rw [g0, g1]; exact r.2⟩
  · by_cases z : i = t
    · rw [z, g0, g1]
      exact ⟨hx, hso⟩
    · rw [ol i 0 p (by omega), ol i 1 p (by omega)]
      exact h.2.2.2 i p (by omega)
/-- letters of block k ahead of the i-th cover x -/
def y_CI2 (s : z_M) (d k i x : Int) : Prop := ∃ j : Int, 0 ≤ j ∧ j < i ∧ y_gpp s k d j ≤ x ∧ x < y_gpp s k d j + 6
theorem y_CI2.s {s : z_M} {d k i x : Int} (h : 0 ≤ i) : y_CI2 s d k (i + 1) x ↔ y_CI2 s d k i x ∨ (y_gpp s k d i ≤ x ∧ x < y_gpp s k d i + 6) := by
  constructor
  · rintro ⟨j, p, q, r⟩
    by_cases z : j = i
    · rw [z] at r
      exact Or.inr r
    · exact Or.inl ⟨j, p, by omega, r⟩
  · intro r
    rcases r with ⟨j, p, q, r⟩ | r
    · exact ⟨j, p, by omega, r⟩
    · exact ⟨i, h, by omega, r⟩
theorem em_llI {fu : Nat} (hfu : 8589934592 ≤ fu) {s0 : z_M} (ok : y_OKy s0) (lm : y_LBm (y_dm s0) s0) {t0 t k l d : Int} {S : Int → Prop} (h0 : 0 ≤ k) (h1 : k < s0 309 58) (h2 : k < 200) (hd : d = 0 ∨ d = 1) (ht : 0 ≤ t0 ∧ t0 ≤ t ∧ t + y_kl s0 k d ≤ 4000) {kont : z_M → z_O} {P : z_V → z_M → Prop} (kk : ∀ s' : z_M, y_TB s0 s' t0 (t + y_kl s0 k d) (fun x => S x ∨ y_CI2 s0 d k (y_kl s0 k d) x) → z_T (kont s') P) : ∀ (m F : Nat) (s : z_M) (i : Int), (m : Int) = y_kl s0 k d - i → m < F → 0 ≤ i → y_TB s0 s t0 (t + i) (fun x => S x ∨ y_CI2 s0 d k i x) → z_T (fX12_laysLetters_L33 fu 309 l d k F s i kont) P := by
  have gb := lm.gb ok h0 h1 hd
  intro m
  induction m with
  | zero =>
    intro F s i e hF h3 g
    obtain ⟨F, rfl⟩ : ∃ F2, F = F2 + 1 := ⟨F - 1, by omega⟩
    have ei : i = y_kl s0 k d := by omega
    refine T_of (fX12_laysLetters_L33.eq_2 ..) ?_
    refine T_if1 v_ob309 ?_
    refine T_bI (T_of (em_kl' hfu (g.1.gf ht.1) ok lm h0 h1 h2 hd) (T_rI ?_))
    refine T_if1 (by omega) ?_
    rw [ei] at g
    exact kk s g
  | succ m ih =>
    intro F s i e hF h3 g
    obtain ⟨F, rfl⟩ : ∃ F2, F = F2 + 1 := ⟨F - 1, by omega⟩
    have gi := gb.2 i h3 (by omega)
    refine T_of (fX12_laysLetters_L33.eq_2 ..) ?_
    refine T_if1 v_ob309 ?_
    refine T_bI (T_of (em_kl' hfu (g.1.gf ht.1) ok lm h0 h1 h2 hd) (T_rI ?_))
    refine T_if0 (by omega) ?_
    refine T_if1 v_ob309 ?_
    refine T_bI (T_of (em_gp' hfu (g.1.gf ht.1) ok lm h0 h1 h2 hd (by omega)) (T_rI ?_))
    refine T_if1 v_ob309 ?_
    refine T_useN (em_addsThing (so := 6) g (by omega) (by omega) (by decide)) (fun v s1 hq => ?_)
    obtain ⟨rfl, g1⟩ := hq
    refine T_vN ?_
    refine T_let (i + 1) (v_wid (by omega)) ?_
    exact ih F s1 (i + 1) (by omega) (by omega) (by omega) (g1.cg (by omega) (fun x => y_or3 (y_CI2.s h3)))
/-- letters of line l in blocks ahead of b cover x -/
def y_CL2 (s : z_M) (d l b x : Int) : Prop := ∃ k j : Int, (0 ≤ k ∧ k < b) ∧ y_Lk s k = l ∧ (0 ≤ j ∧ j < y_kl s k d) ∧ y_gpp s k d j ≤ x ∧ x < y_gpp s k d j + 6
theorem y_CL2.s {s : z_M} {d l b x : Int} (h : 0 ≤ b) : y_CL2 s d l (b + 1) x ↔ y_CL2 s d l b x ∨ (y_Lk s b = l ∧ y_CI2 s d b (y_kl s b d) x) := by
  constructor
  · rintro ⟨k, j, p, q, r, u⟩
    by_cases z : k = b
    · subst z
      exact Or.inr ⟨q, j, r.1, r.2, u⟩
    · exact Or.inl ⟨k, j, by omega, q, r, u⟩
  · intro r
    rcases r with ⟨k, j, p, q, r, u⟩ | ⟨q, j, r1, r2, u⟩
    · exact ⟨k, j, by omega, q, r, u⟩
    · exact ⟨b, j, by omega, q, ⟨r1, r2⟩, u⟩
theorem em_llK {fu : Nat} (hfu : 8589934592 ≤ fu) {s0 : z_M} (ci : y_CRg s0) (ok : y_OKy s0) (lm : y_LBm (y_dm s0) s0) (h58 : 0 ≤ s0 309 58 ∧ s0 309 58 ≤ 200) {t0 t l d : Int} {S : Int → Prop} (hd : d = 0 ∨ d = 1) (ht : 0 ≤ t0 ∧ t0 ≤ t ∧ t + y_cl s0 d l (s0 309 58) ≤ 4000) {kont : z_M → z_O} {P : z_V → z_M → Prop} (kk : ∀ s' : z_M, y_TB s0 s' t0 (t + y_cl s0 d l (s0 309 58)) (fun x => S x ∨ y_CL2 s0 d l (s0 309 58) x) → z_T (kont s') P) : ∀ (m F : Nat) (s : z_M) (b : Int), (m : Int) = s0 309 58 - b → m < F → 0 ≤ b → y_TB s0 s t0 (t + y_cl s0 d l b) (fun x => S x ∨ y_CL2 s0 d l b x) → z_T (fX12_laysLetters_L2 fu 309 l d F s b kont) P := by
  intro m
  induction m with
  | zero =>
    intro F s b e hF h3 g
    obtain ⟨F, rfl⟩ : ∃ F2, F = F2 + 1 := ⟨F - 1, by omega⟩
    have eb : b = s0 309 58 := by omega
    have e58 : s 309 58 = s0 309 58 := g.1 309 58 (by omega) (by omega)
    refine T_of (fX12_laysLetters_L2.eq_2 ..) ?_
    refine T_if1 v_ob309 ?_
    refine T_let (s0 309 58) e58 ?_
    refine T_if1 (by omega) ?_
    rw [eb] at g
    exact kk s g
  | succ m ih =>
    intro F s b e hF h3 g
    obtain ⟨F, rfl⟩ : ∃ F2, F = F2 + 1 := ⟨F - 1, by omega⟩
    have e58 : s 309 58 = s0 309 58 := g.1 309 58 (by omega) (by omega)
    have k9 := y_kl_9 ci ok lm (k := b) (d := d) h3 (by omega) hd
    have f0 : s (3452 + b) 0 = s0 (3452 + b) 0 := g.1 _ _ (by omega) (by omega)
    have f1 : s 3441 (s0 (3452 + b) 0) = y_Lk s0 b := g.1 _ _ (by omega) (by omega)
    have m0 := y_cl_b ci ok lm (l := l) hd b.toNat b (by omega) (by omega)
    have m1 := y_cl_m ci ok lm (l := l) hd (s0 309 58 - (b + 1)).toNat (b + 1) (s0 309 58) (by omega) (by omega) (Int.le_refl _)
    have sS : y_cl s0 d l (b + 1) = y_cl s0 d l b + y_lq s0 d l b := y_suS h3
    refine T_of (fX12_laysLetters_L2.eq_2 ..) ?_
    refine T_if1 v_ob309 ?_
    refine T_let (s0 309 58) e58 ?_
    refine T_if0 (by omega) ?_
    refine T_if1 v_ob309 ?_
    refine T_let 3441 v_gm48 ?_
    refine T_if1 v_ob309 ?_
    refine T_let 3451 v_gm59 ?_
    refine T_if1 (v_x3451 (by omega)) ?_
    refine T_let (3452 + b) (gr_3451 _) ?_
    refine T_if1 (v_xb (by omega) (by omega)) ?_
    refine T_let (s0 (3452 + b) 0) f0 ?_
    refine T_if1 (v_x3441 (by omega)) ?_
    refine T_let (y_Lk s0 b) f1 ?_
    refine T_ite (fun hL => ?_) (fun hL => ?_)
    · have lq : y_lq s0 d l b = y_kl s0 b d := if_pos hL
      refine em_llI hfu ok lm (S := fun x => S x ∨ y_CL2 s0 d l b x) (t := t + y_cl s0 d l b) h3 (by omega) (by omega) hd (by omega) (fun s1 g1 => ?_) (y_kl s0 b d).toNat fu s 0 (by omega) (by omega) (Int.le_refl _) (g.cg (by omega) (fun x => ⟨Or.inl, fun r => r.elim id (fun q => by obtain ⟨j, p1, p2, _⟩ := q; omega)⟩))
      refine T_of (fX12_laysLetters_J64.eq_1 ..) ?_
      refine T_let (b + 1) (v_wid (by omega)) ?_
      exact ih F s1 (b + 1) (by omega) (by omega) (by omega) (g1.cg (by omega) (fun x => y_or3 ((y_CL2.s h3).trans (or_congr_right ⟨fun r => r.2, fun r => ⟨hL, r⟩⟩))))
    · have lq : y_lq s0 d l b = 0 := if_neg hL
      refine T_of (fX12_laysLetters_J64.eq_1 ..) ?_
      refine T_let (b + 1) (v_wid (by omega)) ?_
      exact ih F s (b + 1) (by omega) (by omega) (by omega) (g.cg (by omega) (fun x => or_congr_right (((y_CL2.s h3).trans ⟨fun r => r.elim id (fun q => absurd q.1 hL), Or.inl⟩).symm)))
theorem em_laysLetters {fu : Nat} (hfu : 8589934592 ≤ fu) {s0 s : z_M} (ci : y_CRg s0) (ok : y_OKy s0) (lm : y_LBm (y_dm s0) s0) (h58 : 0 ≤ s0 309 58 ∧ s0 309 58 ≤ 200) {t0 t l d : Int} {S : Int → Prop} (hd : d = 0 ∨ d = 1) (ht : 0 ≤ t0 ∧ t0 ≤ t ∧ t + y_cl s0 d l (s0 309 58) ≤ 4000) (g : y_TB s0 s t0 t S) : z_T (fX12_laysLetters fu s 309 l d) (fun v s' => v = vI (t + y_cl s0 d l (s0 309 58)) ∧ y_TB s0 s' t0 (t + y_cl s0 d l (s0 309 58)) (fun x => S x ∨ y_CL2 s0 d l (s0 309 58) x)) := by
  refine T_of (fX12_laysLetters.eq_1 ..) ?_
  have c0 : y_cl s0 d l 0 = 0 := y_su0
  refine em_llK hfu ci ok lm h58 (S := S) hd ht (fun s1 g1 => ?_) (s0 309 58).toNat fu s 0 (by omega) (by omega) (Int.le_refl _) (g.cg (by omega) (fun x => ⟨Or.inl, fun r => r.elim id (fun q => by obtain ⟨k, j, p, _⟩ := q; omega)⟩))
  refine T_if1 v_ob309 ?_
  refine T_let _ g1.2.1 ?_
  exact T_ret ⟨rfl, g1⟩

/-! marks -/
theorem y_GF.mm {s0 s : z_M} (tf : y_GF s0 s) (mo : y_MO s0) {i : Int} (h0 : 0 ≤ i) (h1 : i < s0 316 0) : y_mm s i = y_mm s0 i := by
  have m := mo i h0 h1
  unfold y_mm
  rw [tf 346 i (by omega) (by omega), tf 376 i (by omega) (by omega), tf 361 i (by omega) (by omega)]
  by_cases k7 : s0 346 i = 7
  · have b := (m.2 k7).1
    rw [if_pos k7, if_pos k7, tf (407 + s0 361 i) 10 (by omega) (by omega)]
  · rw [if_neg k7, if_neg k7]
theorem em_mm' {fu : Nat} (hfu : 8589934592 ≤ fu) {s0 s : z_M} (tf : y_GF s0 s) (mo : y_MO s0) {i : Int} (h0 : 0 ≤ i) (h1 : i < s0 316 0) (h2 : i < 200) : fX12_marksOf fu s 309 i = some (vI (y_mm s0 i), s) := by
  rw [← tf.mm mo h0 h1]
  have m := mo i h0 h1
  refine e_mmarksOf hfu ⟨h0, h2⟩ (by rw [tf 376 i (by omega) (by omega)]; exact m.1) (fun k7 => ?_)
  rw [tf 346 i (by omega) (by omega)] at k7
  have b := m.2 k7
  rw [tf 361 i (by omega) (by omega), tf (407 + s0 361 i) 0 (by omega) (by omega)]
  exact b
/-- marks from sign A on ahead of i cover x -/
def y_CM2 (s : z_M) (d A i x : Int) : Prop := ∃ j : Int, (A ≤ j ∧ j < i) ∧ y_ms s d j = 1 ∧ s 3443 j + 4 ≤ x ∧ x < s 3443 j + 4 + 4
theorem y_CM2.s {s : z_M} {d A i x : Int} (h : A ≤ i) : y_CM2 s d A (i + 1) x ↔ y_CM2 s d A i x ∨ (y_ms s d i = 1 ∧ s 3443 i + 4 ≤ x ∧ x < s 3443 i + 4 + 4) := by
  constructor
  · rintro ⟨j, p, r⟩
    by_cases z : j = i
    · rw [z] at r
      exact Or.inr r
    · exact Or.inl ⟨j, by omega, r⟩
  · intro r
    rcases r with ⟨j, p, r⟩ | r
    · exact ⟨j, by omega, r⟩
    · exact ⟨i, by omega, r⟩
theorem y_ms_su {s : z_M} (mo : y_MO s) {d A : Int} (hd : d = 0 ∨ d = 1) (hA : 0 ≤ A) : ∀ (m : Nat) (i : Int), (m : Int) = i - A → i ≤ s 316 0 → 0 ≤ y_su (y_ms s d) A i ∧ y_su (y_ms s d) A i ≤ i - A := by
  intro m i e h
  have r := y_sum_r (f := y_ms s d) (a := A) (m := 1) (i - A).toNat (fun j p q => mo.ms hd (by omega) (by omega))
  unfold y_su
  omega
theorem em_lsI {fu : Nat} (hfu : 8589934592 ≤ fu) {s0 : z_M} (ok : y_OKy s0) (lm : y_LBm (y_dm s0) s0) (mo : y_MO s0) (pu : y_PU s0) {t0 t A l d u : Int} {S : Int → Prop} (hu : 0 ≤ u ∧ u < s0 309 20) (hA : 0 ≤ A) (hn : s0 316 0 ≤ 200) (hd : d = 0 ∨ d = 1) (ht : 0 ≤ t0 ∧ t0 ≤ t ∧ t + 200 ≤ 4000) {kont : z_M → z_O} {P : z_V → z_M → Prop} (kk : ∀ s' : z_M, y_TB s0 s' t0 (t + y_su (y_ms s0 d) A (s0 3221 u + s0 3222 u)) (fun x => S x ∨ y_CM2 s0 d A (s0 3221 u + s0 3222 u) x) → z_T (kont s') P) : ∀ (m F : Nat) (s : z_M) (i : Int), (m : Int) = s0 3221 u + s0 3222 u - i → m < F → s0 3221 u ≤ i → A ≤ i → y_TB s0 s t0 (t + y_su (y_ms s0 d) A i) (fun x => S x ∨ y_CM2 s0 d A i x) → z_T (fX12_laysSide_L34 fu 309 l d u F s i kont) P := by
  have un := pu.un hu.1 hu.2
  have nn := ok.1.1.1
  have pl := (lm.pl ok hu.1 hu.2).2
  intro m
  induction m with
  | zero =>
    intro F s i e hF h3 h4 g
    obtain ⟨F, rfl⟩ : ∃ F2, F = F2 + 1 := ⟨F - 1, by omega⟩
    have e1 : s 3221 u = s0 3221 u := g.1 _ _ (by omega) (by omega)
    have e2 : s 3222 u = s0 3222 u := g.1 _ _ (by omega) (by omega)
    have ei : i = s0 3221 u + s0 3222 u := by omega
    refine T_of (fX12_laysSide_L34.eq_2 ..) ?_
    refine T_if1 v_ob309 ?_
    refine T_let 3221 v_gm22 ?_
    refine T_if1 (v_x3221 (by omega)) ?_
    refine T_let (s0 3221 u) e1 ?_
    refine T_if1 v_ob309 ?_
    refine T_let 3222 v_gm23 ?_
    refine T_if1 (v_x3222 (by omega)) ?_
    refine T_let (s0 3222 u) e2 ?_
    refine T_let ((s0 3221 u) + (s0 3222 u)) (v_wid (by omega)) ?_
    refine T_if1 (by omega) ?_
    rw [ei] at g
    exact kk s g
  | succ m ih =>
    intro F s i e hF h3 h4 g
    obtain ⟨F, rfl⟩ : ∃ F2, F = F2 + 1 := ⟨F - 1, by omega⟩
    have e1 : s 3221 u = s0 3221 u := g.1 _ _ (by omega) (by omega)
    have e2 : s 3222 u = s0 3222 u := g.1 _ _ (by omega) (by omega)
    have e3 : s 3443 i = s0 3443 i := g.1 _ _ (by omega) (by omega)
    have ms := mo.ms hd (i := i) (by omega) (by omega)
    have sb := y_ms_su mo hd hA (i - A).toNat i (by omega) (by omega)
    have sS : y_su (y_ms s0 d) A (i + 1) = y_su (y_ms s0 d) A i + y_ms s0 d i := y_suS h4
    have p3 := pl i h3 (by omega)
    refine T_of (fX12_laysSide_L34.eq_2 ..) ?_
    refine T_if1 v_ob309 ?_
    refine T_let 3221 v_gm22 ?_
    refine T_if1 (v_x3221 (by omega)) ?_
    refine T_let (s0 3221 u) e1 ?_
    refine T_if1 v_ob309 ?_
    refine T_let 3222 v_gm23 ?_
    refine T_if1 (v_x3222 (by omega)) ?_
    refine T_let (s0 3222 u) e2 ?_
    refine T_let ((s0 3221 u) + (s0 3222 u)) (v_wid (by omega)) ?_
    refine T_if0 (by omega) ?_
    refine T_if1 v_ob309 ?_
    refine T_bI (T_of (em_mm' hfu (g.1.gf ht.1) mo (by omega) (by omega) (by omega)) (T_rI ?_))
    refine T_let (z_shr (y_mm s0 i) d) rfl ?_
    refine T_let (y_ms s0 d i) rfl ?_
    refine T_ite (fun hM => ?_) (fun hM => ?_)
    · refine T_of (fX12_laysSide_J80.eq_1 ..) ?_
      refine T_let (i + 1) (v_wid (by omega)) ?_
      exact ih F s (i + 1) (by omega) (by omega) (by omega) (by omega) (g.cg (by omega) (fun x => or_congr_right (((y_CM2.s h4).trans ⟨fun r => r.elim id (fun q => absurd q.1 hM), Or.inl⟩).symm)))
    · refine T_if1 v_ob309 ?_
      refine T_let 3443 v_gm50 ?_
      refine T_if1 (v_x3443 (by omega)) ?_
      refine T_let (s0 3443 i) e3 ?_
      refine T_let ((s0 3443 i) + 4) (v_wid (by omega)) ?_
      refine T_if1 v_ob309 ?_
      refine T_useN (em_addsThing (so := 4) g (by omega) (by omega) (by decide)) (fun v s1 hq => ?_)
      obtain ⟨rfl, g1⟩ := hq
      refine T_vN ?_
      refine T_of (fX12_laysSide_J80.eq_1 ..) ?_
      refine T_let (i + 1) (v_wid (by omega)) ?_
      exact ih F s1 (i + 1) (by omega) (by omega) (by omega) (by omega) (g1.cg (by omega) (fun x => y_or3 ((y_CM2.s h4).trans (or_congr_right ⟨fun r => r.2, fun r => ⟨by omega, r⟩⟩))))
theorem em_lsU {fu : Nat} (hfu : 8589934592 ≤ fu) {s0 : z_M} (ok : y_OKy s0) (lm : y_LBm (y_dm s0) s0) (mo : y_MO s0) (pu : y_PU s0) {t0 t A l d : Int} {S : Int → Prop} (hl : 0 ≤ l ∧ l < s0 309 44 ∧ l < 200) (hA : 0 ≤ A) (hn : s0 316 0 ≤ 200) (hd : d = 0 ∨ d = 1) (ht : 0 ≤ t0 ∧ t0 ≤ t ∧ t + 200 ≤ 4000) {kont : z_M → z_O} {P : z_V → z_M → Prop} (kk : ∀ s' : z_M, y_TB s0 s' t0 (t + y_su (y_ms s0 d) A (y_fm s0 (s0 3438 (l + 1)))) (fun x => S x ∨ y_CM2 s0 d A (y_fm s0 (s0 3438 (l + 1))) x) → z_T (kont s') P) : ∀ (m F : Nat) (s : z_M) (u : Int), (m : Int) = s0 3438 (l + 1) - u → m < F → s0 3438 l ≤ u → A ≤ y_fm s0 u → y_TB s0 s t0 (t + y_su (y_ms s0 d) A (y_fm s0 u)) (fun x => S x ∨ y_CM2 s0 d A (y_fm s0 u) x) → z_T (fX12_laysSide_L14 fu 309 l d F s u kont) P := by
  have rr := lm.r1 hl.1 hl.2.1
  have nn := ok.1.1.1
  intro m
  induction m with
  | zero =>
    intro F s u e hF h3 h4 g
    obtain ⟨F, rfl⟩ : ∃ F2, F = F2 + 1 := ⟨F - 1, by omega⟩
    have e1 : s 3438 (l + 1) = s0 3438 (l + 1) := g.1 _ _ (by omega) (by omega)
    have eu : u = s0 3438 (l + 1) := by omega
    refine T_of (fX12_laysSide_L14.eq_2 ..) ?_
    refine T_if1 v_ob309 ?_
    refine T_let 3438 v_gm45 ?_
    refine T_let (l + 1) (v_wid (by omega)) ?_
    refine T_if1 (v_x3438 (by omega)) ?_
    refine T_let (s0 3438 (l + 1)) e1 ?_
    refine T_if1 (by omega) ?_
    rw [eu] at g
    exact kk s g
  | succ m ih =>
    intro F s u e hF h3 h4 g
    obtain ⟨F, rfl⟩ : ∃ F2, F = F2 + 1 := ⟨F - 1, by omega⟩
    have e1 : s 3438 (l + 1) = s0 3438 (l + 1) := g.1 _ _ (by omega) (by omega)
    have e2 : s 3221 u = s0 3221 u := g.1 _ _ (by omega) (by omega)
    obtain ⟨m1, m2⟩ := pu.fm (v := u) (by omega) (by omega)
    have un := pu.un (v := u) (by omega) (by omega)
    rw [m1] at g h4
    refine T_of (fX12_laysSide_L14.eq_2 ..) ?_
    refine T_if1 v_ob309 ?_
    refine T_let 3438 v_gm45 ?_
    refine T_let (l + 1) (v_wid (by omega)) ?_
    refine T_if1 (v_x3438 (by omega)) ?_
    refine T_let (s0 3438 (l + 1)) e1 ?_
    refine T_if0 (by omega) ?_
    refine T_if1 v_ob309 ?_
    refine T_let 3221 v_gm22 ?_
    refine T_if1 (v_x3221 (by omega)) ?_
    refine T_let (s0 3221 u) e2 ?_
    refine em_lsI hfu ok lm mo pu ⟨by omega, by omega⟩ hA hn hd ht (fun s1 g1 => ?_) (s0 3222 u).toNat fu s (s0 3221 u) (by omega) (by omega) (Int.le_refl _) h4 g
    refine T_let (u + 1) (v_wid (by omega)) ?_
    rw [← m2] at g1
    exact ih F s1 (u + 1) (by omega) (by omega) (by omega) (by omega) g1
/-- marks of line l -/
def y_mk2 (s : z_M) (d l : Int) : Int := y_su (y_ms s d) (y_fm s (s 3438 l)) (y_fm s (s 3438 (l + 1)))
/-- all on side d of line l covers x -/
def y_CVV (s : z_M) (d l x : Int) : Prop := y_CL2 s d l (s 309 58) x ∨ y_CM2 s d (y_fm s (s 3438 l)) (y_fm s (s 3438 (l + 1))) x
theorem y_PU.fmm {s : z_M} (pu : y_PU s) (hn : 0 ≤ s 316 0) : ∀ (m : Nat) (u v : Int), (m : Int) = v - u → 0 ≤ u → v ≤ s 309 20 → y_fm s u ≤ y_fm s v ∧ 0 ≤ y_fm s u ∧ y_fm s v ≤ s 316 0 := by
  have lo : ∀ u : Int, 0 ≤ u → 0 ≤ y_fm s u ∧ y_fm s u ≤ s 316 0 := fun u h => by
    unfold y_fm
    by_cases z : u < s 309 20
    · rw [if_pos z]
      have := pu.un h z
      omega
    · rw [if_neg z]
      omega
  intro m
  induction m with
  | zero =>
    intro u v e h0 h1
    rw [show v = u by omega]
    have := lo u h0
    omega
  | succ m ih =>
    intro u v e h0 h1
    have a := ih u (v - 1) (by omega) h0 (by omega)
    have f := pu.fm (v := v - 1) (by omega) (by omega)
    have un := pu.un (v := v - 1) (by omega) (by omega)
    rw [show v - 1 + 1 = v by omega] at f
    have := lo v (by omega)
    omega
theorem em_laysSide {fu : Nat} (hfu : 8589934592 ≤ fu) {s0 s : z_M} (ci : y_CRg s0) (ok : y_OKy s0) (lm : y_LBm (y_dm s0) s0) (mo : y_MO s0) (pu : y_PU s0) {t0 t l d : Int} {S : Int → Prop} (hl : 0 ≤ l ∧ l < s0 309 44) (hd : d = 0 ∨ d = 1) (ht : 0 ≤ t0 ∧ t0 ≤ t ∧ t + y_cl s0 d l (s0 309 58) + 200 ≤ 4000) (g : y_TB s0 s t0 t S) : z_T (fX12_laysSide fu s 309 l d) (fun v s' => v = vI (t + y_cl s0 d l (s0 309 58) + y_mk2 s0 d l) ∧ y_TB s0 s' t0 (t + y_cl s0 d l (s0 309 58) + y_mk2 s0 d l) (fun x => S x ∨ y_CVV s0 d l x)) := by
  have h58 := ci.1
  have h44 := ci.2.1
  have n1 := ci.2.2.1
  have rr := lm.r1 hl.1 hl.2
  have nn := ok.1.1.1
  have cb := (y_cl_b ci ok lm (l := l) hd (s0 309 58).toNat (s0 309 58) (by omega) (Int.le_refl _)).1
  have fm := pu.fmm n1.1 (s0 3438 (l + 1) - s0 3438 l).toNat (s0 3438 l) (s0 3438 (l + 1)) (by omega) (by omega) (by omega)
  refine T_of (fX12_laysSide.eq_1 ..) ?_
  refine T_if1 v_ob309 ?_
  refine T_useI (em_laysLetters hfu ci ok lm h58 hd (by omega) g) (fun v s1 hq => ?_)
  obtain ⟨rfl, g1⟩ := hq
  refine T_vI ?_
  have e1 : s1 3438 l = s0 3438 l := g1.1 _ _ (by omega) (by omega)
  refine T_if1 v_ob309 ?_
  refine T_let 3438 v_gm45 ?_
  refine T_if1 (v_x3438 (by omega)) ?_
  refine T_let (s0 3438 l) e1 ?_
  have z0 : y_su (y_ms s0 d) (y_fm s0 (s0 3438 l)) (y_fm s0 (s0 3438 l)) = 0 := y_su0
  refine em_lsU hfu ok lm mo pu (A := y_fm s0 (s0 3438 l)) (S := fun x => S x ∨ y_CL2 s0 d l (s0 309 58) x) (t := t + y_cl s0 d l (s0 309 58)) ⟨hl.1, hl.2, by omega⟩ fm.2.1 n1.2 hd (by omega) (fun s2 g2 => ?_) (s0 3438 (l + 1) - s0 3438 l).toNat fu s1 (s0 3438 l) (by omega) (by omega) (Int.le_refl _) (Int.le_refl _) (g1.cg (by omega) (fun x => ⟨Or.inl, fun r => r.elim id (fun q => by obtain ⟨j, p, _⟩ := q; omega)⟩))
  refine T_if1 v_ob309 ?_
  refine T_let _ g2.2.1 ?_
  exact T_ret ⟨rfl, g2.cg rfl (fun x => or_assoc)⟩
